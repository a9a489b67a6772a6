set_option maxHeartbeats 4000000 in
set_option maxRecDepth 100000 in
theorem c_X13_takeG (l : Launch) (D : va_G) (cy : Nat → ClassId) (A : Nat → Prop) (X : State → Prop) (hst : mk_St A X) (hXT : ∀ U : State, X U → TB U) (e0 : Nat) (tk : Nat → Nat) (hXE : ∀ U : State, X U → ES e0 tk A U) (mi : Nat) (hXL : ∀ U : State, X U → EL e0 mi A U) (ax adK adV : Nat → Nat) (hXX : ∀ U : State, X U → TX ax adK adV tk A U) (G : Nat → Option va_E) (G0 : Nat → Option va_E) (Bx : Nat → Prop) (v : EdV) (z : PtV) (LA EA : Nat → Nat) (AD : Nat → Nat → Nat) (PI : Nat → Nat) (ed na : Nat) (nc : Int32) (iu : Option Nat) (w9 : Int32 × Option Nat) (o tx rd to se kp : Nat) (hd rg : Option Nat) (tl : Int32) (kn : Nat) (kf : Nat → Option Nat) (hP : EDP cy e0 tk G0 Bx G v z LA EA AD PI) (hBe : Bx ed) (hed : G ed = some (.inr (3, [.ref (LA 0), .ref (LA 1), .ref (LA 2), .ref (LA 3), .ref (LA 4), .ref (LA 5), .ref na, .int nc, va_rf iu, .int w9.1, va_rf (w9.2.map (AD 1))]))) (h0 : G o = some (.inr (14, [.ref tx, .ref rd, .ref to, .ref se, .ref kp, .int tl, .int (nI kn), va_rf hd, va_rf rg]))) (hkp : G kp = some (.inl (cy 6, 4, .inr (.inr (.inr (.inr kf)))))) (hkn : kn ≤ 4) (hBo : Bx o) (hBk : Bx kp) : Met l yX13_take [.code yX13_take cX13_take 2 none] ({ frames := 3, cells := 0, slots := 0, locals := 90 }) (mk_Pre D vwCl (tyL cy) A X G [.ref o, .ref ed]) (va_Qv (fun (G2 : Nat → Option va_E) => G2 o = some (.inr (14, [.ref tx, .ref rd, .ref to, .ref se, .ref kp, .int tl, .int (nI (if kn < 4 then kn + 1 else kn)), .ref ed, va_rf rg])) ∧ G2 ed = some (.inr (3, [.ref (LA 0), .ref (LA 1), .ref (LA 2), .ref (LA 3), .ref (LA 4), .ref (LA 5), .ref na, .int nc, va_rf (if v.nL = 0 then iu else some (AD 1 0)), .int w9.1, va_rf (w9.2.map (AD 1))])) ∧ G2 kp = some (.inl (cy 6, 4, .inr (.inr (.inr (.inr (if kn < 4 then va_up kf kn (some ed) else kf)))))) ∧ EDP cy e0 tk G0 Bx G2 v z LA EA AD PI ∧ ∀ (x : Nat) (e : va_E), G x = some e → x ≠ o → x ≠ ed → x ≠ kp → G2 x = some e) (mk_B D vwCl A) A) 0 0 A := by
  refine Met.ofW (cc := cX13_take) (maxL := 2) (ret := none) (by decide) rfl ?_
  intro p e s m args below meth c s₁ B hml hv
  obtain ⟨rfl, hG, hK, hA, hX⟩ := hv
  have hx := B.exec
  have hb := B.bytes
  have hr := B.returns
  have hlocks := B.notSynchronized
  have hT := hXT s hX
  have hown : s.vm.findClass RX13 = some m.cls := findClass_of_methodNamed B.named
  have hf_X13 : ∀ w ∈ u_ws RX13 TX13 9, w.before ([.ref o, .ref ed] : List Value).toArray s = true := tb_list hT fX13
  have hf_X2 : ∀ w ∈ u_ws RX2 TX2 11, w.before ([.ref o, .ref ed] : List Value).toArray s = true := tb_list hT fX2
  have hS : va_S A s.heap s.heap [] := va_S.rf
  have hE := hXE s hX
  have hl := lv_entry ([.ref o, .ref ed]) (n := 2) (Nat.le_of_ble_eq_true rfl)
  rw [lg_entry_eq]
  generalize (lg_sl ([.ref o, .ref ed]) ++ List.replicate (2 - (lg_sl ([.ref o, .ref ed])).length) Slot.unset).toArray = ls at hl ⊢
  have hl : lv_has ls 2 [(0, .ref o), (1, .ref ed)] := hl
  have hQ := hXX s hX
  have hfr : ∀ (x : Nat) (e : va_E), G x = some e → x ≠ ed → (∀ k i, lvV v k → i < lnV v k → x ≠ AD k i) → G x = some e := fun x e z _ _ => z
  have apO := hP.oX cIL_14 h0
  have apK := hP.aX (by decide) hkp
  refine lv_aload_n hx hb dX13_take_0 rfl (lv_at hl 0 rfl) ?_
  refine lv_aload_n hx hb dX13_take_1 rfl (lv_at hl 1 rfl) ?_
  refine mm_put (v := .ref ed) (ty := .object "DescribeText$Edition") hx hb hf_X13 (fun _ h9 => h9) tyX13 tyX13_ok nmX13 hown hK hG hS h0 rfl 7 (by decide) (tb_use hT tw_218) (fun _ h9 => h9) rfl (by decide +kernel) rfl rfl (Nat.le_of_ble_eq_true rfl) dX13_take_2 (fun H locs hG hS => ?_)
  obtain ⟨G21, eG21⟩ : ∃ g, g = mm_set G o (.inr (14, [.ref tx, .ref rd, .ref to, .ref se, .ref kp, .int tl, .int (nI kn), .ref ed, va_rf rg])) := ⟨_, rfl⟩
  have hG : mm D vwCl A G21 H := by rw [eG21]; exact hG
  have k22 : G21 o = some (.inr (14, [.ref tx, .ref rd, .ref to, .ref se, .ref kp, .int tl, .int (nI kn), .ref ed, va_rf rg])) := by rw [eG21]; exact mm_set_self
  have k23 : G21 ed = some (.inr (3, [.ref (LA 0), .ref (LA 1), .ref (LA 2), .ref (LA 3), .ref (LA 4), .ref (LA 5), .ref na, .int nc, va_rf iu, .int w9.1, va_rf (w9.2.map (AD 1))])) := by rw [eG21]; exact mm_set_of hed (mm_ne_oo hed h0 (by decide))
  have k24 : G21 kp = some (.inl (cy 6, 4, .inr (.inr (.inr (.inr kf))))) := by rw [eG21]; exact mm_set_of hkp (mm_ne_ao hkp h0)
  have hP25 : EDP cy e0 tk G0 Bx G21 v z LA EA AD PI := hP.mvG (fun y => y = o) (fun y hy => by rw [hy]; exact hBo) apO.1 apO.2.1 apO.2.2.1 apO.2.2.2 (fun y hy => by rw [hy]; exact ⟨_, k22⟩) (fun x e h1 n1 => by rw [eG21]; exact mm_set_of h1 n1)
  refine lv_aload_n hx hb dX13_take_5 rfl (lv_at hl 1 rfl) ?_
  refine mm_getN (v := .ref (LA 1)) hx hb hf_X2 (fun _ h9 => h9) hown hK hG k23 rfl 1 (by decide) (tb_use hT tw_282) (fun _ h9 => h9) rfl dX13_take_6 ?_
  obtain ⟨mo26, h_mo26, -⟩ := id (hP25.lsL)
  refine va_calli (va_runV (As := []) (rest := []) ⟨hx, hb, hml, hown, (fun _ h9 => absurd h9 List.not_mem_nil : ∀ w ∈ ([] : List Cond), w.before _ s = true)⟩ (c_LS_isEmpty l D cy A X hst hXT e0 tk hXE G21 (LA 1) (EA 1) v.nL mo26 h_mo26 (by have := hP25.b; omega)) (tb_cw (C := RJx4a65c) 0 hT tw_1081 tw_113 tw_1078 tw_1079 tw_1080 rfl rfl hq_Jx4a65c_isEmpty_aae02 ⟨Nat.le_of_ble_eq_true rfl, Nat.le_of_ble_eq_true rfl⟩) (mk_preC hst hG hK hA hX hS vc_1 h_mo26) rfl rfl hl.1 rfl (lv_room (Nat.le_of_ble_eq_true rfl)) dX13_take_9 ⟨Nat.le_of_ble_eq_true rfl, Nat.le_of_ble_eq_true rfl⟩) hS (fun q _ h => h) (fun q h => h) (fun r27 G28 t H locs ht hvm hw hB hz1 hk1 hS => ?_)
  have hG : mm D vwCl A G28 H := by rw [← ht]; exact hB
  clear hB hz1 hk1 hvm ht
  obtain ⟨er27, hw⟩ := hw
  rw [hw] at hG
  refine lv_if_ne (tgt := 30) hx hb dX13_take_12 (by decide) (fun c_12 => ?_) (fun c_12 => ?_)
  · skip
    refine lv_aload_n hx hb dX13_take_30 rfl (lv_at hl 0 rfl) ?_
    refine mm_get (v := .int (nI kn)) hx hb hf_X13 (fun _ h9 => h9) hown hK hG k22 rfl 6 (by decide) (tb_use hT tw_217) (fun _ h9 => h9) rfl dX13_take_31 ?_
    refine lv_iconst (v := 4) hx hb dX13_take_34 (by decide) ?_
    refine lv_icmp_ge (tgt := 58) hx hb dX13_take_35 (by decide) (fun c_35 => ?_) (fun c_35 => ?_)
    · skip
      have hfr : ∀ (x : Nat) (e : va_E), G x = some e → x ≠ o → x ≠ ed → x ≠ kp → G21 x = some e := by
        intro x e z0 n_o n_ed n_kp
        have z1 : G21 x = some e := by rw [eG21]; exact mm_set_of z0 n_o
        exact z1
      have hE0 : v.nL = 0 := by have z := c_12; rw [er27] at z; by_cases z0 : v.nL = 0; exact z0; rw [decide_eq_false z0] at z; exact absurd rfl z
      have hK4 : ¬ kn < 4 := fun z => absurd c_35 (nI_ge (b := 4) z (by decide))
      exact W.vret hx hb hr (fun t ht hW => ⟨⟨_, rfl, (by rw [if_pos hE0, if_neg hK4, if_neg hK4]; exact ⟨k22, k23, k24, hP25, hfr⟩), mk_end hG ht⟩, hS.F ht⟩) hS.2.2 dX13_take_58
    · skip
      refine lv_aload_n hx hb dX13_take_38 rfl (lv_at hl 0 rfl) ?_
      refine mm_get (v := .ref kp) hx hb hf_X13 (fun _ h9 => h9) hown hK hG k22 rfl 4 (by decide) (tb_use hT tw_215) (fun _ h9 => h9) rfl dX13_take_39 ?_
      refine lv_aload_n hx hb dX13_take_42 rfl (lv_at hl 0 rfl) ?_
      refine mm_get (v := .int (nI kn)) hx hb hf_X13 (fun _ h9 => h9) hown hK hG k22 rfl 6 (by decide) (tb_use hT tw_217) (fun _ h9 => h9) rfl dX13_take_43 ?_
      refine lv_aload_n hx hb dX13_take_46 rfl (lv_at hl 1 rfl) ?_
      refine mm_aast hx hb hK hG hS 6 3 k24 rfl k23 rfl (nI_in (c := kn) (N := 4) (nI_lt_of (b := 4) (by omega) (by decide) c_35) (by decide)) dX13_take_47 (fun H locs hG hS => ?_)
      obtain ⟨G29, eG29⟩ : ∃ g, g = mm_set G21 kp (.inl (cy 6, 4, .inr (.inr (.inr (.inr (va_up kf (nI kn).toNatClampNeg (some ed))))))) := ⟨_, rfl⟩
      have hG : mm D vwCl A G29 H := by rw [eG29]; exact hG
      have k30 : G29 o = some (.inr (14, [.ref tx, .ref rd, .ref to, .ref se, .ref kp, .int tl, .int (nI kn), .ref ed, va_rf rg])) := by rw [eG29]; exact mm_set_of k22 (mm_ne_oa k22 k24)
      have k31 : G29 ed = some (.inr (3, [.ref (LA 0), .ref (LA 1), .ref (LA 2), .ref (LA 3), .ref (LA 4), .ref (LA 5), .ref na, .int nc, va_rf iu, .int w9.1, va_rf (w9.2.map (AD 1))])) := by rw [eG29]; exact mm_set_of k23 (mm_ne_oa k23 k24)
      have k32 : G29 kp = some (.inl (cy 6, 4, .inr (.inr (.inr (.inr (va_up kf (nI kn).toNatClampNeg (some ed))))))) := by rw [eG29]; exact mm_set_self
      have hP33 : EDP cy e0 tk G0 Bx G29 v z LA EA AD PI := hP25.mvG (fun y => y = kp) (fun y hy => by rw [hy]; exact hBk) apK.1 apK.2.1 apK.2.2.1 apK.2.2.2 (fun y hy => by rw [hy]; exact ⟨_, k32⟩) (fun x e h1 n1 => by rw [eG29]; exact mm_set_of h1 n1)
      refine lv_aload_n hx hb dX13_take_48 rfl (lv_at hl 0 rfl) ?_
      refine lv_dup hx hb dX13_take_49 rfl ?_
      refine mm_get (v := .int (nI kn)) hx hb hf_X13 (fun _ h9 => h9) hown hK hG k30 rfl 6 (by decide) (tb_use hT tw_217) (fun _ h9 => h9) rfl dX13_take_50 ?_
      refine lv_iconst (v := 1) hx hb dX13_take_53 (by decide) ?_
      refine lv_iadd hx hb dX13_take_54 ?_
      rw [← nI_succ kn]
      refine mm_put (v := .int (nI (kn + 1))) (ty := .int) hx hb hf_X13 (fun _ h9 => h9) tyX13 tyX13_ok nmX13 hown hK hG hS k30 rfl 6 (by decide) (tb_use hT tw_217) (fun _ h9 => h9) rfl (by decide +kernel) rfl rfl (Nat.le_of_ble_eq_true rfl) dX13_take_55 (fun H locs hG hS => ?_)
      obtain ⟨G34, eG34⟩ : ∃ g, g = mm_set G29 o (.inr (14, [.ref tx, .ref rd, .ref to, .ref se, .ref kp, .int tl, .int (nI (kn + 1)), .ref ed, va_rf rg])) := ⟨_, rfl⟩
      have hG : mm D vwCl A G34 H := by rw [eG34]; exact hG
      have k35 : G34 o = some (.inr (14, [.ref tx, .ref rd, .ref to, .ref se, .ref kp, .int tl, .int (nI (kn + 1)), .ref ed, va_rf rg])) := by rw [eG34]; exact mm_set_self
      have k36 : G34 ed = some (.inr (3, [.ref (LA 0), .ref (LA 1), .ref (LA 2), .ref (LA 3), .ref (LA 4), .ref (LA 5), .ref na, .int nc, va_rf iu, .int w9.1, va_rf (w9.2.map (AD 1))])) := by rw [eG34]; exact mm_set_of k31 (mm_ne_oo k31 k30 (by decide))
      have k37 : G34 kp = some (.inl (cy 6, 4, .inr (.inr (.inr (.inr (va_up kf (nI kn).toNatClampNeg (some ed))))))) := by rw [eG34]; exact mm_set_of k32 (mm_ne_ao k32 k30)
      have hP38 : EDP cy e0 tk G0 Bx G34 v z LA EA AD PI := hP33.mvG (fun y => y = o) (fun y hy => by rw [hy]; exact hBo) apO.1 apO.2.1 apO.2.2.1 apO.2.2.2 (fun y hy => by rw [hy]; exact ⟨_, k35⟩) (fun x e h1 n1 => by rw [eG34]; exact mm_set_of h1 n1)
      have hfr : ∀ (x : Nat) (e : va_E), G x = some e → x ≠ o → x ≠ ed → x ≠ kp → G34 x = some e := by
        intro x e z0 n_o n_ed n_kp
        have z1 : G21 x = some e := by rw [eG21]; exact mm_set_of z0 n_o
        have z2 : G29 x = some e := by rw [eG29]; exact mm_set_of z1 n_kp
        have z3 : G34 x = some e := by rw [eG34]; exact mm_set_of z2 n_o
        exact z3
      have hE0 : v.nL = 0 := by have z := c_12; rw [er27] at z; by_cases z0 : v.nL = 0; exact z0; rw [decide_eq_false z0] at z; exact absurd rfl z
      have hK4 : kn < 4 := nI_lt_of (b := 4) (by omega) (by decide) c_35
      exact W.vret hx hb hr (fun t ht hW => ⟨⟨_, rfl, (by rw [if_pos hE0, if_pos hK4, if_pos hK4]; exact ⟨k35, k36, (by have z := k37; rw [nI_clamp (n := kn) (by omega)] at z; exact z), hP38, hfr⟩), mk_end hG ht⟩, hS.F ht⟩) hS.2.2 dX13_take_58
  · skip
    refine lv_aload_n hx hb dX13_take_15 rfl (lv_at hl 1 rfl) ?_
    refine lv_aload_n hx hb dX13_take_16 rfl (lv_at hl 1 rfl) ?_
    refine mm_getN (v := .ref (LA 1)) hx hb hf_X2 (fun _ h9 => h9) hown hK hG k23 rfl 1 (by decide) (tb_use hT tw_282) (fun _ h9 => h9) rfl dX13_take_17 ?_
    refine lv_iconst (v := 0) hx hb dX13_take_20 (by decide) ?_
    have hL0 : 0 < v.nL := by have z := c_12; rw [er27] at z; by_cases z0 : v.nL = 0; rw [decide_eq_true z0] at z; exact absurd z (by decide); omega
    obtain ⟨mo39, h_mo39, -⟩ := id (hP25.lsL)
    refine va_callq (va_runV (As := [.int (nI 0)]) (rest := [.ref ed]) ⟨hx, hb, hml, hown, (fun _ h9 => absurd h9 List.not_mem_nil : ∀ w ∈ ([] : List Cond), w.before _ s = true)⟩ (c_LS_get l D cy A X hst hXT e0 tk hXE mi hXL G21 (LA 1) (EA 1) v.nL (AD 1) 0 (hP25.lsL) hL0) (tb_cw (C := RJx4a65c) 1 hT tw_942 tw_113 tw_1032 tw_940 tw_941 rfl rfl hq_Jx4a65c_get_915e3 ⟨Nat.le_of_ble_eq_true rfl, Nat.le_of_ble_eq_true rfl⟩) (mk_preC hst hG hK hA hX hS vc_1 h_mo39) rfl rfl hl.1 rfl (lv_room (Nat.le_of_ble_eq_true rfl)) dX13_take_21 ⟨Nat.le_of_ble_eq_true rfl, Nat.le_of_ble_eq_true rfl⟩) hS (fun q _ h => h) (fun q h => h) (fun r40 G41 t H locs ht hvm hw hB hz1 hk1 hS => ?_)
    have hG : mm D vwCl A G41 H := by rw [← ht]; exact hB
    clear hB hz1 hk1 hvm ht
    obtain ⟨rfl, hw⟩ := hw
    rw [hw] at hG
    refine W.eq (g2 := F0 m 24 ls [.ref (AD 1 0), .ref ed]) rfl ?_
    have k42 : G21 (AD 1 0) = some (.inr (6, [.int (nI (0 + 1)), .int ((v.L 0).1), .long ((v.L 0).2.1), .long ((v.L 0).2.2.1), .int ((v.L 0).2.2.2), va_rf (z.lo 0)])) := hP25.elL hL0
    refine va_castS hx hb hown (tb_use hT tw_1082) (hK.1 6 _ rfl).2 (va_recv hK (hG.one k42) (q := (RX5, TX5, 6)) rfl (q0 := 0) rfl) dX13_take_24 ?_
    refine mm_putN (v := .ref (AD 1 0)) (ty := .object "DescribeText$Layer") hx hb hf_X2 (fun _ h9 => h9) tyX2 tyX2_ok nmX2 hown hK hG hS k23 rfl 8 (by decide) (tb_use hT tw_296) (fun _ h9 => h9) rfl (by decide +kernel) rfl rfl (Nat.le_of_ble_eq_true rfl) dX13_take_27 (fun H locs hG hS => ?_)
    obtain ⟨G43, eG43⟩ : ∃ g, g = mm_set G21 ed (.inr (3, [.ref (LA 0), .ref (LA 1), .ref (LA 2), .ref (LA 3), .ref (LA 4), .ref (LA 5), .ref na, .int nc, .ref (AD 1 0), .int w9.1, va_rf (w9.2.map (AD 1))])) := ⟨_, rfl⟩
    have hG : mm D vwCl A G43 H := by rw [eG43]; exact hG
    have k44 : G43 o = some (.inr (14, [.ref tx, .ref rd, .ref to, .ref se, .ref kp, .int tl, .int (nI kn), .ref ed, va_rf rg])) := by rw [eG43]; exact mm_set_of k22 (mm_ne_oo k22 k23 (by decide))
    have k45 : G43 ed = some (.inr (3, [.ref (LA 0), .ref (LA 1), .ref (LA 2), .ref (LA 3), .ref (LA 4), .ref (LA 5), .ref na, .int nc, .ref (AD 1 0), .int w9.1, va_rf (w9.2.map (AD 1))])) := by rw [eG43]; exact mm_set_self
    have k46 : G43 kp = some (.inl (cy 6, 4, .inr (.inr (.inr (.inr kf))))) := by rw [eG43]; exact mm_set_of k24 (mm_ne_ao k24 k23)
    have k47 : G43 (AD 1 0) = some (.inr (6, [.int (nI (0 + 1)), .int ((v.L 0).1), .long ((v.L 0).2.1), .long ((v.L 0).2.2.1), .int ((v.L 0).2.2.2), va_rf (z.lo 0)])) := by rw [eG43]; exact mm_set_of k42 (mm_ne_oo k42 k23 (by decide))
    have hP48 : EDP cy e0 tk G0 Bx G43 v z LA EA AD PI := hP25.mve hBe k23 k45 (fun x e h1 n1 => by rw [eG43]; exact mm_set_of h1 n1)
    refine lv_aload_n hx hb dX13_take_30 rfl (lv_at hl 0 rfl) ?_
    refine mm_get (v := .int (nI kn)) hx hb hf_X13 (fun _ h9 => h9) hown hK hG k44 rfl 6 (by decide) (tb_use hT tw_217) (fun _ h9 => h9) rfl dX13_take_31 ?_
    refine lv_iconst (v := 4) hx hb dX13_take_34 (by decide) ?_
    refine lv_icmp_ge (tgt := 58) hx hb dX13_take_35 (by decide) (fun c_35 => ?_) (fun c_35 => ?_)
    · skip
      have hfr : ∀ (x : Nat) (e : va_E), G x = some e → x ≠ o → x ≠ ed → x ≠ kp → G43 x = some e := by
        intro x e z0 n_o n_ed n_kp
        have z1 : G21 x = some e := by rw [eG21]; exact mm_set_of z0 n_o
        have z2 : G43 x = some e := by rw [eG43]; exact mm_set_of z1 n_ed
        exact z2
      have hE0 : ¬ v.nL = 0 := by omega
      have hK4 : ¬ kn < 4 := fun z => absurd c_35 (nI_ge (b := 4) z (by decide))
      exact W.vret hx hb hr (fun t ht hW => ⟨⟨_, rfl, (by rw [if_neg hE0, if_neg hK4, if_neg hK4]; exact ⟨k44, k45, k46, hP48, hfr⟩), mk_end hG ht⟩, hS.F ht⟩) hS.2.2 dX13_take_58
    · skip
      refine lv_aload_n hx hb dX13_take_38 rfl (lv_at hl 0 rfl) ?_
      refine mm_get (v := .ref kp) hx hb hf_X13 (fun _ h9 => h9) hown hK hG k44 rfl 4 (by decide) (tb_use hT tw_215) (fun _ h9 => h9) rfl dX13_take_39 ?_
      refine lv_aload_n hx hb dX13_take_42 rfl (lv_at hl 0 rfl) ?_
      refine mm_get (v := .int (nI kn)) hx hb hf_X13 (fun _ h9 => h9) hown hK hG k44 rfl 6 (by decide) (tb_use hT tw_217) (fun _ h9 => h9) rfl dX13_take_43 ?_
      refine lv_aload_n hx hb dX13_take_46 rfl (lv_at hl 1 rfl) ?_
      refine mm_aast hx hb hK hG hS 6 3 k46 rfl k45 rfl (nI_in (c := kn) (N := 4) (nI_lt_of (b := 4) (by omega) (by decide) c_35) (by decide)) dX13_take_47 (fun H locs hG hS => ?_)
      obtain ⟨G49, eG49⟩ : ∃ g, g = mm_set G43 kp (.inl (cy 6, 4, .inr (.inr (.inr (.inr (va_up kf (nI kn).toNatClampNeg (some ed))))))) := ⟨_, rfl⟩
      have hG : mm D vwCl A G49 H := by rw [eG49]; exact hG
      have k50 : G49 o = some (.inr (14, [.ref tx, .ref rd, .ref to, .ref se, .ref kp, .int tl, .int (nI kn), .ref ed, va_rf rg])) := by rw [eG49]; exact mm_set_of k44 (mm_ne_oa k44 k46)
      have k51 : G49 ed = some (.inr (3, [.ref (LA 0), .ref (LA 1), .ref (LA 2), .ref (LA 3), .ref (LA 4), .ref (LA 5), .ref na, .int nc, .ref (AD 1 0), .int w9.1, va_rf (w9.2.map (AD 1))])) := by rw [eG49]; exact mm_set_of k45 (mm_ne_oa k45 k46)
      have k52 : G49 kp = some (.inl (cy 6, 4, .inr (.inr (.inr (.inr (va_up kf (nI kn).toNatClampNeg (some ed))))))) := by rw [eG49]; exact mm_set_self
      have k53 : G49 (AD 1 0) = some (.inr (6, [.int (nI (0 + 1)), .int ((v.L 0).1), .long ((v.L 0).2.1), .long ((v.L 0).2.2.1), .int ((v.L 0).2.2.2), va_rf (z.lo 0)])) := by rw [eG49]; exact mm_set_of k47 (mm_ne_oa k47 k46)
      have hP54 : EDP cy e0 tk G0 Bx G49 v z LA EA AD PI := hP48.mvG (fun y => y = kp) (fun y hy => by rw [hy]; exact hBk) apK.1 apK.2.1 apK.2.2.1 apK.2.2.2 (fun y hy => by rw [hy]; exact ⟨_, k52⟩) (fun x e h1 n1 => by rw [eG49]; exact mm_set_of h1 n1)
      refine lv_aload_n hx hb dX13_take_48 rfl (lv_at hl 0 rfl) ?_
      refine lv_dup hx hb dX13_take_49 rfl ?_
      refine mm_get (v := .int (nI kn)) hx hb hf_X13 (fun _ h9 => h9) hown hK hG k50 rfl 6 (by decide) (tb_use hT tw_217) (fun _ h9 => h9) rfl dX13_take_50 ?_
      refine lv_iconst (v := 1) hx hb dX13_take_53 (by decide) ?_
      refine lv_iadd hx hb dX13_take_54 ?_
      rw [← nI_succ kn]
      refine mm_put (v := .int (nI (kn + 1))) (ty := .int) hx hb hf_X13 (fun _ h9 => h9) tyX13 tyX13_ok nmX13 hown hK hG hS k50 rfl 6 (by decide) (tb_use hT tw_217) (fun _ h9 => h9) rfl (by decide +kernel) rfl rfl (Nat.le_of_ble_eq_true rfl) dX13_take_55 (fun H locs hG hS => ?_)
      obtain ⟨G55, eG55⟩ : ∃ g, g = mm_set G49 o (.inr (14, [.ref tx, .ref rd, .ref to, .ref se, .ref kp, .int tl, .int (nI (kn + 1)), .ref ed, va_rf rg])) := ⟨_, rfl⟩
      have hG : mm D vwCl A G55 H := by rw [eG55]; exact hG
      have k56 : G55 o = some (.inr (14, [.ref tx, .ref rd, .ref to, .ref se, .ref kp, .int tl, .int (nI (kn + 1)), .ref ed, va_rf rg])) := by rw [eG55]; exact mm_set_self
      have k57 : G55 ed = some (.inr (3, [.ref (LA 0), .ref (LA 1), .ref (LA 2), .ref (LA 3), .ref (LA 4), .ref (LA 5), .ref na, .int nc, .ref (AD 1 0), .int w9.1, va_rf (w9.2.map (AD 1))])) := by rw [eG55]; exact mm_set_of k51 (mm_ne_oo k51 k50 (by decide))
      have k58 : G55 kp = some (.inl (cy 6, 4, .inr (.inr (.inr (.inr (va_up kf (nI kn).toNatClampNeg (some ed))))))) := by rw [eG55]; exact mm_set_of k52 (mm_ne_ao k52 k50)
      have k59 : G55 (AD 1 0) = some (.inr (6, [.int (nI (0 + 1)), .int ((v.L 0).1), .long ((v.L 0).2.1), .long ((v.L 0).2.2.1), .int ((v.L 0).2.2.2), va_rf (z.lo 0)])) := by rw [eG55]; exact mm_set_of k53 (mm_ne_oo k53 k50 (by decide))
      have hP60 : EDP cy e0 tk G0 Bx G55 v z LA EA AD PI := hP54.mvG (fun y => y = o) (fun y hy => by rw [hy]; exact hBo) apO.1 apO.2.1 apO.2.2.1 apO.2.2.2 (fun y hy => by rw [hy]; exact ⟨_, k56⟩) (fun x e h1 n1 => by rw [eG55]; exact mm_set_of h1 n1)
      have hfr : ∀ (x : Nat) (e : va_E), G x = some e → x ≠ o → x ≠ ed → x ≠ kp → G55 x = some e := by
        intro x e z0 n_o n_ed n_kp
        have z1 : G21 x = some e := by rw [eG21]; exact mm_set_of z0 n_o
        have z2 : G43 x = some e := by rw [eG43]; exact mm_set_of z1 n_ed
        have z3 : G49 x = some e := by rw [eG49]; exact mm_set_of z2 n_kp
        have z4 : G55 x = some e := by rw [eG55]; exact mm_set_of z3 n_o
        exact z4
      have hE0 : ¬ v.nL = 0 := by omega
      have hK4 : kn < 4 := nI_lt_of (b := 4) (by omega) (by decide) c_35
      exact W.vret hx hb hr (fun t ht hW => ⟨⟨_, rfl, (by rw [if_neg hE0, if_pos hK4, if_pos hK4]; exact ⟨k56, k57, (by have z := k58; rw [nI_clamp (n := kn) (by omega)] at z; exact z), hP60, hfr⟩), mk_end hG ht⟩, hS.F ht⟩) hS.2.2 dX13_take_58
set_option maxHeartbeats 4000000 in
set_option maxRecDepth 100000 in
theorem c_X13_lineAtN (l : Launch) (D : va_G) (cy : Nat → ClassId) (A : Nat → Prop) (X : State → Prop) (hst : mk_St A X) (hXT : ∀ U : State, X U → TB U) (e0 : Nat) (tk : Nat → Nat) (hXE : ∀ U : State, X U → ES e0 tk A U) (G : Nat → Option va_E) (o tx rd to se kp : Nat) (hd rg : Option Nat) (kc : Int32) (tn : Nat) (at9 : Int32) (ft : Nat → Int32) (h0 : G o = some (.inr (14, [.ref tx, .ref rd, .ref to, .ref se, .ref kp, .int (nI tn), .int kc, va_rf hd, va_rf rg]))) (htx : G tx = some (.inl (cy 0, 2000, .inl ft))) (hat : at9 < 0) : Met l yX13_lineAt [.code yX13_lineAt cX13_lineAt 4 (some .int)] ({ frames := 0, cells := 0, slots := 0, locals := 0 }) (mk_Pre D vwCl (tyL cy) A X G [.ref o, .int at9]) (va_Qi (fun (r : Int32) (G2 : Nat → Option va_E) => r = 1 ∧ G2 = G) (mk_B D vwCl A) A) 0 0 A := by
  refine Met.ofW (cc := cX13_lineAt) (maxL := 4) (ret := (some .int)) (by decide) rfl ?_
  intro p e s m args below meth c s₁ B hml hv
  obtain ⟨rfl, hG, hK, hA, hX⟩ := hv
  have hx := B.exec
  have hb := B.bytes
  have hr := B.returns
  have hlocks := B.notSynchronized
  have hT := hXT s hX
  have hown : s.vm.findClass RX13 = some m.cls := findClass_of_methodNamed B.named
  have hS : va_S A s.heap s.heap [] := va_S.rf
  have hE := hXE s hX
  have hl := lv_entry ([.ref o, .int at9]) (n := 4) (Nat.le_of_ble_eq_true rfl)
  rw [lg_entry_eq]
  generalize (lg_sl ([.ref o, .int at9]) ++ List.replicate (4 - (lg_sl ([.ref o, .int at9])).length) Slot.unset).toArray = ls at hl ⊢
  have hl : lv_has ls 4 [(0, .ref o), (1, .int at9)] := hl
  refine lv_iconst (v := 1) hx hb dX13_lineAt_0 (by decide) ?_
  refine lv_istore_n (lv' := [(2, .int 1), (0, .ref o), (1, .int at9)]) hx hb dX13_lineAt_1 rfl hl (by decide) rfl (fun ls hl => ?_)
  refine lv_iconst (v := 0) hx hb dX13_lineAt_2 (by decide) ?_
  refine lv_istore_n (lv' := [(3, .int 0), (2, .int 1), (0, .ref o), (1, .int at9)]) hx hb dX13_lineAt_3 rfl hl (by decide) rfl (fun ls hl => ?_)
  refine lv_iload_n hx hb dX13_lineAt_4 rfl (lv_at hl 0 rfl) ?_
  refine lv_iload_n hx hb dX13_lineAt_5 rfl (lv_at hl 3 rfl) ?_
  refine lv_icmp_ge (tgt := 37) hx hb dX13_lineAt_6 (by decide) (fun c_6 => ?_) (fun c_6 => ?_)
  · skip
    refine lv_iload_n hx hb dX13_lineAt_37 rfl (lv_at hl 1 rfl) ?_
    exact W.iret (v := 1) hx hb hr (fun t ht hW => ⟨⟨_, _, rfl, ⟨rfl, rfl⟩, mk_end hG ht⟩, hS.F ht⟩) hS.2.2 dX13_lineAt_38
  · skip
    exact absurd (Int32.le_of_lt hat) c_6
