set_option maxHeartbeats 4000000 in
set_option maxRecDepth 100000 in
theorem c_X13_read0 (l : Launch) (D : va_G) (cy : Nat → ClassId) (A : Nat → Prop) (X : State → Prop) (hst : mk_St A X) (hXT : ∀ U : State, X U → TB U) (e0 : Nat) (tk : Nat → Nat) (hXE : ∀ U : State, X U → ES e0 tk A U) (mi : Nat) (hXL : ∀ U : State, X U → EL e0 mi A U) (ax adK adV : Nat → Nat) (hXX : ∀ U : State, X U → TX ax adK adV tk A U) (G : Nat → Option va_E) (o tx rd to se kp ow k ks ss vs : Nat) (hd rg : Option Nat) (tn9 kn : Nat) (ft : Nat → Int32) (kf : Nat → Option Nat) (h0 : G o = some (.inr (14, [.ref tx, .ref rd, .ref to, .ref se, .ref kp, .int (nI tn9), .int (nI kn), va_rf hd, va_rf rg]))) (hRD : RDS cy tk G rd ow k ks ss vs) (htx : G tx = some (.inl (cy 0, 2000, .inl ft))) (hkp : G kp = some (.inl (cy 6, 4, .inr (.inr (.inr (.inr kf)))))) (htn : tn9 ≤ 2000) (hkn : kn ≤ 4) (htn0 : tn9 = 0) : Met l yX13_read [.code yX13_read cX13_read 4 (some .int)] ({ frames := 12, cells := 16, slots := 4117, locals := 360 }) (mk_Pre D vwCl (tyL cy) A X G [.ref o]) (va_Qi (fun (r : Int32) (G2 : Nat → Option va_E) => r = rdA ft tn9 ∧ ∃ (q : Nat) (LA EA : Nat → Nat) (AD : Nat → Nat → Nat) (PI : Nat → Nat) (z2 : PtV) (na cap2 : Nat) (nv2 : Nat → Int64), RDS cy tk G2 rd ow k ks ss vs ∧ EDP cy e0 tk G (fun x => x = o ∨ x = rd ∨ x = ow ∨ x = k ∨ x = ks ∨ x = ss ∨ x = vs ∨ x = kp) G2 (rdV ft tn9) z2 LA EA AD PI ∧ (∀ k, lvV (rdV ft tn9) k → G (LA k) = none) ∧ G q = none ∧ G na = none ∧ (∀ i, i < (rdV ft tn9).nJ → PI i ≠ na) ∧ G2 na = some (.inl (cy 2, cap2, .inr (.inl nv2))) ∧ (rdN ft tn9).1 ≤ cap2 ∧ cap2 ≤ 2048 ∧ (∀ i, i < (rdN ft tn9).1 → nv2 i = (rdN ft tn9).2 i) ∧ zOth PtV.nil z2 ∧ ((rdF ft tn9).2.2 < 0 → zLo (rdV ft tn9) AD z2 ∧ zVl (rdV ft tn9) AD z2 ∧ (∀ c, c < (rdV ft tn9).nS → zPr (rdV ft tn9) AD z2 c) ∧ (∀ c, c < (rdV ft tn9).nJ → zOp (rdV ft tn9) AD z2 c)) ∧ G2 q = some (.inr (3, [.ref (LA 0), .ref (LA 1), .ref (LA 2), .ref (LA 3), .ref (LA 4), .ref (LA 5), .ref na, .int (nI (rdN ft tn9).1), va_rf (if rdP ft tn9 < 0 then (if (rdV ft tn9).nL = 0 then none else some (AD 1 0)) else none), .int ((rdG ft tn9).1), va_rf ((rdG ft tn9).2.map (AD 1))])) ∧ G2 o = some (.inr (14, [.ref tx, .ref rd, .ref to, .ref se, .ref kp, .int 0, .int (nI (if rdP ft tn9 < 0 then (if kn < 4 then kn + 1 else kn) else kn)), va_rf (if rdP ft tn9 < 0 then some q else hd), va_rf ((rdG ft tn9).2.map (AD 1))])) ∧ G2 kp = some (.inl (cy 6, 4, .inr (.inr (.inr (.inr (if rdP ft tn9 < 0 then (if kn < 4 then va_up kf kn (some q) else kf) else kf))))))) (mk_B D vwCl A) A) 16 4117 A := by
  refine Met.ofW (cc := cX13_read) (maxL := 4) (ret := (some .int)) (by decide) rfl ?_
  intro p e s m args below meth c s₁ B hml hv
  obtain ⟨rfl, hG, hK, hA, hX⟩ := hv
  have hx := B.exec
  have hb := B.bytes
  have hr := B.returns
  have hlocks := B.notSynchronized
  have hT := hXT s hX
  have hown : s.vm.findClass RX13 = some m.cls := findClass_of_methodNamed B.named
  have hf_X2 : ∀ w ∈ u_ws RX2 TX2 11, w.before ([.ref o] : List Value).toArray s = true := tb_list hT fX2
  have hf_X13 : ∀ w ∈ u_ws RX13 TX13 9, w.before ([.ref o] : List Value).toArray s = true := tb_list hT fX13
  have hS : va_S A s.heap s.heap [] := va_S.rf
  have hE := hXE s hX
  have hl := lv_entry ([.ref o]) (n := 4) (Nat.le_of_ble_eq_true rfl)
  rw [lg_entry_eq]
  generalize (lg_sl ([.ref o]) ++ List.replicate (4 - (lg_sl ([.ref o])).length) Slot.unset).toArray = ls at hl ⊢
  have hl : lv_has ls 4 [(0, .ref o)] := hl
  have hQ := hXX s hX
  obtain ⟨edp, pl0, fa0, m0, K0, S0, V0, wf0, hrd, ⟨fa1, fa2, fa3, hk, hks, hss, hvs, hq5⟩, hwf⟩ := hRD
  obtain ⟨RF, hRF⟩ : ∃ y, y = rdF ft tn9 := ⟨_, rfl⟩
  obtain ⟨v, hv⟩ : ∃ y, y = RF.1 := ⟨_, rfl⟩
  have hKO : KOv v := by rw [hv, hRF]; exact rdV_ko
  refine mm_new (ci := 3) (fs := [.null, .null, .null, .null, .null, .null, .null, .int 0, .null, .int 0, .null]) hx hb hf_X2 (fun _ h9 => h9) tyX2 tyX2_ok hown (tb_use hT tw_209) (tb_use hT tw_247) (tb_use hT tw_110) hK hG hS hA rfl (fun j hj => by rcases (show j = 0 ∨ j = 1 ∨ j = 2 ∨ j = 3 ∨ j = 4 ∨ j = 5 ∨ j = 6 ∨ j = 7 ∨ j = 8 ∨ j = 9 ∨ j = 10 by omega) with rfl | rfl | rfl | rfl | rfl | rfl | rfl | rfl | rfl | rfl | rfl <;> rfl) (by exact Nat.le_of_ble_eq_true rfl) (by exact Nat.le_of_ble_eq_true rfl) dX13_read_0 (fun q21 H hn_q21 hG hS => ?_)
  obtain ⟨G22, eG22⟩ : ∃ g, g = mm_set G q21 (.inr (3, [.null, .null, .null, .null, .null, .null, .null, .int 0, .null, .int 0, .null])) := ⟨_, rfl⟩
  have hG : mm D vwCl A G22 H := by rw [eG22]; exact hG
  have k23 : G22 o = some (.inr (14, [.ref tx, .ref rd, .ref to, .ref se, .ref kp, .int (nI tn9), .int (nI kn), va_rf hd, va_rf rg])) := by rw [eG22]; exact mm_set_new h0 hn_q21
  have k24 : G22 rd = some (.inr (10, [.ref k, .ref ow, va_rf edp, .int pl0, .int fa0])) := by rw [eG22]; exact mm_set_new hrd hn_q21
  have k25 : G22 k = some (.inr (13, [.ref ks, .ref ss, .ref vs, .int (nI m0)])) := by rw [eG22]; exact mm_set_new hk hn_q21
  have k26 : G22 ks = some (.inl (cy 5, 2001, .inr (.inr (.inr (.inr fa1))))) := by rw [eG22]; exact mm_set_new hks hn_q21
  have k27 : G22 ss = some (.inl (cy 1, 2001, .inl fa2)) := by rw [eG22]; exact mm_set_new hss hn_q21
  have k28 : G22 vs = some (.inl (cy 2, 2001, .inr (.inl fa3))) := by rw [eG22]; exact mm_set_new hvs hn_q21
  have k29 : G22 ow = some (.inl (cy 1, 3, .inl wf0)) := by rw [eG22]; exact mm_set_new hwf hn_q21
  have k30 : G22 tx = some (.inl (cy 0, 2000, .inl ft)) := by rw [eG22]; exact mm_set_new htx hn_q21
  have k31 : G22 kp = some (.inl (cy 6, 4, .inr (.inr (.inr (.inr kf))))) := by rw [eG22]; exact mm_set_new hkp hn_q21
  have k32 : G22 q21 = some (.inr (3, [.null, .null, .null, .null, .null, .null, .null, .int 0, .null, .int 0, .null])) := by rw [eG22]; exact mm_set_self
  refine lv_dup hx hb dX13_read_3 rfl ?_
  refine va_callv (va_runIN (As := []) (rest := [.ref q21]) ⟨hx, hb, hml, hown, (fun _ h9 => absurd h9 List.not_mem_nil : ∀ w ∈ ([] : List Cond), w.before _ s = true)⟩ (c_ED_new l D cy A X hst hXT e0 tk hXE G22 q21 k32) ⟨tb_cn (host := "DescribeText") 0 hT tw_250 tw_110 tw_248 rfl rfl hq_X2_init ⟨Nat.le_of_ble_eq_true rfl, Nat.le_of_ble_eq_true rfl⟩, rfl, (tb_use hT tw_249)⟩ (mk_preS hst hG hK hA hX hS) rfl rfl hl.1 rfl (lv_room (Nat.le_of_ble_eq_true rfl)) dX13_read_4 ⟨Nat.le_of_ble_eq_true rfl, Nat.le_of_ble_eq_true rfl⟩) hS (fun q _ h => h) (fun q h => h) (fun  G33 t H locs ht hvm hw hB hz1 hk1 hS => ?_)
  have hG : mm D vwCl A G33 H := by rw [← ht]; exact hB
  clear hB hz1 hk1 hvm ht
  obtain ⟨LA0, nm, h_o, h_L, h_J, h_N, h_nm, h_nn, h_f⟩ := hw
  have k34 : G33 o = some (.inr (14, [.ref tx, .ref rd, .ref to, .ref se, .ref kp, .int (nI tn9), .int (nI kn), va_rf hd, va_rf rg])) := h_f _ _ k23 (mm_ne_oo k23 k32 (by decide))
  have k35 : G33 rd = some (.inr (10, [.ref k, .ref ow, va_rf edp, .int pl0, .int fa0])) := h_f _ _ k24 (mm_ne_oo k24 k32 (by decide))
  have k36 : G33 k = some (.inr (13, [.ref ks, .ref ss, .ref vs, .int (nI m0)])) := h_f _ _ k25 (mm_ne_oo k25 k32 (by decide))
  have k37 : G33 ks = some (.inl (cy 5, 2001, .inr (.inr (.inr (.inr fa1))))) := h_f _ _ k26 (mm_ne_ao k26 k32)
  have k38 : G33 ss = some (.inl (cy 1, 2001, .inl fa2)) := h_f _ _ k27 (mm_ne_ao k27 k32)
  have k39 : G33 vs = some (.inl (cy 2, 2001, .inr (.inl fa3))) := h_f _ _ k28 (mm_ne_ao k28 k32)
  have k40 : G33 ow = some (.inl (cy 1, 3, .inl wf0)) := h_f _ _ k29 (mm_ne_ao k29 k32)
  have k41 : G33 tx = some (.inl (cy 0, 2000, .inl ft)) := h_f _ _ k30 (mm_ne_ao k30 k32)
  have k42 : G33 kp = some (.inl (cy 6, 4, .inr (.inr (.inr (.inr kf))))) := h_f _ _ k31 (mm_ne_ao k31 k32)
  have hqN : G q21 = none := hn_q21
  have hnmN : G nm = none := by have z := h_nn; rw [eG22] at z; exact mm_none z
  have hLN : ∀ i, i < 6 → G (LA0 i) = none := fun i hi => by have z := h_N i hi; rw [eG22] at z; exact mm_none z
  have hGa : ∀ (x : Nat) (e : va_E), G x = some e → G33 x = some e := fun x e z9 => h_f x e (by rw [eG22]; exact mm_set_new z9 hn_q21) (fun z => by rw [z, hn_q21] at z9; cases z9)
  refine lv_astore_n (lv' := [(1, .ref q21), (0, .ref o)]) hx hb dX13_read_7 rfl hl (by decide) rfl (fun ls hl => ?_)
  refine lv_aload_n hx hb dX13_read_8 rfl (lv_at hl 1 rfl) ?_
  refine lv_null hx hb dX13_read_9 ?_
  refine mm_put (v := .null) (ty := .object "DescribeText$Layer") hx hb hf_X13 (fun _ h9 => h9) tyX13 tyX13_ok nmX13 hown hK hG hS k34 rfl 8 (by decide) (tb_use hT tw_219) (fun _ h9 => h9) rfl (by decide +kernel) rfl rfl (Nat.le_of_ble_eq_true rfl) dX13_read_10 (fun H locs hG hS => ?_)
  obtain ⟨G43, eG43⟩ : ∃ g, g = mm_set G33 o (.inr (14, [.ref tx, .ref rd, .ref to, .ref se, .ref kp, .int (nI tn9), .int (nI kn), va_rf hd, .null])) := ⟨_, rfl⟩
  have hG : mm D vwCl A G43 H := by rw [eG43]; exact hG
  have k44 : G43 o = some (.inr (14, [.ref tx, .ref rd, .ref to, .ref se, .ref kp, .int (nI tn9), .int (nI kn), va_rf hd, .null])) := by rw [eG43]; exact mm_set_self
  have k45 : G43 rd = some (.inr (10, [.ref k, .ref ow, va_rf edp, .int pl0, .int fa0])) := by rw [eG43]; exact mm_set_of k35 (mm_ne_oo k35 k34 (by decide))
  have k46 : G43 k = some (.inr (13, [.ref ks, .ref ss, .ref vs, .int (nI m0)])) := by rw [eG43]; exact mm_set_of k36 (mm_ne_oo k36 k34 (by decide))
  have k47 : G43 ks = some (.inl (cy 5, 2001, .inr (.inr (.inr (.inr fa1))))) := by rw [eG43]; exact mm_set_of k37 (mm_ne_ao k37 k34)
  have k48 : G43 ss = some (.inl (cy 1, 2001, .inl fa2)) := by rw [eG43]; exact mm_set_of k38 (mm_ne_ao k38 k34)
  have k49 : G43 vs = some (.inl (cy 2, 2001, .inr (.inl fa3))) := by rw [eG43]; exact mm_set_of k39 (mm_ne_ao k39 k34)
  have k50 : G43 ow = some (.inl (cy 1, 3, .inl wf0)) := by rw [eG43]; exact mm_set_of k40 (mm_ne_ao k40 k34)
  have k51 : G43 tx = some (.inl (cy 0, 2000, .inl ft)) := by rw [eG43]; exact mm_set_of k41 (mm_ne_ao k41 k34)
  have k52 : G43 kp = some (.inl (cy 6, 4, .inr (.inr (.inr (.inr kf))))) := by rw [eG43]; exact mm_set_of k42 (mm_ne_ao k42 k34)
  have k53 : G43 q21 = some (.inr (3, [.ref (LA0 0), .ref (LA0 1), .ref (LA0 2), .ref (LA0 3), .ref (LA0 4), .ref (LA0 5), .ref nm, .int 0, .null, .int (-1), .null])) := by rw [eG43]; exact mm_set_of h_o (mm_ne_oo h_o k34 (by decide))
  have k54 : G43 nm = some (.inl (cy 2, 8, .inr (.inl (fun _ => 0)))) := by rw [eG43]; exact mm_set_of h_nm (mm_ne_ao h_nm k34)
  refine lv_aload_n hx hb dX13_read_13 rfl (lv_at hl 1 rfl) ?_
  refine mm_get (v := .ref rd) hx hb hf_X13 (fun _ h9 => h9) hown hK hG k44 rfl 1 (by decide) (tb_use hT tw_212) (fun _ h9 => h9) rfl dX13_read_14 ?_
  refine lv_aload_n hx hb dX13_read_17 rfl (lv_at hl 0 rfl) ?_
  refine lv_aload_n hx hb dX13_read_18 rfl (lv_at hl 1 rfl) ?_
  refine mm_get (v := .ref tx) hx hb hf_X13 (fun _ h9 => h9) hown hK hG k44 rfl 0 (by decide) (tb_use hT tw_211) (fun _ h9 => h9) rfl dX13_read_19 ?_
  refine lv_aload_n hx hb dX13_read_22 rfl (lv_at hl 1 rfl) ?_
  refine mm_get (v := .int (nI tn9)) hx hb hf_X13 (fun _ h9 => h9) hown hK hG k44 rfl 5 (by decide) (tb_use hT tw_216) (fun _ h9 => h9) rfl dX13_read_23 ?_
  have hLn : ∀ i, i < 6 → G43 (LA0 i) = some (.inr (1, [.int 0, .ref e0, .int 0])) := fun i hi => by rw [eG43]; exact mm_set_of (h_L i hi) (mm_ne_oo (h_L i hi) k34 (by decide))
  have hTB9 : TKB cy tk G43 k ks ss vs m0 K0 S0 V0 := ⟨fa1, fa2, fa3, k46, k47, k48, k49, hq5⟩
  have hGb : ∀ (x : Nat) (e : va_E), G x = some e → x ≠ o → G43 x = some e := fun x e z9 n9 => by rw [eG43]; exact mm_set_of (hGa x e z9) n9
  have hGc : ∀ (x : Nat) (e : va_E), G x = some e → ∃ e2, G43 x = some e2 := fun x e z9 => by by_cases n9 : x = o; exact ⟨_, by rw [n9]; exact k44⟩; exact ⟨e, hGb x e z9 n9⟩
  have nb_o : ¬ (fun x => x = rd ∨ x = ow ∨ x = k ∨ x = ks ∨ x = ss ∨ x = vs ∨ x = q21 ∨ x = nm ∨ ∃ i, i < 6 ∧ x = LA0 i) o := by
    rintro (z | z | z | z | z | z | z | z | ⟨i, hi, z⟩)
    · exact absurd z (mm_ne_oo k44 k45 (by decide))
    · exact absurd z (mm_ne_oa k44 k50)
    · exact absurd z (mm_ne_oo k44 k46 (by decide))
    · exact absurd z (mm_ne_oa k44 k47)
    · exact absurd z (mm_ne_oa k44 k48)
    · exact absurd z (mm_ne_oa k44 k49)
    · exact absurd z (mm_ne_oo k44 k53 (by decide))
    · exact absurd z (mm_ne_oa k44 k54)
    · exact mm_ne_oo k44 (hLn i hi) (by decide) z
  have nb_tx : ¬ (fun x => x = rd ∨ x = ow ∨ x = k ∨ x = ks ∨ x = ss ∨ x = vs ∨ x = q21 ∨ x = nm ∨ ∃ i, i < 6 ∧ x = LA0 i) tx := by
    rintro (z | z | z | z | z | z | z | z | ⟨i, hi, z⟩)
    · exact absurd z (mm_ne_ao k51 k45)
    · exact absurd z (mm_ne_n k51 k50 (by decide))
    · exact absurd z (mm_ne_ao k51 k46)
    · exact absurd z (mm_ne_e k51 k47 (fun z => by have z2 := (Prod.mk.inj (Prod.mk.inj (Sum.inl.inj z)).2).2; cases z2))
    · exact absurd z (mm_ne_n k51 k48 (by decide))
    · exact absurd z (mm_ne_e k51 k49 (fun z => by have z2 := (Prod.mk.inj (Prod.mk.inj (Sum.inl.inj z)).2).2; cases z2))
    · exact absurd z (mm_ne_ao k51 k53)
    · exact absurd z (mm_ne_e k51 k54 (fun z => by have z2 := (Prod.mk.inj (Prod.mk.inj (Sum.inl.inj z)).2).2; cases z2))
    · exact mm_ne_ao k51 (hLn i hi) z
  have nb_kp : ¬ (fun x => x = rd ∨ x = ow ∨ x = k ∨ x = ks ∨ x = ss ∨ x = vs ∨ x = q21 ∨ x = nm ∨ ∃ i, i < 6 ∧ x = LA0 i) kp := by
    rintro (z | z | z | z | z | z | z | z | ⟨i, hi, z⟩)
    · exact absurd z (mm_ne_ao k52 k45)
    · exact absurd z (mm_ne_e k52 k50 (fun z => by have z2 := (Prod.mk.inj (Prod.mk.inj (Sum.inl.inj z)).2).2; cases z2))
    · exact absurd z (mm_ne_ao k52 k46)
    · exact absurd z (mm_ne_n k52 k47 (by decide))
    · exact absurd z (mm_ne_e k52 k48 (fun z => by have z2 := (Prod.mk.inj (Prod.mk.inj (Sum.inl.inj z)).2).2; cases z2))
    · exact absurd z (mm_ne_e k52 k49 (fun z => by have z2 := (Prod.mk.inj (Prod.mk.inj (Sum.inl.inj z)).2).2; cases z2))
    · exact absurd z (mm_ne_ao k52 k53)
    · exact absurd z (mm_ne_e k52 k54 (fun z => by have z2 := (Prod.mk.inj (Prod.mk.inj (Sum.inl.inj z)).2).2; cases z2))
    · exact mm_ne_ao k52 (hLn i hi) z
  refine va_calli (va_runV (As := [.ref q21, .ref tx, .int (nI tn9)]) (rest := []) ⟨hx, hb, hml, hown, (fun _ h9 => absurd h9 List.not_mem_nil : ∀ w ∈ ([] : List Cond), w.before _ s = true)⟩ (c_X9_fill0 l D cy A X hst hXT e0 tk hXE mi hXL ax adK adV hXX G43 rd ow q21 edp pl0 fa0 k ks ss vs m0 K0 S0 V0 tx tn9 ft LA0 nm (-1) none none (fun _ => 0) wf0 k45 hTB9 k51 htn k50 k53 k54 hLn h_J htn0) (tb_cw (C := RX9) 3 hT tw_328 tw_106 tw_325 tw_326 tw_327 rfl rfl hq_X9_fill ⟨Nat.le_of_ble_eq_true rfl, Nat.le_of_ble_eq_true rfl⟩) (mk_preC hst hG hK hA hX hS vc_10 k45) rfl rfl hl.1 rfl (lv_room (Nat.le_of_ble_eq_true rfl)) dX13_read_26 ⟨Nat.le_of_ble_eq_true rfl, Nat.le_of_ble_eq_true rfl⟩) hS (fun q _ h => h) (fun q h => h) (fun r55 G56 t H locs ht hvm hw hB hz1 hk1 hS => ?_)
  have hG : mm D vwCl A G56 H := by rw [← ht]; exact hB
  clear hB hz1 hk1 hvm ht
  rw [show q_fill (tkK ft tn9) (tkS ft tn9) (tkV ft tn9) (tkN ft tn9) EdV.nil (0, -1) = RF from hRF.symm] at hw
  rw [← hv] at hw
  obtain ⟨er55, LA, EA, AD, PI, wf2, na, cap2, nv2, f_o, f_tk, f_ow, hPf, hLB, f_ed, f_na, f_1, f_2, f_3, f_4, f_5⟩ := hw
  have hb1 : ∀ x, G43 x = none → G x = none := fun x hx9 => by cases hz9 : G x with | none => rfl | some e => obtain ⟨e2, h2⟩ := hGc x e hz9; rw [hx9] at h2; cases h2
  have hLF : ∀ i, lvV v i → G (LA i) = none := fun i hi => by
    obtain ⟨fs9, hls9⟩ := (hPf.L.ls i hi).some
    obtain ⟨t1, t2, t3, t4, t5, t6, t7, t8⟩ := id f_tk
    rcases hPf.L.fl i hi with z | z
    · exact hb1 _ z
    · rcases z with z | z | z | z | z | z | z | z | ⟨j, hj, z⟩
      · rw [z, f_o] at hls9; cases hls9
      · rw [z, f_ow] at hls9; cases hls9
      · rw [z, t4] at hls9; cases hls9
      · rw [z, t5] at hls9; cases hls9
      · rw [z, t6] at hls9; cases hls9
      · rw [z, t7] at hls9; cases hls9
      · rw [z]; exact hqN
      · rw [z]; exact hnmN
      · rw [z]; exact hLN j hj
  have hb3 : ∀ x e, G x = some e → ∃ e2, G56 x = some e2 := fun x e h1 => by obtain ⟨e2, h2⟩ := hGc x e h1; exact hPf.L.al x e2 h2
  have hb4 : ∀ x e, G x = some e → ¬ (fun x => x = o ∨ x = rd ∨ x = ow ∨ x = k ∨ x = ks ∨ x = ss ∨ x = vs ∨ x = kp ∨ x = q21) x → G56 x = some e := fun x e h1 nb => by
    have z9 := hGb x e h1 (fun z => nb (Or.inl z))
    refine hPf.L.fr x e z9 ?_
    rintro (z | z | z | z | z | z | z | z | ⟨j, hj, z⟩)
    · exact nb (Or.inr (Or.inl z))
    · exact nb (Or.inr (Or.inr (Or.inl z)))
    · exact nb (Or.inr (Or.inr (Or.inr (Or.inl z))))
    · exact nb (Or.inr (Or.inr (Or.inr (Or.inr (Or.inl z)))))
    · exact nb (Or.inr (Or.inr (Or.inr (Or.inr (Or.inr (Or.inl z))))))
    · exact nb (Or.inr (Or.inr (Or.inr (Or.inr (Or.inr (Or.inr (Or.inl z)))))))
    · rw [z, hqN] at h1; cases h1
    · rw [z, hnmN] at h1; cases h1
    · rw [z, hLN j hj] at h1; cases h1
  have hP57 : EDP cy e0 tk G (fun x => x = o ∨ x = rd ∨ x = ow ∨ x = k ∨ x = ks ∨ x = ss ∨ x = vs ∨ x = kp ∨ x = q21) G56 v PtV.nil LA EA AD PI := EDP.base hPf hb1 (fun i hi => Or.inl (hLF i hi)) hb3 hb4
  have k58 : G56 o = some (.inr (14, [.ref tx, .ref rd, .ref to, .ref se, .ref kp, .int (nI tn9), .int (nI kn), va_rf hd, .null])) := hPf.L.fr _ _ k44 nb_o
  have k59 : G56 tx = some (.inl (cy 0, 2000, .inl ft)) := hPf.L.fr _ _ k51 nb_tx
  have k60 : G56 kp = some (.inl (cy 6, 4, .inr (.inr (.inr (.inr kf))))) := hPf.L.fr _ _ k52 nb_kp
  have k_ed : G56 q21 = some (.inr (3, [.ref (LA 0), .ref (LA 1), .ref (LA 2), .ref (LA 3), .ref (LA 4), .ref (LA 5), .ref na, .int (nI (ntL (tkK ft tn9) (tkV ft tn9) (if RF.2.2 < 0 then tkN ft tn9 else 0)).1), .null, .int (((-1, none) : Int32 × Option Nat).1), va_rf (((-1, none) : Int32 × Option Nat).2.map (AD 1))])) := by rw [hLB 0 (by decide), hLB 1 (by decide), hLB 2 (by decide), hLB 3 (by decide), hLB 4 (by decide), hLB 5 (by decide)]; exact f_ed
  have hRDS : RDS cy tk G56 rd ow k ks ss vs := ⟨some q21, _, _, _, _, _, _, wf2, f_o, f_tk, f_ow⟩
  have hnaF : G na = none := by rcases f_4 with z | z; rw [z]; exact hnmN; exact hb1 _ z
  have hxA : ∀ (x : Nat) (e : va_E), G x = some e → ∀ k i, lvV v k → i < lnV v k → x ≠ AD k i := fun x e z9 k i hk hi z => by rw [z, hP57.L.fa k i hk hi] at z9; cases z9
  have apO := hP57.oX cIL_14 k58
  have apK := hP57.aX (by decide) k60
  rw [er55]
  refine lv_topi (fun x61 ex61 => ?_)
  refine lv_istore_n (lv' := [(2, .int x61), (1, .ref q21), (0, .ref o)]) hx hb dX13_read_29 rfl hl (by decide) rfl (fun ls hl => ?_)
  refine lv_iload_n hx hb dX13_read_30 rfl (lv_at hl 0 rfl) ?_
  refine lv_if_ge (tgt := 51) hx hb dX13_read_31 (by decide) (fun c_31 => ?_) (fun c_31 => ?_)
  · skip
    refine lv_aload_n hx hb dX13_read_51 rfl (lv_at hl 2 rfl) ?_
    refine lv_iload_n hx hb dX13_read_52 rfl (lv_at hl 0 rfl) ?_
    have hneg : ¬ x61 < 0 := Int32.not_lt.mpr c_31
    obtain ⟨pn, hpn, hpe⟩ := nI_of hneg
    refine W.eq (g2 := F0 m 53 ls [.int (nI pn), .ref o]) (by rw [hpe]) ?_
    refine va_calli (va_runV (As := [.int (nI pn)]) (rest := []) ⟨hx, hb, hml, hown, (fun _ h9 => absurd h9 List.not_mem_nil : ∀ w ∈ ([] : List Cond), w.before _ s = true)⟩ (c_X13_lineAtG l D cy A X hst hXT e0 tk hXE G56 o tx rd to se kp hd none (nI kn) tn9 pn ft k58 k59 htn (by omega)) (tb_cw (C := RX13) 1 hT tw_1073 tw_105 tw_1070 tw_1072 tw_44 rfl rfl hq_X13_lineAt ⟨Nat.le_of_ble_eq_true rfl, Nat.le_of_ble_eq_true rfl⟩) (mk_preC hst hG hK hA hX hS vc_14 k58) rfl rfl hl.1 rfl (lv_room (Nat.le_of_ble_eq_true rfl)) dX13_read_53 ⟨Nat.le_of_ble_eq_true rfl, Nat.le_of_ble_eq_true rfl⟩) hS (fun q _ h => h) (fun q h => h) (fun r62 G63 t H locs ht hvm hw hB hz1 hk1 hS => ?_)
    have hG : mm D vwCl A G63 H := by rw [← ht]; exact hB
    clear hB hz1 hk1 hvm ht
    obtain ⟨er62, hw⟩ := hw
    rw [hw] at hG
    refine lv_istore_n (lv' := [(3, .int r62), (2, .int x61), (1, .ref q21), (0, .ref o)]) hx hb dX13_read_56 rfl hl (by decide) rfl (fun ls hl => ?_)
    refine lv_aload_n hx hb dX13_read_57 rfl (lv_at hl 3 rfl) ?_
    refine lv_iconst (v := 0) hx hb dX13_read_58 (by decide) ?_
    refine mm_put (v := .int 0) (ty := .int) hx hb hf_X13 (fun _ h9 => h9) tyX13 tyX13_ok nmX13 hown hK hG hS k58 rfl 5 (by decide) (tb_use hT tw_216) (fun _ h9 => h9) rfl (by decide +kernel) rfl rfl (Nat.le_of_ble_eq_true rfl) dX13_read_59 (fun H locs hG hS => ?_)
    obtain ⟨G64, eG64⟩ : ∃ g, g = mm_set G56 o (.inr (14, [.ref tx, .ref rd, .ref to, .ref se, .ref kp, .int 0, .int (nI kn), va_rf hd, .null])) := ⟨_, rfl⟩
    have hG : mm D vwCl A G64 H := by rw [eG64]; exact hG
    have k65 : G64 o = some (.inr (14, [.ref tx, .ref rd, .ref to, .ref se, .ref kp, .int 0, .int (nI kn), va_rf hd, .null])) := by rw [eG64]; exact mm_set_self
    have k66 : G64 tx = some (.inl (cy 0, 2000, .inl ft)) := by rw [eG64]; exact mm_set_of k59 (mm_ne_ao k59 k58)
    have k67 : G64 kp = some (.inl (cy 6, 4, .inr (.inr (.inr (.inr kf))))) := by rw [eG64]; exact mm_set_of k60 (mm_ne_ao k60 k58)
    have k68 : G64 q21 = some (.inr (3, [.ref (LA 0), .ref (LA 1), .ref (LA 2), .ref (LA 3), .ref (LA 4), .ref (LA 5), .ref na, .int (nI (ntL (tkK ft tn9) (tkV ft tn9) (if RF.2.2 < 0 then tkN ft tn9 else 0)).1), .null, .int (((-1, none) : Int32 × Option Nat).1), va_rf (((-1, none) : Int32 × Option Nat).2.map (AD 1))])) := by rw [eG64]; exact mm_set_of k_ed (mm_ne_oo k_ed k58 (by decide))
    have hP69 : EDP cy e0 tk G (fun x => x = o ∨ x = rd ∨ x = ow ∨ x = k ∨ x = ks ∨ x = ss ∨ x = vs ∨ x = kp ∨ x = q21) G64 v PtV.nil LA EA AD PI := hP57.mvG (fun y => y = o) (fun y hy => by rw [hy]; exact (Or.inl rfl)) apO.1 apO.2.1 apO.2.2.1 apO.2.2.2 (fun y hy => by rw [hy]; exact ⟨_, k65⟩) (fun x e h1 n1 => by rw [eG64]; exact mm_set_of h1 n1)
    refine lv_iload_n hx hb dX13_read_62 rfl (lv_at hl 1 rfl) ?_
    refine lv_if_lt (tgt := 69) hx hb dX13_read_63 (by decide) (fun c_63 => ?_) (fun c_63 => ?_)
    · skip
      exact absurd c_63 hneg
    · skip
      refine lv_iload_n hx hb dX13_read_66 rfl (lv_at hl 0 rfl) ?_
      refine lv_ineg hx hb dX13_read_67 ?_
      have hbz : EDP cy e0 tk G (fun x => x = o ∨ x = rd ∨ x = ow ∨ x = k ∨ x = ks ∨ x = ss ∨ x = vs ∨ x = kp) G64 v PtV.nil LA EA AD PI := by exact EDP.base hP69 (fun _ h => h) (fun i hi => Or.inl (hLF i hi)) hP69.L.al (fun x e h1 nb => hP69.L.fr x e h1 (by rintro (z | z | z | z | z | z | z | z | z); exact nb (Or.inl z); exact nb (Or.inr (Or.inl z)); exact nb (Or.inr (Or.inr (Or.inl z))); exact nb (Or.inr (Or.inr (Or.inr (Or.inl z)))); exact nb (Or.inr (Or.inr (Or.inr (Or.inr (Or.inl z))))); exact nb (Or.inr (Or.inr (Or.inr (Or.inr (Or.inr (Or.inl z)))))); exact nb (Or.inr (Or.inr (Or.inr (Or.inr (Or.inr (Or.inr (Or.inl z))))))); exact nb (Or.inr (Or.inr (Or.inr (Or.inr (Or.inr (Or.inr (Or.inr (z)))))))); rw [z, hqN] at h1; cases h1))
      have hv2 : rdV ft tn9 = v := by rw [hv, hRF]; rfl
      have hF2 : rdF ft tn9 = RF := hRF.symm
      have hst9 : ∀ (x : Nat) (e : va_E), G56 x = some e → x ≠ o → x ≠ q21 → x ≠ kp → (∀ k i, lvV v k → i < lnV v k → x ≠ AD k i) → G64 x = some e := fun x e z9 n_o n_q n_k n_a => by
        have y0 := (show G64 x = some e by rw [eG64]; exact mm_set_of z9 n_o)
        exact y0
      have nA : ∀ (x : Nat) (e : va_E), G x = some e → ∀ k i, lvV v k → i < lnV v k → x ≠ AD k i := hxA
      obtain ⟨edp2, pl2, fa2_, m2, K2, S2, V2, wf3, r1, ⟨u1, u2, u3, r2, r3, r4, r5, r6⟩, r7⟩ := hRDS
      have hnq2 : ∀ (x : Nat) (e : va_E), G x = some e → x ≠ q21 := fun x e z9 z => by rw [z, hqN] at z9; cases z9
      have hR2 : RDS cy tk G64 rd ow k ks ss vs := ⟨edp2, pl2, fa2_, m2, K2, S2, V2, wf3, hst9 _ _ r1 (mm_ne_oo hrd h0 (by decide)) (hnq2 rd _ hrd) (mm_ne_oa hrd hkp) (nA rd _ hrd), ⟨u1, u2, u3, hst9 _ _ r2 (mm_ne_oo hk h0 (by decide)) (hnq2 k _ hk) (mm_ne_oa hk hkp) (nA k _ hk), hst9 _ _ r3 (mm_ne_ao hks h0) (hnq2 ks _ hks) (mm_ne_n hks hkp (by decide)) (nA ks _ hks), hst9 _ _ r4 (mm_ne_ao hss h0) (hnq2 ss _ hss) (mm_ne_n hss hkp (by decide)) (nA ss _ hss), hst9 _ _ r5 (mm_ne_ao hvs h0) (hnq2 vs _ hvs) (mm_ne_n hvs hkp (by decide)) (nA vs _ hvs), r6⟩, hst9 _ _ r7 (mm_ne_ao hwf h0) (hnq2 ow _ hwf) (mm_ne_n hwf hkp (by decide)) (nA ow _ hwf)⟩
      have hnaA : ∀ k i, lvV v k → i < lnV v k → na ≠ AD k i := fun k i hk hi => by have z := hPf.L.el k i hk hi; exact mm_ne_ao f_na z
      have hna2 : G64 na = some (.inl (cy 2, cap2, .inr (.inl nv2))) := hst9 _ _ f_na (mm_ne_ao f_na k58) (mm_ne_ao f_na k_ed) (fun z => by rw [z, hkp] at hnaF; cases hnaF) hnaA
      have hq1 : ¬ RF.2.2 < 0 := by rw [← ex61]; exact Int32.not_lt.mpr c_31
      have hG1 : rdG ft tn9 = (-1, none) := by rw [rdG, hF2, if_neg hq1]
      have hP1_ : rdP ft tn9 = RF.2.2 := by rw [rdP, hF2, if_neg hq1]
      have hsg : ¬ rdP ft tn9 < 0 := by rw [hP1_]; rw [← ex61]; exact hneg
      have hA1_ : rdA ft tn9 = -(lnc ft (min pn tn9)) := by rw [rdA, if_neg hsg, hP1_, ← ex61, hpe, nI_clamp hpn]
      exact W.iret (v := (-r62)) hx hb hr (fun t ht hW => ⟨⟨_, _, rfl, (by rw [hv2, hF2, hG1]; simp only [rdN, hF2, if_neg hsg]; exact ⟨(by rw [hA1_, er62]), q21, LA, EA, AD, PI, PtV.nil, na, cap2, nv2, hR2, hbz, hLF, hqN, hnaF, f_5, hna2, f_1, f_2, f_3, ⟨rfl, rfl, rfl⟩, (fun z => absurd z hq1), k68, k65, k67⟩), mk_end hG ht⟩, hS.F ht⟩) hS.2.2 dX13_read_68
  · skip
    refine lv_aload_n hx hb dX13_read_34 rfl (lv_at hl 1 rfl) ?_
    have hq0 : RF.2.2 < 0 := by rw [← ex61]; exact Int32.not_le.mp c_31
    refine va_callv (va_runV (As := []) (rest := []) ⟨hx, hb, hml, hown, (fun _ h9 => absurd h9 List.not_mem_nil : ∀ w ∈ ([] : List Cond), w.before _ s = true)⟩ (c_X2_findMeanings l D cy A X hst hXT e0 tk hXE mi hXL ax adK adV hXX G56 G (fun x => x = o ∨ x = rd ∨ x = ow ∨ x = k ∨ x = ks ∨ x = ss ∨ x = vs ∨ x = kp ∨ x = q21) v PtV.nil LA EA AD PI q21 na (nI (ntL (tkK ft tn9) (tkV ft tn9) (if RF.2.2 < 0 then tkN ft tn9 else 0)).1) none (-1, none) hP57 (Or.inr (Or.inr (Or.inr (Or.inr (Or.inr (Or.inr (Or.inr (Or.inr (rfl))))))))) k_ed ⟨fun _ => rfl, fun _ _ => ⟨rfl, rfl⟩, fun _ _ => ⟨rfl, rfl⟩⟩ hKO) (tb_cw (C := RX2) 0 hT tw_994 tw_110 tw_991 tw_992 tw_993 rfl rfl hq_X2_findMeanings ⟨Nat.le_of_ble_eq_true rfl, Nat.le_of_ble_eq_true rfl⟩) (mk_preC hst hG hK hA hX hS vc_3 k_ed) rfl rfl hl.1 rfl (lv_room (Nat.le_of_ble_eq_true rfl)) dX13_read_35 ⟨Nat.le_of_ble_eq_true rfl, Nat.le_of_ble_eq_true rfl⟩) hS (fun q _ h => h) (fun q h => h) (fun  G70 t H locs ht hvm hw hB hz1 hk1 hS => ?_)
    have hG : mm D vwCl A G70 H := by rw [← ht]; exact hB
    clear hB hz1 hk1 hvm ht
    obtain ⟨z2, hP71, k_e2, hZ, hf9⟩ := hw
    have k72 : G70 o = some (.inr (14, [.ref tx, .ref rd, .ref to, .ref se, .ref kp, .int (nI tn9), .int (nI kn), va_rf hd, .null])) := hf9 _ _ k58 (mm_ne_oo k58 k_ed (by decide)) (hxA o _ h0)
    have k73 : G70 tx = some (.inl (cy 0, 2000, .inl ft)) := hf9 _ _ k59 (mm_ne_ao k59 k_ed) (hxA tx _ htx)
    have k74 : G70 kp = some (.inl (cy 6, 4, .inr (.inr (.inr (.inr kf))))) := hf9 _ _ k60 (mm_ne_ao k60 k_ed) (hxA kp _ hkp)
    have hnq : ∀ (x : Nat) (e : va_E), G x = some e → x ≠ q21 := fun x e z9 z => by rw [z, hqN] at z9; cases z9
    refine lv_aload_n hx hb dX13_read_38 rfl (lv_at hl 1 rfl) ?_
    refine mm_getN (v := .int ((mAll v (-1, none)).1)) hx hb hf_X2 (fun _ h9 => h9) hown hK hG k_e2 rfl 9 (by decide) (tb_use hT tw_299) (fun _ h9 => h9) rfl dX13_read_39 ?_
    refine lv_topi (fun x75 ex75 => ?_)
    refine lv_istore_n (lv' := [(2, .int x75), (1, .ref q21), (0, .ref o)]) hx hb dX13_read_42 rfl hl (by decide) rfl (fun ls hl => ?_)
    refine lv_aload_n hx hb dX13_read_43 rfl (lv_at hl 2 rfl) ?_
    refine lv_aload_n hx hb dX13_read_44 rfl (lv_at hl 1 rfl) ?_
    refine mm_getN (v := va_rf ((mAll v (-1, none)).2.map (AD 1))) hx hb hf_X2 (fun _ h9 => h9) hown hK hG k_e2 rfl 10 (by decide) (tb_use hT tw_300) (fun _ h9 => h9) rfl dX13_read_45 ?_
    refine mm_put (v := va_rf ((mAll v (-1, none)).2.map (AD 1))) (ty := .object "DescribeText$Layer") hx hb hf_X13 (fun _ h9 => h9) tyX13 tyX13_ok nmX13 hown hK hG hS k72 rfl 8 (by decide) (tb_use hT tw_219) (fun _ h9 => h9) rfl (by decide +kernel) (nar_rf _) (fits_rf _) (Nat.le_of_ble_eq_true rfl) dX13_read_48 (fun H locs hG hS => ?_)
    obtain ⟨G76, eG76⟩ : ∃ g, g = mm_set G70 o (.inr (14, [.ref tx, .ref rd, .ref to, .ref se, .ref kp, .int (nI tn9), .int (nI kn), va_rf hd, va_rf ((mAll v (-1, none)).2.map (AD 1))])) := ⟨_, rfl⟩
    have hG : mm D vwCl A G76 H := by rw [eG76]; exact hG
    have k77 : G76 o = some (.inr (14, [.ref tx, .ref rd, .ref to, .ref se, .ref kp, .int (nI tn9), .int (nI kn), va_rf hd, va_rf ((mAll v (-1, none)).2.map (AD 1))])) := by rw [eG76]; exact mm_set_self
    have k78 : G76 tx = some (.inl (cy 0, 2000, .inl ft)) := by rw [eG76]; exact mm_set_of k73 (mm_ne_ao k73 k72)
    have k79 : G76 kp = some (.inl (cy 6, 4, .inr (.inr (.inr (.inr kf))))) := by rw [eG76]; exact mm_set_of k74 (mm_ne_ao k74 k72)
    have k80 : G76 q21 = some (.inr (3, [.ref (LA 0), .ref (LA 1), .ref (LA 2), .ref (LA 3), .ref (LA 4), .ref (LA 5), .ref na, .int (nI (ntL (tkK ft tn9) (tkV ft tn9) (if RF.2.2 < 0 then tkN ft tn9 else 0)).1), .null, .int ((mAll v (-1, none)).1), va_rf ((mAll v (-1, none)).2.map (AD 1))])) := by rw [eG76]; exact mm_set_of k_e2 (mm_ne_oo k_e2 k72 (by decide))
    have hP81 : EDP cy e0 tk G (fun x => x = o ∨ x = rd ∨ x = ow ∨ x = k ∨ x = ks ∨ x = ss ∨ x = vs ∨ x = kp ∨ x = q21) G76 v z2 LA EA AD PI := hP71.mvG (fun y => y = o) (fun y hy => by rw [hy]; exact (Or.inl rfl)) apO.1 apO.2.1 apO.2.2.1 apO.2.2.2 (fun y hy => by rw [hy]; exact ⟨_, k77⟩) (fun x e h1 n1 => by rw [eG76]; exact mm_set_of h1 n1)
    refine lv_aload_n hx hb dX13_read_51 rfl (lv_at hl 2 rfl) ?_
    refine lv_iload_n hx hb dX13_read_52 rfl (lv_at hl 0 rfl) ?_
    by_cases hneg : x75 < 0
    · skip
      refine va_calli (va_runV (As := [.int x75]) (rest := []) ⟨hx, hb, hml, hown, (fun _ h9 => absurd h9 List.not_mem_nil : ∀ w ∈ ([] : List Cond), w.before _ s = true)⟩ (c_X13_lineAtN l D cy A X hst hXT e0 tk hXE G76 o tx rd to se kp hd ((mAll v (-1, none)).2.map (AD 1)) (nI kn) tn9 x75 ft k77 k78 hneg) (tb_cw (C := RX13) 1 hT tw_1073 tw_105 tw_1070 tw_1072 tw_44 rfl rfl hq_X13_lineAt ⟨Nat.le_of_ble_eq_true rfl, Nat.le_of_ble_eq_true rfl⟩) (mk_preC hst hG hK hA hX hS vc_14 k77) rfl rfl hl.1 rfl (lv_room (Nat.le_of_ble_eq_true rfl)) dX13_read_53 ⟨Nat.le_of_ble_eq_true rfl, Nat.le_of_ble_eq_true rfl⟩) hS (fun q _ h => h) (fun q h => h) (fun r82 G83 t H locs ht hvm hw hB hz1 hk1 hS => ?_)
      have hG : mm D vwCl A G83 H := by rw [← ht]; exact hB
      clear hB hz1 hk1 hvm ht
      obtain ⟨er82, hw⟩ := hw
      rw [hw] at hG
      refine lv_istore_n (lv' := [(3, .int r82), (2, .int x75), (1, .ref q21), (0, .ref o)]) hx hb dX13_read_56 rfl hl (by decide) rfl (fun ls hl => ?_)
      refine lv_aload_n hx hb dX13_read_57 rfl (lv_at hl 3 rfl) ?_
      refine lv_iconst (v := 0) hx hb dX13_read_58 (by decide) ?_
      refine mm_put (v := .int 0) (ty := .int) hx hb hf_X13 (fun _ h9 => h9) tyX13 tyX13_ok nmX13 hown hK hG hS k77 rfl 5 (by decide) (tb_use hT tw_216) (fun _ h9 => h9) rfl (by decide +kernel) rfl rfl (Nat.le_of_ble_eq_true rfl) dX13_read_59 (fun H locs hG hS => ?_)
      obtain ⟨G84, eG84⟩ : ∃ g, g = mm_set G76 o (.inr (14, [.ref tx, .ref rd, .ref to, .ref se, .ref kp, .int 0, .int (nI kn), va_rf hd, va_rf ((mAll v (-1, none)).2.map (AD 1))])) := ⟨_, rfl⟩
      have hG : mm D vwCl A G84 H := by rw [eG84]; exact hG
      have k85 : G84 o = some (.inr (14, [.ref tx, .ref rd, .ref to, .ref se, .ref kp, .int 0, .int (nI kn), va_rf hd, va_rf ((mAll v (-1, none)).2.map (AD 1))])) := by rw [eG84]; exact mm_set_self
      have k86 : G84 tx = some (.inl (cy 0, 2000, .inl ft)) := by rw [eG84]; exact mm_set_of k78 (mm_ne_ao k78 k77)
      have k87 : G84 kp = some (.inl (cy 6, 4, .inr (.inr (.inr (.inr kf))))) := by rw [eG84]; exact mm_set_of k79 (mm_ne_ao k79 k77)
      have k88 : G84 q21 = some (.inr (3, [.ref (LA 0), .ref (LA 1), .ref (LA 2), .ref (LA 3), .ref (LA 4), .ref (LA 5), .ref na, .int (nI (ntL (tkK ft tn9) (tkV ft tn9) (if RF.2.2 < 0 then tkN ft tn9 else 0)).1), .null, .int ((mAll v (-1, none)).1), va_rf ((mAll v (-1, none)).2.map (AD 1))])) := by rw [eG84]; exact mm_set_of k80 (mm_ne_oo k80 k77 (by decide))
      have hP89 : EDP cy e0 tk G (fun x => x = o ∨ x = rd ∨ x = ow ∨ x = k ∨ x = ks ∨ x = ss ∨ x = vs ∨ x = kp ∨ x = q21) G84 v z2 LA EA AD PI := hP81.mvG (fun y => y = o) (fun y hy => by rw [hy]; exact (Or.inl rfl)) apO.1 apO.2.1 apO.2.2.1 apO.2.2.2 (fun y hy => by rw [hy]; exact ⟨_, k85⟩) (fun x e h1 n1 => by rw [eG84]; exact mm_set_of h1 n1)
      refine lv_iload_n hx hb dX13_read_62 rfl (lv_at hl 1 rfl) ?_
      refine lv_if_lt (tgt := 69) hx hb dX13_read_63 (by decide) (fun c_63 => ?_) (fun c_63 => ?_)
      · skip
        refine lv_aload_n hx hb dX13_read_69 rfl (lv_at hl 3 rfl) ?_
        refine lv_aload_n hx hb dX13_read_70 rfl (lv_at hl 2 rfl) ?_
        refine va_callv (va_runV (As := [.ref q21]) (rest := []) ⟨hx, hb, hml, hown, (fun _ h9 => absurd h9 List.not_mem_nil : ∀ w ∈ ([] : List Cond), w.before _ s = true)⟩ (c_X13_takeG l D cy A X hst hXT e0 tk hXE mi hXL ax adK adV hXX G84 G (fun x => x = o ∨ x = rd ∨ x = ow ∨ x = k ∨ x = ks ∨ x = ss ∨ x = vs ∨ x = kp ∨ x = q21) v z2 LA EA AD PI q21 na (nI (ntL (tkK ft tn9) (tkV ft tn9) (if RF.2.2 < 0 then tkN ft tn9 else 0)).1) none (mAll v (-1, none)) o tx rd to se kp hd ((mAll v (-1, none)).2.map (AD 1)) 0 kn kf hP89 (Or.inr (Or.inr (Or.inr (Or.inr (Or.inr (Or.inr (Or.inr (Or.inr (rfl))))))))) k88 k85 k87 hkn (Or.inl rfl) (Or.inr (Or.inr (Or.inr (Or.inr (Or.inr (Or.inr (Or.inr (Or.inl rfl))))))))) (tb_cw (C := RX13) 1 hT tw_1077 tw_105 tw_1074 tw_1076 tw_45 rfl rfl hq_X13_take ⟨Nat.le_of_ble_eq_true rfl, Nat.le_of_ble_eq_true rfl⟩) (mk_preC hst hG hK hA hX hS vc_14 k85) rfl rfl hl.1 rfl (lv_room (Nat.le_of_ble_eq_true rfl)) dX13_read_71 ⟨Nat.le_of_ble_eq_true rfl, Nat.le_of_ble_eq_true rfl⟩) hS (fun q _ h => h) (fun q h => h) (fun  G90 t H locs ht hvm hw hB hz1 hk1 hS => ?_)
        have hG : mm D vwCl A G90 H := by rw [← ht]; exact hB
        clear hB hz1 hk1 hvm ht
        obtain ⟨t_o, t_e, t_k, hP91, t_f⟩ := hw
        refine lv_aload_n hx hb dX13_read_74 rfl (lv_at hl 2 rfl) ?_
        refine mm_getN (v := .ref (LA 2)) hx hb hf_X2 (fun _ h9 => h9) hown hK hG t_e rfl 2 (by decide) (tb_use hT tw_284) (fun _ h9 => h9) rfl dX13_read_75 ?_
        obtain ⟨mo92, h_mo92, -⟩ := id (hP91.lsS)
        refine va_calli (va_runV (As := []) (rest := []) ⟨hx, hb, hml, hown, (fun _ h9 => absurd h9 List.not_mem_nil : ∀ w ∈ ([] : List Cond), w.before _ s = true)⟩ (c_LS_size l D cy A X hst hXT e0 tk hXE mi hXL G90 (LA 2) (EA 2) v.nS (AD 2) (hP91.lsS)) (tb_cw (C := RJx4a65c) 0 hT tw_457 tw_113 tw_1031 tw_455 tw_456 rfl rfl hq_Jx4a65c_size_8abf5 ⟨Nat.le_of_ble_eq_true rfl, Nat.le_of_ble_eq_true rfl⟩) (mk_preC hst hG hK hA hX hS vc_1 h_mo92) rfl rfl hl.1 rfl (lv_room (Nat.le_of_ble_eq_true rfl)) dX13_read_78 ⟨Nat.le_of_ble_eq_true rfl, Nat.le_of_ble_eq_true rfl⟩) hS (fun q _ h => h) (fun q h => h) (fun r93 G94 t H locs ht hvm hw hB hz1 hk1 hS => ?_)
        have hG : mm D vwCl A G94 H := by rw [← ht]; exact hB
        clear hB hz1 hk1 hvm ht
        obtain ⟨rfl, hw⟩ := hw
        rw [hw] at hG
        have hbz : EDP cy e0 tk G (fun x => x = o ∨ x = rd ∨ x = ow ∨ x = k ∨ x = ks ∨ x = ss ∨ x = vs ∨ x = kp) G90 v z2 LA EA AD PI := by exact EDP.base hP91 (fun _ h => h) (fun i hi => Or.inl (hLF i hi)) hP91.L.al (fun x e h1 nb => hP91.L.fr x e h1 (by rintro (z | z | z | z | z | z | z | z | z); exact nb (Or.inl z); exact nb (Or.inr (Or.inl z)); exact nb (Or.inr (Or.inr (Or.inl z))); exact nb (Or.inr (Or.inr (Or.inr (Or.inl z)))); exact nb (Or.inr (Or.inr (Or.inr (Or.inr (Or.inl z))))); exact nb (Or.inr (Or.inr (Or.inr (Or.inr (Or.inr (Or.inl z)))))); exact nb (Or.inr (Or.inr (Or.inr (Or.inr (Or.inr (Or.inr (Or.inl z))))))); exact nb (Or.inr (Or.inr (Or.inr (Or.inr (Or.inr (Or.inr (Or.inr (z)))))))); rw [z, hqN] at h1; cases h1))
        have hv2 : rdV ft tn9 = v := by rw [hv, hRF]; rfl
        have hF2 : rdF ft tn9 = RF := hRF.symm
        have hst9 : ∀ (x : Nat) (e : va_E), G56 x = some e → x ≠ o → x ≠ q21 → x ≠ kp → (∀ k i, lvV v k → i < lnV v k → x ≠ AD k i) → G90 x = some e := fun x e z9 n_o n_q n_k n_a => by
          have y0 := hf9 x e z9 n_q n_a
          have y1 := (show G76 x = some e by rw [eG76]; exact mm_set_of y0 n_o)
          have y2 := (show G84 x = some e by rw [eG84]; exact mm_set_of y1 n_o)
          have y3 := t_f x e y2 n_o n_q n_k
          exact y3
        have nA : ∀ (x : Nat) (e : va_E), G x = some e → ∀ k i, lvV v k → i < lnV v k → x ≠ AD k i := hxA
        obtain ⟨edp2, pl2, fa2_, m2, K2, S2, V2, wf3, r1, ⟨u1, u2, u3, r2, r3, r4, r5, r6⟩, r7⟩ := hRDS
        have hnq2 : ∀ (x : Nat) (e : va_E), G x = some e → x ≠ q21 := fun x e z9 z => by rw [z, hqN] at z9; cases z9
        have hR2 : RDS cy tk G90 rd ow k ks ss vs := ⟨edp2, pl2, fa2_, m2, K2, S2, V2, wf3, hst9 _ _ r1 (mm_ne_oo hrd h0 (by decide)) (hnq2 rd _ hrd) (mm_ne_oa hrd hkp) (nA rd _ hrd), ⟨u1, u2, u3, hst9 _ _ r2 (mm_ne_oo hk h0 (by decide)) (hnq2 k _ hk) (mm_ne_oa hk hkp) (nA k _ hk), hst9 _ _ r3 (mm_ne_ao hks h0) (hnq2 ks _ hks) (mm_ne_n hks hkp (by decide)) (nA ks _ hks), hst9 _ _ r4 (mm_ne_ao hss h0) (hnq2 ss _ hss) (mm_ne_n hss hkp (by decide)) (nA ss _ hss), hst9 _ _ r5 (mm_ne_ao hvs h0) (hnq2 vs _ hvs) (mm_ne_n hvs hkp (by decide)) (nA vs _ hvs), r6⟩, hst9 _ _ r7 (mm_ne_ao hwf h0) (hnq2 ow _ hwf) (mm_ne_n hwf hkp (by decide)) (nA ow _ hwf)⟩
        have hnaA : ∀ k i, lvV v k → i < lnV v k → na ≠ AD k i := fun k i hk hi => by have z := hPf.L.el k i hk hi; exact mm_ne_ao f_na z
        have hna2 : G90 na = some (.inl (cy 2, cap2, .inr (.inl nv2))) := hst9 _ _ f_na (mm_ne_ao f_na k58) (mm_ne_ao f_na k_ed) (fun z => by rw [z, hkp] at hnaF; cases hnaF) hnaA
        have hG1 : rdG ft tn9 = mAll v (-1, none) := by rw [rdG, hF2, if_pos hq0, hv2]
        have hP1_ : rdP ft tn9 = (mAll v (-1, none)).1 := by rw [rdP, hF2, if_pos hq0, hG1]
        have hsg : rdP ft tn9 < 0 := by rw [hP1_]; rw [← ex75]; exact hneg
        have hA1_ : rdA ft tn9 = nI v.nS := by rw [rdA, if_pos hsg, hv2]
        exact W.iret (v := (nI v.nS)) hx hb hr (fun t ht hW => ⟨⟨_, _, rfl, (by rw [hv2, hF2, hG1]; simp only [rdN, hF2, if_pos hsg]; exact ⟨hA1_.symm, q21, LA, EA, AD, PI, z2, na, cap2, nv2, hR2, hbz, hLF, hqN, hnaF, f_5, hna2, f_1, f_2, f_3, hZ.2.2.2.2, (fun _ => ⟨hZ.1, hZ.2.1, hZ.2.2.1, hZ.2.2.2.1⟩), t_e, t_o, t_k⟩), mk_end hG ht⟩, hS.F ht⟩) hS.2.2 dX13_read_81
      · skip
        exact absurd hneg c_63
    · skip
      obtain ⟨pn, hpn, hpe⟩ := nI_of hneg
      refine W.eq (g2 := F0 m 53 ls [.int (nI pn), .ref o]) (by rw [hpe]) ?_
      refine va_calli (va_runV (As := [.int (nI pn)]) (rest := []) ⟨hx, hb, hml, hown, (fun _ h9 => absurd h9 List.not_mem_nil : ∀ w ∈ ([] : List Cond), w.before _ s = true)⟩ (c_X13_lineAtG l D cy A X hst hXT e0 tk hXE G76 o tx rd to se kp hd ((mAll v (-1, none)).2.map (AD 1)) (nI kn) tn9 pn ft k77 k78 htn (by omega)) (tb_cw (C := RX13) 1 hT tw_1073 tw_105 tw_1070 tw_1072 tw_44 rfl rfl hq_X13_lineAt ⟨Nat.le_of_ble_eq_true rfl, Nat.le_of_ble_eq_true rfl⟩) (mk_preC hst hG hK hA hX hS vc_14 k77) rfl rfl hl.1 rfl (lv_room (Nat.le_of_ble_eq_true rfl)) dX13_read_53 ⟨Nat.le_of_ble_eq_true rfl, Nat.le_of_ble_eq_true rfl⟩) hS (fun q _ h => h) (fun q h => h) (fun r95 G96 t H locs ht hvm hw hB hz1 hk1 hS => ?_)
      have hG : mm D vwCl A G96 H := by rw [← ht]; exact hB
      clear hB hz1 hk1 hvm ht
      obtain ⟨er95, hw⟩ := hw
      rw [hw] at hG
      refine lv_istore_n (lv' := [(3, .int r95), (2, .int x75), (1, .ref q21), (0, .ref o)]) hx hb dX13_read_56 rfl hl (by decide) rfl (fun ls hl => ?_)
      refine lv_aload_n hx hb dX13_read_57 rfl (lv_at hl 3 rfl) ?_
      refine lv_iconst (v := 0) hx hb dX13_read_58 (by decide) ?_
      refine mm_put (v := .int 0) (ty := .int) hx hb hf_X13 (fun _ h9 => h9) tyX13 tyX13_ok nmX13 hown hK hG hS k77 rfl 5 (by decide) (tb_use hT tw_216) (fun _ h9 => h9) rfl (by decide +kernel) rfl rfl (Nat.le_of_ble_eq_true rfl) dX13_read_59 (fun H locs hG hS => ?_)
      obtain ⟨G97, eG97⟩ : ∃ g, g = mm_set G76 o (.inr (14, [.ref tx, .ref rd, .ref to, .ref se, .ref kp, .int 0, .int (nI kn), va_rf hd, va_rf ((mAll v (-1, none)).2.map (AD 1))])) := ⟨_, rfl⟩
      have hG : mm D vwCl A G97 H := by rw [eG97]; exact hG
      have k98 : G97 o = some (.inr (14, [.ref tx, .ref rd, .ref to, .ref se, .ref kp, .int 0, .int (nI kn), va_rf hd, va_rf ((mAll v (-1, none)).2.map (AD 1))])) := by rw [eG97]; exact mm_set_self
      have k99 : G97 tx = some (.inl (cy 0, 2000, .inl ft)) := by rw [eG97]; exact mm_set_of k78 (mm_ne_ao k78 k77)
      have k100 : G97 kp = some (.inl (cy 6, 4, .inr (.inr (.inr (.inr kf))))) := by rw [eG97]; exact mm_set_of k79 (mm_ne_ao k79 k77)
      have k101 : G97 q21 = some (.inr (3, [.ref (LA 0), .ref (LA 1), .ref (LA 2), .ref (LA 3), .ref (LA 4), .ref (LA 5), .ref na, .int (nI (ntL (tkK ft tn9) (tkV ft tn9) (if RF.2.2 < 0 then tkN ft tn9 else 0)).1), .null, .int ((mAll v (-1, none)).1), va_rf ((mAll v (-1, none)).2.map (AD 1))])) := by rw [eG97]; exact mm_set_of k80 (mm_ne_oo k80 k77 (by decide))
      have hP102 : EDP cy e0 tk G (fun x => x = o ∨ x = rd ∨ x = ow ∨ x = k ∨ x = ks ∨ x = ss ∨ x = vs ∨ x = kp ∨ x = q21) G97 v z2 LA EA AD PI := hP81.mvG (fun y => y = o) (fun y hy => by rw [hy]; exact (Or.inl rfl)) apO.1 apO.2.1 apO.2.2.1 apO.2.2.2 (fun y hy => by rw [hy]; exact ⟨_, k98⟩) (fun x e h1 n1 => by rw [eG97]; exact mm_set_of h1 n1)
      refine lv_iload_n hx hb dX13_read_62 rfl (lv_at hl 1 rfl) ?_
      refine lv_if_lt (tgt := 69) hx hb dX13_read_63 (by decide) (fun c_63 => ?_) (fun c_63 => ?_)
      · skip
        exact absurd c_63 hneg
      · skip
        refine lv_iload_n hx hb dX13_read_66 rfl (lv_at hl 0 rfl) ?_
        refine lv_ineg hx hb dX13_read_67 ?_
        have hbz : EDP cy e0 tk G (fun x => x = o ∨ x = rd ∨ x = ow ∨ x = k ∨ x = ks ∨ x = ss ∨ x = vs ∨ x = kp) G97 v z2 LA EA AD PI := by exact EDP.base hP102 (fun _ h => h) (fun i hi => Or.inl (hLF i hi)) hP102.L.al (fun x e h1 nb => hP102.L.fr x e h1 (by rintro (z | z | z | z | z | z | z | z | z); exact nb (Or.inl z); exact nb (Or.inr (Or.inl z)); exact nb (Or.inr (Or.inr (Or.inl z))); exact nb (Or.inr (Or.inr (Or.inr (Or.inl z)))); exact nb (Or.inr (Or.inr (Or.inr (Or.inr (Or.inl z))))); exact nb (Or.inr (Or.inr (Or.inr (Or.inr (Or.inr (Or.inl z)))))); exact nb (Or.inr (Or.inr (Or.inr (Or.inr (Or.inr (Or.inr (Or.inl z))))))); exact nb (Or.inr (Or.inr (Or.inr (Or.inr (Or.inr (Or.inr (Or.inr (z)))))))); rw [z, hqN] at h1; cases h1))
        have hv2 : rdV ft tn9 = v := by rw [hv, hRF]; rfl
        have hF2 : rdF ft tn9 = RF := hRF.symm
        have hst9 : ∀ (x : Nat) (e : va_E), G56 x = some e → x ≠ o → x ≠ q21 → x ≠ kp → (∀ k i, lvV v k → i < lnV v k → x ≠ AD k i) → G97 x = some e := fun x e z9 n_o n_q n_k n_a => by
          have y0 := hf9 x e z9 n_q n_a
          have y1 := (show G76 x = some e by rw [eG76]; exact mm_set_of y0 n_o)
          have y2 := (show G97 x = some e by rw [eG97]; exact mm_set_of y1 n_o)
          exact y2
        have nA : ∀ (x : Nat) (e : va_E), G x = some e → ∀ k i, lvV v k → i < lnV v k → x ≠ AD k i := hxA
        obtain ⟨edp2, pl2, fa2_, m2, K2, S2, V2, wf3, r1, ⟨u1, u2, u3, r2, r3, r4, r5, r6⟩, r7⟩ := hRDS
        have hnq2 : ∀ (x : Nat) (e : va_E), G x = some e → x ≠ q21 := fun x e z9 z => by rw [z, hqN] at z9; cases z9
        have hR2 : RDS cy tk G97 rd ow k ks ss vs := ⟨edp2, pl2, fa2_, m2, K2, S2, V2, wf3, hst9 _ _ r1 (mm_ne_oo hrd h0 (by decide)) (hnq2 rd _ hrd) (mm_ne_oa hrd hkp) (nA rd _ hrd), ⟨u1, u2, u3, hst9 _ _ r2 (mm_ne_oo hk h0 (by decide)) (hnq2 k _ hk) (mm_ne_oa hk hkp) (nA k _ hk), hst9 _ _ r3 (mm_ne_ao hks h0) (hnq2 ks _ hks) (mm_ne_n hks hkp (by decide)) (nA ks _ hks), hst9 _ _ r4 (mm_ne_ao hss h0) (hnq2 ss _ hss) (mm_ne_n hss hkp (by decide)) (nA ss _ hss), hst9 _ _ r5 (mm_ne_ao hvs h0) (hnq2 vs _ hvs) (mm_ne_n hvs hkp (by decide)) (nA vs _ hvs), r6⟩, hst9 _ _ r7 (mm_ne_ao hwf h0) (hnq2 ow _ hwf) (mm_ne_n hwf hkp (by decide)) (nA ow _ hwf)⟩
        have hnaA : ∀ k i, lvV v k → i < lnV v k → na ≠ AD k i := fun k i hk hi => by have z := hPf.L.el k i hk hi; exact mm_ne_ao f_na z
        have hna2 : G97 na = some (.inl (cy 2, cap2, .inr (.inl nv2))) := hst9 _ _ f_na (mm_ne_ao f_na k58) (mm_ne_ao f_na k_ed) (fun z => by rw [z, hkp] at hnaF; cases hnaF) hnaA
        have hG1 : rdG ft tn9 = mAll v (-1, none) := by rw [rdG, hF2, if_pos hq0, hv2]
        have hP1_ : rdP ft tn9 = (mAll v (-1, none)).1 := by rw [rdP, hF2, if_pos hq0, hG1]
        have hsg : ¬ rdP ft tn9 < 0 := by rw [hP1_]; rw [← ex75]; exact hneg
        have hA1_ : rdA ft tn9 = -(lnc ft (min pn tn9)) := by rw [rdA, if_neg hsg, hP1_, ← ex75, hpe, nI_clamp hpn]
        exact W.iret (v := (-r95)) hx hb hr (fun t ht hW => ⟨⟨_, _, rfl, (by rw [hv2, hF2, hG1]; simp only [rdN, hF2, if_neg hsg]; exact ⟨(by rw [hA1_, er95]), q21, LA, EA, AD, PI, z2, na, cap2, nv2, hR2, hbz, hLF, hqN, hnaF, f_5, hna2, f_1, f_2, f_3, hZ.2.2.2.2, (fun _ => ⟨hZ.1, hZ.2.1, hZ.2.2.1, hZ.2.2.2.1⟩), k101, k98, k100⟩), mk_end hG ht⟩, hS.F ht⟩) hS.2.2 dX13_read_68
