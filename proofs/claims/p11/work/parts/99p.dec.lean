/-- what decode answers once the service is told -/
def dcA (v : EdV) (nm : Int64 → Int32) (P : PdT) (c p : Nat) (x : Int32) : Int64 := match cdN v (v.P c p).2.2.1 with
  | none => if x = 2 then -1 else 0
  | some k => if (P p).2.1 = 0 then (if x = 2 then -1 else 0) else if x = 0 then abv (v.C k).2.2.2.1 (v.C k).2.2.2.2.1 (v.C k).2.2.2.2.2 (P p).2.2.1 else if x = 1 then blw (v.C k).2.2.2.1 (v.C k).2.2.2.2.1 (v.C k).2.2.2.2.2 (P p).2.2.1 else if x = 2 then ((P p).1).toInt64 else if x = 3 then ((P p).2.1).toInt64 else (nm (match fnR v k (P p).2.2.1 with | none => 0 | some j => (v.R k j).2.2.1)).toInt64
/-- the service and parameter that two numbers name -/
def spO (v : EdV) (i j : Int32) : Option (Nat × Nat) := match svO v i with
  | none => none
  | some c => (paO v c j).map (fun p => (c, p))
theorem s_pd_r {z : PtV} {c i : Nat} {x : Int32 × Int32 × Int64 × Int64} : z.s_pd c i x = z.r_pd c (up1 (z.pd c) i x) := rfl
set_option maxHeartbeats 4000000 in
set_option maxRecDepth 100000 in
theorem c_H_decode (l : Launch) (D : va_G) (cy : Nat → ClassId) (A : Nat → Prop) (X : State → Prop) (hst : mk_St A X) (hXT : ∀ U : State, X U → TB U) (e0 : Nat) (tk : Nat → Nat) (hXE : ∀ U : State, X U → ES e0 tk A U) (mi : Nat) (hXL : ∀ U : State, X U → EL e0 mi A U) (ax adK adV : Nat → Nat) (hXX : ∀ U : State, X U → TX ax adK adV tk A U) (G : Nat → Option va_E) (G0 : Nat → Option va_E) (Bx : Nat → Prop) (v : EdV) (z : PtV) (LA EA : Nat → Nat) (AD : Nat → Nat → Nat) (PI : Nat → Nat) (ed na : Nat) (mm9 cap : Nat) (nv : Nat → Int64) (ui : Option Nat) (w9 : Int32 × Option Nat) (o tx rd to se kp : Nat) (rg : Option Nat) (tl kc : Int32) (iv jv wv : Int32) (ro ln : Nat) (fo9 : Nat → Int32) (h0 : G o = some (.inr (14, [.ref tx, .ref rd, .ref to, .ref se, .ref kp, .int tl, .int kc, .ref ed, va_rf rg]))) (hP : EDP cy e0 tk G0 Bx G v z LA EA AD PI) (hZ : ZF v AD z) (hed : G ed = some (.inr (3, [.ref (LA 0), .ref (LA 1), .ref (LA 2), .ref (LA 3), .ref (LA 4), .ref (LA 5), .ref na, .int (nI mm9), va_rf (ui.map (AD 1)), .int w9.1, va_rf (w9.2.map (AD 1))]))) (hna : G na = some (.inl (cy 2, cap, .inr (.inl nv)))) (hmc : mm9 ≤ cap) (hcap : cap ≤ 2048) (hui : ∀ k, ui = some k → k < v.nL) (hWd : WDv v) (hto : G to = some (.inr (7, [.ref ro, .int (nI ln)]))) (hro : G ro = some (.inl (cy 0, 64, .inl fo9))) (hln : ln ≤ 64) : Met l yX13_decode [.code yX13_decode cX13_decode 6 (some .long)] ({ frames := 6, cells := 0, slots := 0, locals := 180 }) (mk_Pre D vwCl (tyL cy) A X G [.ref o, .int iv, .int jv, .int wv]) (va_Ql (fun (r : Int64) (G2 : Nat → Option va_E) => (match spO v iv jv with | none => r = -1 ∧ G2 = G | some y => if 0 ≤ wv ∧ wv ≤ 4 then r = dcA v (fun y => nof (fun j => decide (nv j = y)) mm9) (teF v y.1 ln fo9 (z.pd y.1)) y.1 y.2 wv ∧ EDP cy e0 tk G0 Bx G2 v (z.r_pd y.1 (teF v y.1 ln fo9 (z.pd y.1))) LA EA AD PI ∧ (∀ (x : Nat) (e : va_E), G x = some e → (∀ i, i < v.nP y.1 → x ≠ AD (20 + y.1) i) → G2 x = some e) else r = -2 ∧ G2 = G)) (mk_B D vwCl A) A) 0 0 A := by
  refine Met.ofW (cc := cX13_decode) (maxL := 6) (ret := (some .long)) (by decide) rfl ?_
  intro p e s m args below meth c s₁ B hml hv
  obtain ⟨rfl, hG, hK, hA, hX⟩ := hv
  have hx := B.exec
  have hb := B.bytes
  have hr := B.returns
  have hlocks := B.notSynchronized
  have hT := hXT s hX
  have hown : s.vm.findClass RX13 = some m.cls := findClass_of_methodNamed B.named
  have hf_X13 : ∀ w ∈ u_ws RX13 TX13 9, w.before ([.ref o, .int iv, .int jv, .int wv] : List Value).toArray s = true := tb_list hT fX13
  have hf_X8 : ∀ w ∈ u_ws RX8 TX8 15, w.before ([.ref o, .int iv, .int jv, .int wv] : List Value).toArray s = true := tb_list hT fX8
  have hS : va_S A s.heap s.heap [] := va_S.rf
  have hE := hXE s hX
  have hl := lv_entry ([.ref o, .int iv, .int jv, .int wv]) (n := 6) (Nat.le_of_ble_eq_true rfl)
  rw [lg_entry_eq]
  generalize (lg_sl ([.ref o, .int iv, .int jv, .int wv]) ++ List.replicate (6 - (lg_sl ([.ref o, .int iv, .int jv, .int wv])).length) Slot.unset).toArray = ls at hl ⊢
  have hl : lv_has ls 6 [(0, .ref o), (1, .int iv), (2, .int jv), (3, .int wv)] := hl
  have hQ := hXX s hX
  refine lv_aload_n hx hb dX13_decode_0 rfl (lv_at hl 0 rfl) ?_
  refine lv_iload_n hx hb dX13_decode_1 rfl (lv_at hl 1 rfl) ?_
  refine va_callq (va_runV (As := [.int iv]) (rest := []) ⟨hx, hb, hml, hown, (fun _ h9 => absurd h9 List.not_mem_nil : ∀ w ∈ ([] : List Cond), w.before _ s = true)⟩ (c_H_serviceNumbered l D cy A X hst hXT e0 tk hXE mi hXL ax adK adV hXX G G0 Bx v z LA EA AD PI ed na mm9 cap nv ui w9 o tx rd to se kp rg tl kc iv h0 hP hZ hed hna hmc hcap hui) (tb_cw (C := RX13) 1 hT tw_1090 tw_105 tw_1087 tw_1089 tw_46 rfl rfl hq_X13_serviceNumbered ⟨Nat.le_of_ble_eq_true rfl, Nat.le_of_ble_eq_true rfl⟩) (mk_preC hst hG hK hA hX hS vc_14 h0) rfl rfl hl.1 rfl (lv_room (Nat.le_of_ble_eq_true rfl)) dX13_decode_2 ⟨Nat.le_of_ble_eq_true rfl, Nat.le_of_ble_eq_true rfl⟩) hS (fun q _ h => h) (fun q h => h) (fun r21 G22 t H locs ht hvm hw hB hz1 hk1 hS => ?_)
  have hG : mm D vwCl A G22 H := by rw [← ht]; exact hB
  clear hB hz1 hk1 hvm ht
  obtain ⟨er21, hw⟩ := hw
  rw [hw] at hG
  rw [er21]
  obtain ⟨y_hf23, hf23⟩ : ∃ y, svO v iv = y := ⟨_, rfl⟩
  cases y_hf23 with
  | none =>
    refine W.eq (g2 := F0 m 5 ls [.null]) (by first | rfl | (rw [hf23]; rfl)) ?_
    refine lv_astoreN (lv' := [(4, .null), (0, .ref o), (1, .int iv), (2, .int jv), (3, .int wv)]) hx hb dX13_decode_5 hl (by decide) rfl (fun ls hl => ?_)
    refine lv_aloadN hx hb dX13_decode_7 (lv_at hl 0 rfl) ?_
    refine lv_iload_n hx hb dX13_decode_9 rfl (lv_at hl 3 rfl) ?_
    refine va_callq (va_runS (As := [.null, .int jv]) (rest := []) ⟨hx, hb, hml, hown, (fun _ h9 => absurd h9 List.not_mem_nil : ∀ w ∈ ([] : List Cond), w.before _ s = true)⟩ (c_H_parameterNumbered0 l D cy A X hst hXT e0 tk hXE mi hXL ax adK adV hXX G G0 Bx v z LA EA AD PI jv hP) (tb_cs 2 hT tw_1103 tw_105 tw_1101 tw_1102 rfl rfl hq_X13_parameterNumbered ⟨Nat.le_of_ble_eq_true rfl, Nat.le_of_ble_eq_true rfl⟩) (mk_preS hst hG hK hA hX hS) rfl rfl hl.1 rfl (lv_room (Nat.le_of_ble_eq_true rfl)) dX13_decode_10 ⟨Nat.le_of_ble_eq_true rfl, Nat.le_of_ble_eq_true rfl⟩) hS (fun q _ h => h) (fun q h => h) (fun r25 G26 t H locs ht hvm hw hB hz1 hk1 hS => ?_)
    have hG : mm D vwCl A G26 H := by rw [← ht]; exact hB
    clear hB hz1 hk1 hvm ht
    obtain ⟨rfl, hw⟩ := hw
    rw [hw] at hG
    refine W.eq (g2 := F0 m 13 ls [.null]) rfl ?_
    refine lv_astoreN (lv' := [(5, .null), (4, .null), (0, .ref o), (1, .int iv), (2, .int jv), (3, .int wv)]) hx hb dX13_decode_13 hl (by decide) rfl (fun ls hl => ?_)
    refine lv_aloadN hx hb dX13_decode_15 (lv_at hl 1 rfl) ?_
    refine lv_ifnullN (tgt := 32) hx hb dX13_decode_17 (by decide) ?_
    refine lv_ldc2 hx hb hown (tb_use hT tw_1109) dX13_decode_32 ?_
    exact W.lret (v := (-1)) hx hb hr (fun t ht hW => ⟨⟨_, _, rfl, (by rw [spO, hf23]; exact ⟨(by first | trivial | rfl), (by first | trivial | rfl)⟩), mk_end hG ht⟩, hS.F ht⟩) hS.2.2 dX13_decode_35
  | some j24 =>
    have hj27 := svO_lt hf23
    refine W.eq (g2 := F0 m 5 ls [.ref (AD 2 j24)]) (by first | rfl | (rw [hf23]; rfl)) ?_
    refine lv_astore (lv' := [(4, .ref (AD 2 j24)), (0, .ref o), (1, .int iv), (2, .int jv), (3, .int wv)]) hx hb dX13_decode_5 hl (by decide) rfl (fun ls hl => ?_)
    refine lv_aload hx hb dX13_decode_7 (lv_at hl 0 rfl) ?_
    refine lv_iload_n hx hb dX13_decode_9 rfl (lv_at hl 3 rfl) ?_
    refine va_callq (va_runS (As := [.ref (AD 2 j24), .int jv]) (rest := []) ⟨hx, hb, hml, hown, (fun _ h9 => absurd h9 List.not_mem_nil : ∀ w ∈ ([] : List Cond), w.before _ s = true)⟩ (c_H_parameterNumbered l D cy A X hst hXT e0 tk hXE mi hXL ax adK adV hXX G G0 Bx v z LA EA AD PI j24 jv hP hZ hj27) (tb_cs 2 hT tw_1103 tw_105 tw_1101 tw_1102 rfl rfl hq_X13_parameterNumbered ⟨Nat.le_of_ble_eq_true rfl, Nat.le_of_ble_eq_true rfl⟩) (mk_preS hst hG hK hA hX hS) rfl rfl hl.1 rfl (lv_room (Nat.le_of_ble_eq_true rfl)) dX13_decode_10 ⟨Nat.le_of_ble_eq_true rfl, Nat.le_of_ble_eq_true rfl⟩) hS (fun q _ h => h) (fun q h => h) (fun r28 G29 t H locs ht hvm hw hB hz1 hk1 hS => ?_)
    have hG : mm D vwCl A G29 H := by rw [← ht]; exact hB
    clear hB hz1 hk1 hvm ht
    obtain ⟨er28, hw⟩ := hw
    rw [hw] at hG
    rw [er28]
    obtain ⟨y_hf30, hf30⟩ : ∃ y, paO v j24 jv = y := ⟨_, rfl⟩
    cases y_hf30 with
    | none =>
      refine W.eq (g2 := F0 m 13 ls [.null]) (by first | rfl | (rw [hf30]; rfl)) ?_
      refine lv_astoreN (lv' := [(5, .null), (4, .ref (AD 2 j24)), (0, .ref o), (1, .int iv), (2, .int jv), (3, .int wv)]) hx hb dX13_decode_13 hl (by decide) rfl (fun ls hl => ?_)
      refine lv_aload hx hb dX13_decode_15 (lv_at hl 1 rfl) ?_
      refine lv_ifnull hx hb dX13_decode_17 ?_
      refine lv_aloadN hx hb dX13_decode_20 (lv_at hl 0 rfl) ?_
      refine lv_ifnullN (tgt := 32) hx hb dX13_decode_22 (by decide) ?_
      refine lv_ldc2 hx hb hown (tb_use hT tw_1109) dX13_decode_32 ?_
      exact W.lret (v := (-1)) hx hb hr (fun t ht hW => ⟨⟨_, _, rfl, (by rw [spO, hf23]; simp only []; rw [hf30]; exact ⟨(by first | trivial | rfl), (by first | trivial | rfl)⟩), mk_end hG ht⟩, hS.F ht⟩) hS.2.2 dX13_decode_35
    | some j31 =>
      have hj32 := paO_lt hf30
      refine W.eq (g2 := F0 m 13 ls [.ref (AD (20 + j24) j31)]) (by first | rfl | (rw [hf30]; rfl)) ?_
      refine lv_astore (lv' := [(5, .ref (AD (20 + j24) j31)), (4, .ref (AD 2 j24)), (0, .ref o), (1, .int iv), (2, .int jv), (3, .int wv)]) hx hb dX13_decode_13 hl (by decide) rfl (fun ls hl => ?_)
      refine lv_aload hx hb dX13_decode_15 (lv_at hl 1 rfl) ?_
      refine lv_ifnull hx hb dX13_decode_17 ?_
      refine lv_aload hx hb dX13_decode_20 (lv_at hl 0 rfl) ?_
      refine lv_ifnull hx hb dX13_decode_22 ?_
      refine lv_aload_n hx hb dX13_decode_25 rfl (lv_at hl 2 rfl) ?_
      refine mm_get (v := .ref ed) hx hb hf_X13 (fun _ h9 => h9) hown hK hG h0 rfl 7 (by decide) (tb_use hT tw_218) (fun _ h9 => h9) rfl dX13_decode_26 ?_
      refine lv_ifnonnull (tgt := 36) hx hb dX13_decode_29 (by decide) ?_
      refine lv_iload_n hx hb dX13_decode_36 rfl (lv_at hl 5 rfl) ?_
      refine lv_if_lt (tgt := 45) hx hb dX13_decode_37 (by decide) (fun c_37 => ?_) (fun c_37 => ?_)
      · skip
        refine lv_ldc2 hx hb hown (tb_use hT tw_1110) dX13_decode_45 ?_
        have hsp9 : spO v iv jv = some (j24, j31) := by rw [spO, hf23]; simp only []; rw [hf30]; rfl
        have hno : ¬ (0 ≤ wv ∧ wv ≤ 4) := fun z => absurd c_37 (Int32.not_lt.mpr z.1)
        exact W.lret (v := (-2)) hx hb hr (fun t ht hW => ⟨⟨_, _, rfl, (by rw [hsp9]; simp only []; rw [if_neg hno]; exact ⟨(by first | trivial | rfl), (by first | trivial | rfl)⟩), mk_end hG ht⟩, hS.F ht⟩) hS.2.2 dX13_decode_48
      · skip
        refine lv_iload_n hx hb dX13_decode_40 rfl (lv_at hl 5 rfl) ?_
        refine lv_iconst (v := 4) hx hb dX13_decode_41 (by decide) ?_
        refine lv_icmp_le (tgt := 49) hx hb dX13_decode_42 (by decide) (fun c_42 => ?_) (fun c_42 => ?_)
        · skip
          refine lv_aload hx hb dX13_decode_49 (lv_at hl 1 rfl) ?_
          refine lv_aload_n hx hb dX13_decode_51 rfl (lv_at hl 2 rfl) ?_
          refine mm_get (v := .ref to) hx hb hf_X13 (fun _ h9 => h9) hown hK hG h0 rfl 2 (by decide) (tb_use hT tw_213) (fun _ h9 => h9) rfl dX13_decode_52 ?_
          have k33 : G (AD 2 j24) = some (.inr (11, [.int (nI (j24 + 1)), .ref (AD 1 (v.S j24).1), .int ((v.S j24).2.1), .long ((v.S j24).2.2.1), .ref (LA (20 + j24)), .int ((v.S j24).2.2.2)])) := hP.elS hj27
          refine va_callv (va_runV (As := [.ref to]) (rest := []) ⟨hx, hb, hml, hown, (fun _ h9 => absurd h9 List.not_mem_nil : ∀ w ∈ ([] : List Cond), w.before _ s = true)⟩ (c_P_tell l D cy A X hst hXT e0 tk hXE mi hXL ax adK adV hXX G G0 Bx v z LA EA AD PI j24 (z.pd j24) to ro ln fo9 (by rw [r_pd_id]; exact hP) hZ hj27 hWd hto hro hln) (tb_cw (C := RX10) 1 hT tw_1114 tw_128 tw_1111 tw_1112 tw_1113 rfl rfl hq_X10_tell ⟨Nat.le_of_ble_eq_true rfl, Nat.le_of_ble_eq_true rfl⟩) (mk_preC hst hG hK hA hX hS vc_11 k33) rfl rfl hl.1 rfl (lv_room (Nat.le_of_ble_eq_true rfl)) dX13_decode_55 ⟨Nat.le_of_ble_eq_true rfl, Nat.le_of_ble_eq_true rfl⟩) hS (fun q _ h => h) (fun q h => h) (fun  G34 t H locs ht hvm hw hB hz1 hk1 hS => ?_)
          have hG : mm D vwCl A G34 H := by rw [← ht]; exact hB
          clear hB hz1 hk1 hvm ht
          obtain ⟨hP35, hf36⟩ := hw
          have k37 : G34 o = some (.inr (14, [.ref tx, .ref rd, .ref to, .ref se, .ref kp, .int tl, .int kc, .ref ed, va_rf rg])) := hf36 _ _ h0 (fun i hi => mm_ne_oo h0 (hP.elP hj27 hi) (by decide))
          have k38 : G34 ed = some (.inr (3, [.ref (LA 0), .ref (LA 1), .ref (LA 2), .ref (LA 3), .ref (LA 4), .ref (LA 5), .ref na, .int (nI mm9), va_rf (ui.map (AD 1)), .int w9.1, va_rf (w9.2.map (AD 1))])) := hf36 _ _ hed (fun i hi => mm_ne_oo hed (hP.elP hj27 hi) (by decide))
          have k39 : G34 na = some (.inl (cy 2, cap, .inr (.inl nv))) := hf36 _ _ hna (fun i hi => mm_ne_ao hna (hP.elP hj27 hi))
          have k40 : G34 to = some (.inr (7, [.ref ro, .int (nI ln)])) := hf36 _ _ hto (fun i hi => mm_ne_oo hto (hP.elP hj27 hi) (by decide))
          have k41 : G34 ro = some (.inl (cy 0, 64, .inl fo9)) := hf36 _ _ hro (fun i hi => mm_ne_ao hro (hP.elP hj27 hi))
          have k42 : G34 (AD 2 j24) = some (.inr (11, [.int (nI (j24 + 1)), .ref (AD 1 (v.S j24).1), .int ((v.S j24).2.1), .long ((v.S j24).2.2.1), .ref (LA (20 + j24)), .int ((v.S j24).2.2.2)])) := hf36 _ _ k33 (fun i hi => mm_ne_oo k33 (hP.elP hj27 hi) (by decide))
          refine lv_aload hx hb dX13_decode_58 (lv_at hl 0 rfl) ?_
          have k43 : G34 (AD (20 + j24) j31) = some (.inr (9, [.int (nI (j31 + 1)), .int ((v.P j24 j31).1), .long ((v.P j24 j31).2.1), .long ((v.P j24 j31).2.2.1), .int ((v.P j24 j31).2.2.2.1), va_rf ((cdN v ((v.P j24 j31).2.2.1)).map (AD 0)), .int ((v.P j24 j31).2.2.2.2.1), .long ((v.P j24 j31).2.2.2.2.2.1), .int ((v.P j24 j31).2.2.2.2.2.2.1), va_rf ((peI v j24 j31).map (AD (20 + j24))), .int ((v.P j24 j31).2.2.2.2.2.2.2), .int (((teF v j24 ln fo9 (z.pd j24)) j31).1), .int (((teF v j24 ln fo9 (z.pd j24)) j31).2.1), .long (((teF v j24 ln fo9 (z.pd j24)) j31).2.2.1), .long (((teF v j24 ln fo9 (z.pd j24)) j31).2.2.2)])) := by rw [← (hZ.2.2.1 j24 hj27 j31 hj32).1, ← (hZ.2.2.1 j24 hj27 j31 hj32).2]; have z9 := hP35.elP hj27 hj32; rw [r_pd_at] at z9; exact z9
          refine mm_getN (v := .int (((teF v j24 ln fo9 (z.pd j24)) j31).2.1)) hx hb hf_X8 (fun _ h9 => h9) hown hK hG k43 rfl 12 (by decide) (tb_use hT tw_807) (fun _ h9 => h9) rfl dX13_decode_60 ?_
          refine lv_if_eq (tgt := 74) hx hb dX13_decode_63 (by decide) (fun c_63 => ?_) (fun c_63 => ?_)
          · skip
            refine lv_iload_n hx hb dX13_decode_74 rfl (lv_at hl 5 rfl) ?_
            refine lv_iconst (v := 2) hx hb dX13_decode_75 (by decide) ?_
            refine lv_icmp_ne (tgt := 85) hx hb dX13_decode_76 (by decide) (fun c_76 => ?_) (fun c_76 => ?_)
            · skip
              refine lv_lconst (v := 0) hx hb dX13_decode_85 (by decide) ?_
              have hsp9 : spO v iv jv = some (j24, j31) := by rw [spO, hf23]; simp only []; rw [hf30]; rfl
              have hyes : 0 ≤ wv ∧ wv ≤ 4 := ⟨Int32.not_lt.mp c_37, c_42⟩
              have hA9 : dcA v (fun y => nof (fun j => decide (nv j = y)) mm9) (teF v j24 ln fo9 (z.pd j24)) j24 j31 wv = if wv = 2 then -1 else 0 := by unfold dcA; split; rfl; rw [if_pos c_63]
              exact W.lret (v := 0) hx hb hr (fun t ht hW => ⟨⟨_, _, rfl, (by rw [hsp9]; simp only []; rw [if_pos hyes]; exact ⟨(by rw [hA9, if_neg c_76]; try rfl), hP35, hf36⟩), mk_end hG ht⟩, hS.F ht⟩) hS.2.2 dX13_decode_86
            · skip
              refine lv_ldc2 hx hb hown (tb_use hT tw_1109) dX13_decode_79 ?_
              refine lv_goto (tgt := 86) hx hb dX13_decode_82 (by decide) ?_
              have hsp9 : spO v iv jv = some (j24, j31) := by rw [spO, hf23]; simp only []; rw [hf30]; rfl
              have hyes : 0 ≤ wv ∧ wv ≤ 4 := ⟨Int32.not_lt.mp c_37, c_42⟩
              have hA9 : dcA v (fun y => nof (fun j => decide (nv j = y)) mm9) (teF v j24 ln fo9 (z.pd j24)) j24 j31 wv = if wv = 2 then -1 else 0 := by unfold dcA; split; rfl; rw [if_pos c_63]
              exact W.lret (v := (-1)) hx hb hr (fun t ht hW => ⟨⟨_, _, rfl, (by rw [hsp9]; simp only []; rw [if_pos hyes]; exact ⟨(by rw [hA9, if_pos c_76]; try rfl), hP35, hf36⟩), mk_end hG ht⟩, hS.F ht⟩) hS.2.2 dX13_decode_86
          · skip
            refine lv_aload hx hb dX13_decode_66 (lv_at hl 0 rfl) ?_
            refine mm_getN (v := va_rf ((cdN v ((v.P j24 j31).2.2.1)).map (AD 0))) hx hb hf_X8 (fun _ h9 => h9) hown hK hG k43 rfl 5 (by decide) (tb_use hT tw_786) (fun _ h9 => h9) rfl dX13_decode_68 ?_
            obtain ⟨y_hf44, hf44⟩ : ∃ y, cdN v ((v.P j24 j31).2.2.1) = y := ⟨_, rfl⟩
            cases y_hf44 with
            | none =>
              refine W.eq (g2 := F0 m 71 ls [.null]) (by first | rfl | (rw [hf44]; rfl)) ?_
              refine lv_ifnonnullN hx hb dX13_decode_71 ?_
              refine lv_iload_n hx hb dX13_decode_74 rfl (lv_at hl 5 rfl) ?_
              refine lv_iconst (v := 2) hx hb dX13_decode_75 (by decide) ?_
              refine lv_icmp_ne (tgt := 85) hx hb dX13_decode_76 (by decide) (fun c_76 => ?_) (fun c_76 => ?_)
              · skip
                refine lv_lconst (v := 0) hx hb dX13_decode_85 (by decide) ?_
                have hsp9 : spO v iv jv = some (j24, j31) := by rw [spO, hf23]; simp only []; rw [hf30]; rfl
                have hyes : 0 ≤ wv ∧ wv ≤ 4 := ⟨Int32.not_lt.mp c_37, c_42⟩
                have hA9 : dcA v (fun y => nof (fun j => decide (nv j = y)) mm9) (teF v j24 ln fo9 (z.pd j24)) j24 j31 wv = if wv = 2 then -1 else 0 := by rw [dcA, hf44]
                exact W.lret (v := 0) hx hb hr (fun t ht hW => ⟨⟨_, _, rfl, (by rw [hsp9]; simp only []; rw [if_pos hyes]; exact ⟨(by rw [hA9, if_neg c_76]; try rfl), hP35, hf36⟩), mk_end hG ht⟩, hS.F ht⟩) hS.2.2 dX13_decode_86
              · skip
                refine lv_ldc2 hx hb hown (tb_use hT tw_1109) dX13_decode_79 ?_
                refine lv_goto (tgt := 86) hx hb dX13_decode_82 (by decide) ?_
                have hsp9 : spO v iv jv = some (j24, j31) := by rw [spO, hf23]; simp only []; rw [hf30]; rfl
                have hyes : 0 ≤ wv ∧ wv ≤ 4 := ⟨Int32.not_lt.mp c_37, c_42⟩
                have hA9 : dcA v (fun y => nof (fun j => decide (nv j = y)) mm9) (teF v j24 ln fo9 (z.pd j24)) j24 j31 wv = if wv = 2 then -1 else 0 := by rw [dcA, hf44]
                exact W.lret (v := (-1)) hx hb hr (fun t ht hW => ⟨⟨_, _, rfl, (by rw [hsp9]; simp only []; rw [if_pos hyes]; exact ⟨(by rw [hA9, if_pos c_76]; try rfl), hP35, hf36⟩), mk_end hG ht⟩, hS.F ht⟩) hS.2.2 dX13_decode_86
            | some j45 =>
              have hj46 := cdN_lt hf44
              refine W.eq (g2 := F0 m 71 ls [.ref (AD 0 j45)]) (by first | rfl | (rw [hf44]; rfl)) ?_
              refine lv_ifnonnull (tgt := 87) hx hb dX13_decode_71 (by decide) ?_
              refine lv_iload_n hx hb dX13_decode_87 rfl (lv_at hl 5 rfl) ?_
              by_cases sw_88 : wv.toInt < 0 ∨ 3 < wv.toInt
              · skip
                refine lv_tableOut (tgt := 162) hx hb dX13_decode_88 sw_88 (by decide) ?_
                refine lv_aload_n hx hb dX13_decode_162 rfl (lv_at hl 2 rfl) ?_
                refine mm_get (v := .ref ed) hx hb hf_X13 (fun _ h9 => h9) hown hK hG k37 rfl 7 (by decide) (tb_use hT tw_218) (fun _ h9 => h9) rfl dX13_decode_163 ?_
                refine lv_aload hx hb dX13_decode_166 (lv_at hl 0 rfl) ?_
                refine mm_getN (v := va_rf ((cdN v ((v.P j24 j31).2.2.1)).map (AD 0))) hx hb hf_X8 (fun _ h9 => h9) hown hK hG k43 rfl 5 (by decide) (tb_use hT tw_786) (fun _ h9 => h9) rfl dX13_decode_168 ?_
                refine lv_aload hx hb dX13_decode_171 (lv_at hl 0 rfl) ?_
                refine mm_getN (v := .long (((teF v j24 ln fo9 (z.pd j24)) j31).2.2.1)) hx hb hf_X8 (fun _ h9 => h9) hown hK hG k43 rfl 13 (by decide) (tb_use hT tw_810) (fun _ h9 => h9) rfl dX13_decode_173 ?_
                refine W.eq (g2 := F0 m 176 ls [.long (((teF v j24 ln fo9 (z.pd j24)) j31).2.2.1), .ref (AD 0 j45), .ref ed]) (by first | rfl | (rw [hf44]; rfl)) ?_
                have k47 : G34 (AD 0 j45) = some (.inr (2, [.int (nI (j45 + 1)), .int ((v.C j45).1.1), .long ((v.C j45).1.2.1), .ref (LA (6 + j45)), .int ((v.C j45).1.2.2), .int ((v.C j45).2.1), .int ((v.C j45).2.2.1), .long ((v.C j45).2.2.2.1), .long ((v.C j45).2.2.2.2.1), .long ((v.C j45).2.2.2.2.2)])) := hP35.elC hj46
                refine va_calll (va_runV (As := [.long (((teF v j24 ln fo9 (z.pd j24)) j31).2.2.1)]) (rest := [.ref ed]) ⟨hx, hb, hml, hown, (fun _ h9 => absurd h9 List.not_mem_nil : ∀ w ∈ ([] : List Cond), w.before _ s = true)⟩ (c_H_rowName l D cy A X hst hXT e0 tk hXE mi hXL ax adK adV hXX G34 G0 Bx v (z.r_pd j24 (teF v j24 ln fo9 (z.pd j24))) LA EA AD PI j45 (((teF v j24 ln fo9 (z.pd j24)) j31).2.2.1) hP35 hj46) (tb_cw (C := RX1) 1 hT tw_1173 tw_122 tw_1170 tw_1171 tw_1172 rfl rfl hq_X1_rowName ⟨Nat.le_of_ble_eq_true rfl, Nat.le_of_ble_eq_true rfl⟩) (mk_preC hst hG hK hA hX hS vc_2 k47) rfl rfl hl.1 rfl (lv_room (Nat.le_of_ble_eq_true rfl)) dX13_decode_176 ⟨Nat.le_of_ble_eq_true rfl, Nat.le_of_ble_eq_true rfl⟩) hS (fun q _ h => h) (fun q h => h) (fun r48 G49 t H locs ht hvm hw hB hz1 hk1 hS => ?_)
                have hG : mm D vwCl A G49 H := by rw [← ht]; exact hB
                clear hB hz1 hk1 hvm ht
                obtain ⟨er48, hw⟩ := hw
                rw [hw] at hG
                refine va_calli (va_runV (As := [.long r48]) (rest := []) ⟨hx, hb, hml, hown, (fun _ h9 => absurd h9 List.not_mem_nil : ∀ w ∈ ([] : List Cond), w.before _ s = true)⟩ (c_X2_numberOf l D cy A X hst hXT e0 tk hXE mi hXL G34 ed (LA 0) (LA 1) (LA 2) (LA 3) (LA 4) (LA 5) na w9.1 (ui.map (AD 1)) (w9.2.map (AD 1)) mm9 cap nv r48 k38 k39 hmc (by omega)) (tb_cw (C := RX2) 1 hT tw_980 tw_110 tw_1092 tw_978 tw_979 rfl rfl hq_X2_numberOf ⟨Nat.le_of_ble_eq_true rfl, Nat.le_of_ble_eq_true rfl⟩) (mk_preC hst hG hK hA hX hS vc_3 k38) rfl rfl hl.1 rfl (lv_room (Nat.le_of_ble_eq_true rfl)) dX13_decode_179 ⟨Nat.le_of_ble_eq_true rfl, Nat.le_of_ble_eq_true rfl⟩) hS (fun q _ h => h) (fun q h => h) (fun r50 G51 t H locs ht hvm hw hB hz1 hk1 hS => ?_)
                have hG : mm D vwCl A G51 H := by rw [← ht]; exact hB
                clear hB hz1 hk1 hvm ht
                obtain ⟨er50, hw⟩ := hw
                rw [hw] at hG
                obtain ⟨x52, ex52⟩ : ∃ y, y = (r50 : Int32).toInt64 := ⟨_, rfl⟩
                refine lv_i2l (v := x52) hx hb dX13_decode_182 ex52.symm ?_
                have hsp9 : spO v iv jv = some (j24, j31) := by rw [spO, hf23]; simp only []; rw [hf30]; rfl
                have hyes : 0 ≤ wv ∧ wv ≤ 4 := ⟨Int32.not_lt.mp c_37, c_42⟩
                have n0 : ¬ wv = 0 := fun z => by rw [z] at sw_88; revert sw_88; decide
                have hn4 : ¬ wv = 1 ∧ ¬ wv = 2 ∧ ¬ wv = 3 := ⟨fun z => by rw [z] at sw_88; revert sw_88; decide, fun z => by rw [z] at sw_88; revert sw_88; decide, fun z => by rw [z] at sw_88; revert sw_88; decide⟩
                exact W.lret (v := x52) hx hb hr (fun t ht hW => ⟨⟨_, _, rfl, (by rw [hsp9]; simp only []; rw [if_pos hyes]; exact ⟨(by rw [dcA, hf44]; simp only []; rw [if_neg c_63, if_neg n0, if_neg hn4.1, if_neg hn4.2.1, if_neg hn4.2.2, ex52, er50, er48]; try rfl), hP35, hf36⟩), mk_end hG ht⟩, hS.F ht⟩) hS.2.2 dX13_decode_183
              · skip
                have hlo : ¬ wv.toInt < 0 := fun z => sw_88 (Or.inl z)
                have hhi : ¬ 3 < wv.toInt := fun z => sw_88 (Or.inr z)
                have hcs : wv.toInt = 0 ∨ wv.toInt = 1 ∨ wv.toInt = 2 ∨ wv.toInt = 3 := by omega
                rcases hcs with sw_88 | sw_88 | sw_88 | sw_88
                · skip
                  refine lv_tableIn (tgt := 120) hx hb dX13_decode_88 hlo hhi (off := 32) (by rw [sw_88]; rfl) (by decide) ?_
                  refine lv_aload hx hb dX13_decode_120 (lv_at hl 0 rfl) ?_
                  refine mm_getN (v := va_rf ((cdN v ((v.P j24 j31).2.2.1)).map (AD 0))) hx hb hf_X8 (fun _ h9 => h9) hown hK hG k43 rfl 5 (by decide) (tb_use hT tw_786) (fun _ h9 => h9) rfl dX13_decode_122 ?_
                  refine lv_aload hx hb dX13_decode_125 (lv_at hl 0 rfl) ?_
                  refine mm_getN (v := .long (((teF v j24 ln fo9 (z.pd j24)) j31).2.2.1)) hx hb hf_X8 (fun _ h9 => h9) hown hK hG k43 rfl 13 (by decide) (tb_use hT tw_810) (fun _ h9 => h9) rfl dX13_decode_127 ?_
                  refine W.eq (g2 := F0 m 130 ls [.long (((teF v j24 ln fo9 (z.pd j24)) j31).2.2.1), .ref (AD 0 j45)]) (by first | rfl | (rw [hf44]; rfl)) ?_
                  have k53 : G34 (AD 0 j45) = some (.inr (2, [.int (nI (j45 + 1)), .int ((v.C j45).1.1), .long ((v.C j45).1.2.1), .ref (LA (6 + j45)), .int ((v.C j45).1.2.2), .int ((v.C j45).2.1), .int ((v.C j45).2.2.1), .long ((v.C j45).2.2.2.1), .long ((v.C j45).2.2.2.2.1), .long ((v.C j45).2.2.2.2.2)])) := hP35.elC hj46
                  refine va_calll (va_runV (As := [.long (((teF v j24 ln fo9 (z.pd j24)) j31).2.2.1)]) (rest := []) ⟨hx, hb, hml, hown, (fun _ h9 => absurd h9 List.not_mem_nil : ∀ w ∈ ([] : List Cond), w.before _ s = true)⟩ (c_H_abv l D cy A X hst hXT e0 tk hXE mi hXL ax adK adV hXX G34 G0 Bx v (z.r_pd j24 (teF v j24 ln fo9 (z.pd j24))) LA EA AD PI j45 (((teF v j24 ln fo9 (z.pd j24)) j31).2.2.1) hP35 hj46) (tb_cw (C := RX1) 1 hT tw_1155 tw_122 tw_1152 tw_1153 tw_1154 rfl rfl hq_X1_above ⟨Nat.le_of_ble_eq_true rfl, Nat.le_of_ble_eq_true rfl⟩) (mk_preC hst hG hK hA hX hS vc_2 k53) rfl rfl hl.1 rfl (lv_room (Nat.le_of_ble_eq_true rfl)) dX13_decode_130 ⟨Nat.le_of_ble_eq_true rfl, Nat.le_of_ble_eq_true rfl⟩) hS (fun q _ h => h) (fun q h => h) (fun r54 G55 t H locs ht hvm hw hB hz1 hk1 hS => ?_)
                  have hG : mm D vwCl A G55 H := by rw [← ht]; exact hB
                  clear hB hz1 hk1 hvm ht
                  obtain ⟨er54, hw⟩ := hw
                  rw [hw] at hG
                  have hsp9 : spO v iv jv = some (j24, j31) := by rw [spO, hf23]; simp only []; rw [hf30]; rfl
                  have hyes : 0 ≤ wv ∧ wv ≤ 4 := ⟨Int32.not_lt.mp c_37, c_42⟩
                  have hxw : wv = nI 0 := i32_of (by decide) sw_88
                  exact W.lret (v := r54) hx hb hr (fun t ht hW => ⟨⟨_, _, rfl, (by rw [hsp9]; simp only []; rw [if_pos hyes]; exact ⟨(by rw [dcA, hf44]; simp only []; rw [if_neg c_63, hxw, er54]; rfl), hP35, hf36⟩), mk_end hG ht⟩, hS.F ht⟩) hS.2.2 dX13_decode_133
                · skip
                  refine lv_tableIn (tgt := 134) hx hb dX13_decode_88 hlo hhi (off := 46) (by rw [sw_88]; rfl) (by decide) ?_
                  refine lv_aload hx hb dX13_decode_134 (lv_at hl 0 rfl) ?_
                  refine mm_getN (v := va_rf ((cdN v ((v.P j24 j31).2.2.1)).map (AD 0))) hx hb hf_X8 (fun _ h9 => h9) hown hK hG k43 rfl 5 (by decide) (tb_use hT tw_786) (fun _ h9 => h9) rfl dX13_decode_136 ?_
                  refine lv_aload hx hb dX13_decode_139 (lv_at hl 0 rfl) ?_
                  refine mm_getN (v := .long (((teF v j24 ln fo9 (z.pd j24)) j31).2.2.1)) hx hb hf_X8 (fun _ h9 => h9) hown hK hG k43 rfl 13 (by decide) (tb_use hT tw_810) (fun _ h9 => h9) rfl dX13_decode_141 ?_
                  refine W.eq (g2 := F0 m 144 ls [.long (((teF v j24 ln fo9 (z.pd j24)) j31).2.2.1), .ref (AD 0 j45)]) (by first | rfl | (rw [hf44]; rfl)) ?_
                  have k56 : G34 (AD 0 j45) = some (.inr (2, [.int (nI (j45 + 1)), .int ((v.C j45).1.1), .long ((v.C j45).1.2.1), .ref (LA (6 + j45)), .int ((v.C j45).1.2.2), .int ((v.C j45).2.1), .int ((v.C j45).2.2.1), .long ((v.C j45).2.2.2.1), .long ((v.C j45).2.2.2.2.1), .long ((v.C j45).2.2.2.2.2)])) := hP35.elC hj46
                  refine va_calll (va_runV (As := [.long (((teF v j24 ln fo9 (z.pd j24)) j31).2.2.1)]) (rest := []) ⟨hx, hb, hml, hown, (fun _ h9 => absurd h9 List.not_mem_nil : ∀ w ∈ ([] : List Cond), w.before _ s = true)⟩ (c_H_blw l D cy A X hst hXT e0 tk hXE mi hXL ax adK adV hXX G34 G0 Bx v (z.r_pd j24 (teF v j24 ln fo9 (z.pd j24))) LA EA AD PI j45 (((teF v j24 ln fo9 (z.pd j24)) j31).2.2.1) hP35 hj46) (tb_cw (C := RX1) 1 hT tw_1169 tw_122 tw_1166 tw_1167 tw_1168 rfl rfl hq_X1_below ⟨Nat.le_of_ble_eq_true rfl, Nat.le_of_ble_eq_true rfl⟩) (mk_preC hst hG hK hA hX hS vc_2 k56) rfl rfl hl.1 rfl (lv_room (Nat.le_of_ble_eq_true rfl)) dX13_decode_144 ⟨Nat.le_of_ble_eq_true rfl, Nat.le_of_ble_eq_true rfl⟩) hS (fun q _ h => h) (fun q h => h) (fun r57 G58 t H locs ht hvm hw hB hz1 hk1 hS => ?_)
                  have hG : mm D vwCl A G58 H := by rw [← ht]; exact hB
                  clear hB hz1 hk1 hvm ht
                  obtain ⟨er57, hw⟩ := hw
                  rw [hw] at hG
                  have hsp9 : spO v iv jv = some (j24, j31) := by rw [spO, hf23]; simp only []; rw [hf30]; rfl
                  have hyes : 0 ≤ wv ∧ wv ≤ 4 := ⟨Int32.not_lt.mp c_37, c_42⟩
                  have hxw : wv = nI 1 := i32_of (by decide) sw_88
                  exact W.lret (v := r57) hx hb hr (fun t ht hW => ⟨⟨_, _, rfl, (by rw [hsp9]; simp only []; rw [if_pos hyes]; exact ⟨(by rw [dcA, hf44]; simp only []; rw [if_neg c_63, hxw, er57]; rfl), hP35, hf36⟩), mk_end hG ht⟩, hS.F ht⟩) hS.2.2 dX13_decode_147
                · skip
                  refine lv_tableIn (tgt := 148) hx hb dX13_decode_88 hlo hhi (off := 60) (by rw [sw_88]; rfl) (by decide) ?_
                  refine lv_aload hx hb dX13_decode_148 (lv_at hl 0 rfl) ?_
                  refine mm_getN (v := .int (((teF v j24 ln fo9 (z.pd j24)) j31).1)) hx hb hf_X8 (fun _ h9 => h9) hown hK hG k43 rfl 11 (by decide) (tb_use hT tw_804) (fun _ h9 => h9) rfl dX13_decode_150 ?_
                  obtain ⟨x59, ex59⟩ : ∃ y, y = (((teF v j24 ln fo9 (z.pd j24)) j31).1 : Int32).toInt64 := ⟨_, rfl⟩
                  refine lv_i2l (v := x59) hx hb dX13_decode_153 ex59.symm ?_
                  have hsp9 : spO v iv jv = some (j24, j31) := by rw [spO, hf23]; simp only []; rw [hf30]; rfl
                  have hyes : 0 ≤ wv ∧ wv ≤ 4 := ⟨Int32.not_lt.mp c_37, c_42⟩
                  have hxw : wv = nI 2 := i32_of (by decide) sw_88
                  exact W.lret (v := x59) hx hb hr (fun t ht hW => ⟨⟨_, _, rfl, (by rw [hsp9]; simp only []; rw [if_pos hyes]; exact ⟨(by rw [dcA, hf44]; simp only []; rw [if_neg c_63, hxw, ex59]; rfl), hP35, hf36⟩), mk_end hG ht⟩, hS.F ht⟩) hS.2.2 dX13_decode_154
                · skip
                  refine lv_tableIn (tgt := 155) hx hb dX13_decode_88 hlo hhi (off := 67) (by rw [sw_88]; rfl) (by decide) ?_
                  refine lv_aload hx hb dX13_decode_155 (lv_at hl 0 rfl) ?_
                  refine mm_getN (v := .int (((teF v j24 ln fo9 (z.pd j24)) j31).2.1)) hx hb hf_X8 (fun _ h9 => h9) hown hK hG k43 rfl 12 (by decide) (tb_use hT tw_807) (fun _ h9 => h9) rfl dX13_decode_157 ?_
                  obtain ⟨x60, ex60⟩ : ∃ y, y = (((teF v j24 ln fo9 (z.pd j24)) j31).2.1 : Int32).toInt64 := ⟨_, rfl⟩
                  refine lv_i2l (v := x60) hx hb dX13_decode_160 ex60.symm ?_
                  have hsp9 : spO v iv jv = some (j24, j31) := by rw [spO, hf23]; simp only []; rw [hf30]; rfl
                  have hyes : 0 ≤ wv ∧ wv ≤ 4 := ⟨Int32.not_lt.mp c_37, c_42⟩
                  have hxw : wv = nI 3 := i32_of (by decide) sw_88
                  exact W.lret (v := x60) hx hb hr (fun t ht hW => ⟨⟨_, _, rfl, (by rw [hsp9]; simp only []; rw [if_pos hyes]; exact ⟨(by rw [dcA, hf44]; simp only []; rw [if_neg c_63, hxw, ex60]; rfl), hP35, hf36⟩), mk_end hG ht⟩, hS.F ht⟩) hS.2.2 dX13_decode_161
        · skip
          refine lv_ldc2 hx hb hown (tb_use hT tw_1110) dX13_decode_45 ?_
          have hsp9 : spO v iv jv = some (j24, j31) := by rw [spO, hf23]; simp only []; rw [hf30]; rfl
          have hno : ¬ (0 ≤ wv ∧ wv ≤ 4) := fun z => c_42 z.2
          exact W.lret (v := (-2)) hx hb hr (fun t ht hW => ⟨⟨_, _, rfl, (by rw [hsp9]; simp only []; rw [if_neg hno]; exact ⟨(by first | trivial | rfl), (by first | trivial | rfl)⟩), mk_end hG ht⟩, hS.F ht⟩) hS.2.2 dX13_decode_48

set_option maxHeartbeats 4000000 in
set_option maxRecDepth 100000 in
theorem c_H_encode (l : Launch) (D : va_G) (cy : Nat → ClassId) (A : Nat → Prop) (X : State → Prop) (hst : mk_St A X) (hXT : ∀ U : State, X U → TB U) (e0 : Nat) (tk : Nat → Nat) (hXE : ∀ U : State, X U → ES e0 tk A U) (mi : Nat) (hXL : ∀ U : State, X U → EL e0 mi A U) (ax adK adV : Nat → Nat) (hXX : ∀ U : State, X U → TX ax adK adV tk A U) (G : Nat → Option va_E) (G0 : Nat → Option va_E) (Bx : Nat → Prop) (v : EdV) (z : PtV) (LA EA : Nat → Nat) (AD : Nat → Nat → Nat) (PI : Nat → Nat) (ed na : Nat) (mm9 cap : Nat) (nv : Nat → Int64) (ui : Option Nat) (w9 : Int32 × Option Nat) (o tx rd td kp : Nat) (rg : Option Nat) (tl kc : Int32) (iv jv : Int32) (xv : Int64) (to ro ln : Nat) (fo9 : Nat → Int32) (h0 : G o = some (.inr (14, [.ref tx, .ref rd, .ref td, .ref to, .ref kp, .int tl, .int kc, .ref ed, va_rf rg]))) (hP : EDP cy e0 tk G0 Bx G v z LA EA AD PI) (hZ : ZF v AD z) (hed : G ed = some (.inr (3, [.ref (LA 0), .ref (LA 1), .ref (LA 2), .ref (LA 3), .ref (LA 4), .ref (LA 5), .ref na, .int (nI mm9), va_rf (ui.map (AD 1)), .int w9.1, va_rf (w9.2.map (AD 1))]))) (hna : G na = some (.inl (cy 2, cap, .inr (.inl nv)))) (hmc : mm9 ≤ cap) (hcap : cap ≤ 2048) (hui : ∀ k, ui = some k → k < v.nL) (hWd : WDv v) (hto : G to = some (.inr (7, [.ref ro, .int (nI ln)]))) (hro : G ro = some (.inl (cy 0, 64, .inl fo9))) (hln : ln ≤ 64) (hBt : Bx to) (hBr : Bx ro) : Met l yX13_encode [.code yX13_encode cX13_encode 9 (some .int)] ({ frames := 6, cells := 0, slots := 0, locals := 180 }) (mk_Pre D vwCl (tyL cy) A X G [.ref o, .int iv, .int jv, .long xv]) (va_Qi (fun (r : Int32) (G2 : Nat → Option va_E) => (match spO v iv jv with | none => r = -1 ∧ G2 = G | some y => match cdN v (v.P y.1 y.2).2.2.1 with | none => r = -1 ∧ G2 = G | some k => if (rwF (v.C k).2.1 (v.C k).1.2.2 (v.C k).2.2.2.1 (v.C k).2.2.2.2.1 (v.C k).2.2.2.2.2 xv) = noR then r = 0 ∧ G2 = G else r = 1 ∧ G2 to = some (.inr (7, [.ref ro, .int (nI (maF v y.1 (up1 (z.pd y.1) y.2 ((z.pd y.1 y.2).1, (z.pd y.1 y.2).2.1, (z.pd y.1 y.2).2.2.1, (rwF (v.C k).2.1 (v.C k).1.2.2 (v.C k).2.2.2.1 (v.C k).2.2.2.2.1 (v.C k).2.2.2.2.2 xv))) fo9).2.1)])) ∧ G2 ro = some (.inl (cy 0, 64, .inl ((maF v y.1 (up1 (z.pd y.1) y.2 ((z.pd y.1 y.2).1, (z.pd y.1 y.2).2.1, (z.pd y.1 y.2).2.2.1, (rwF (v.C k).2.1 (v.C k).1.2.2 (v.C k).2.2.2.1 (v.C k).2.2.2.2.1 (v.C k).2.2.2.2.2 xv))) fo9).2.2))) ∧ EDP cy e0 tk G0 Bx G2 v (z.r_pd y.1 (maF v y.1 (up1 (z.pd y.1) y.2 ((z.pd y.1 y.2).1, (z.pd y.1 y.2).2.1, (z.pd y.1 y.2).2.2.1, (rwF (v.C k).2.1 (v.C k).1.2.2 (v.C k).2.2.2.1 (v.C k).2.2.2.2.1 (v.C k).2.2.2.2.2 xv))) fo9).1) LA EA AD PI ∧ (∀ (x : Nat) (e : va_E), G x = some e → x ≠ to → x ≠ ro → (∀ i, i < v.nP y.1 → x ≠ AD (20 + y.1) i) → G2 x = some e) ∧ (maF v y.1 (up1 (z.pd y.1) y.2 ((z.pd y.1 y.2).1, (z.pd y.1 y.2).2.1, (z.pd y.1 y.2).2.2.1, (rwF (v.C k).2.1 (v.C k).1.2.2 (v.C k).2.2.2.1 (v.C k).2.2.2.2.1 (v.C k).2.2.2.2.2 xv))) fo9).2.1 ≤ 64)) (mk_B D vwCl A) A) 0 0 A := by
  refine Met.ofW (cc := cX13_encode) (maxL := 9) (ret := (some .int)) (by decide) rfl ?_
  intro p e s m args below meth c s₁ B hml hv
  obtain ⟨rfl, hG, hK, hA, hX⟩ := hv
  have hx := B.exec
  have hb := B.bytes
  have hr := B.returns
  have hlocks := B.notSynchronized
  have hT := hXT s hX
  have hown : s.vm.findClass RX13 = some m.cls := findClass_of_methodNamed B.named
  have hf_X8 : ∀ w ∈ u_ws RX8 TX8 15, w.before ([.ref o, .int iv, .int jv, .long xv] : List Value).toArray s = true := tb_list hT fX8
  have hf_X13 : ∀ w ∈ u_ws RX13 TX13 9, w.before ([.ref o, .int iv, .int jv, .long xv] : List Value).toArray s = true := tb_list hT fX13
  have hS : va_S A s.heap s.heap [] := va_S.rf
  have hE := hXE s hX
  have hl := lv_entry ([.ref o, .int iv, .int jv, .long xv]) (n := 9) (Nat.le_of_ble_eq_true rfl)
  rw [lg_entry_eq]
  generalize (lg_sl ([.ref o, .int iv, .int jv, .long xv]) ++ List.replicate (9 - (lg_sl ([.ref o, .int iv, .int jv, .long xv])).length) Slot.unset).toArray = ls at hl ⊢
  have hl : lv_has ls 9 [(0, .ref o), (1, .int iv), (2, .int jv), (3, .long xv)] := hl
  have hQ := hXX s hX
  refine lv_aload_n hx hb dX13_encode_0 rfl (lv_at hl 0 rfl) ?_
  refine lv_iload_n hx hb dX13_encode_1 rfl (lv_at hl 1 rfl) ?_
  refine va_callq (va_runV (As := [.int iv]) (rest := []) ⟨hx, hb, hml, hown, (fun _ h9 => absurd h9 List.not_mem_nil : ∀ w ∈ ([] : List Cond), w.before _ s = true)⟩ (c_H_serviceNumbered l D cy A X hst hXT e0 tk hXE mi hXL ax adK adV hXX G G0 Bx v z LA EA AD PI ed na mm9 cap nv ui w9 o tx rd td to kp rg tl kc iv h0 hP hZ hed hna hmc hcap hui) (tb_cw (C := RX13) 1 hT tw_1090 tw_105 tw_1087 tw_1089 tw_46 rfl rfl hq_X13_serviceNumbered ⟨Nat.le_of_ble_eq_true rfl, Nat.le_of_ble_eq_true rfl⟩) (mk_preC hst hG hK hA hX hS vc_14 h0) rfl rfl hl.1 rfl (lv_room (Nat.le_of_ble_eq_true rfl)) dX13_encode_2 ⟨Nat.le_of_ble_eq_true rfl, Nat.le_of_ble_eq_true rfl⟩) hS (fun q _ h => h) (fun q h => h) (fun r21 G22 t H locs ht hvm hw hB hz1 hk1 hS => ?_)
  have hG : mm D vwCl A G22 H := by rw [← ht]; exact hB
  clear hB hz1 hk1 hvm ht
  obtain ⟨er21, hw⟩ := hw
  rw [hw] at hG
  rw [er21]
  obtain ⟨y_hf23, hf23⟩ : ∃ y, svO v iv = y := ⟨_, rfl⟩
  cases y_hf23 with
  | none =>
    refine W.eq (g2 := F0 m 5 ls [.null]) (by first | rfl | (rw [hf23]; rfl)) ?_
    refine lv_astoreN (lv' := [(5, .null), (0, .ref o), (1, .int iv), (2, .int jv), (3, .long xv)]) hx hb dX13_encode_5 hl (by decide) rfl (fun ls hl => ?_)
    refine lv_aloadN hx hb dX13_encode_7 (lv_at hl 0 rfl) ?_
    refine lv_iload_n hx hb dX13_encode_9 rfl (lv_at hl 3 rfl) ?_
    refine va_callq (va_runS (As := [.null, .int jv]) (rest := []) ⟨hx, hb, hml, hown, (fun _ h9 => absurd h9 List.not_mem_nil : ∀ w ∈ ([] : List Cond), w.before _ s = true)⟩ (c_H_parameterNumbered0 l D cy A X hst hXT e0 tk hXE mi hXL ax adK adV hXX G G0 Bx v z LA EA AD PI jv hP) (tb_cs 2 hT tw_1103 tw_105 tw_1101 tw_1102 rfl rfl hq_X13_parameterNumbered ⟨Nat.le_of_ble_eq_true rfl, Nat.le_of_ble_eq_true rfl⟩) (mk_preS hst hG hK hA hX hS) rfl rfl hl.1 rfl (lv_room (Nat.le_of_ble_eq_true rfl)) dX13_encode_10 ⟨Nat.le_of_ble_eq_true rfl, Nat.le_of_ble_eq_true rfl⟩) hS (fun q _ h => h) (fun q h => h) (fun r25 G26 t H locs ht hvm hw hB hz1 hk1 hS => ?_)
    have hG : mm D vwCl A G26 H := by rw [← ht]; exact hB
    clear hB hz1 hk1 hvm ht
    obtain ⟨rfl, hw⟩ := hw
    rw [hw] at hG
    refine W.eq (g2 := F0 m 13 ls [.null]) rfl ?_
    refine lv_astoreN (lv' := [(6, .null), (5, .null), (0, .ref o), (1, .int iv), (2, .int jv), (3, .long xv)]) hx hb dX13_encode_13 hl (by decide) rfl (fun ls hl => ?_)
    refine lv_aloadN hx hb dX13_encode_15 (lv_at hl 1 rfl) ?_
    refine lv_ifnullN (tgt := 33) hx hb dX13_encode_17 (by decide) ?_
    refine lv_iconst (v := (-1)) hx hb dX13_encode_33 (by decide) ?_
    exact W.iret (v := (-1)) hx hb hr (fun t ht hW => ⟨⟨_, _, rfl, (by rw [spO, hf23]; exact ⟨(by first | trivial | rfl), (by first | trivial | rfl)⟩), mk_end hG ht⟩, hS.F ht⟩) hS.2.2 dX13_encode_34
  | some j24 =>
    have hj27 := svO_lt hf23
    refine W.eq (g2 := F0 m 5 ls [.ref (AD 2 j24)]) (by first | rfl | (rw [hf23]; rfl)) ?_
    refine lv_astore (lv' := [(5, .ref (AD 2 j24)), (0, .ref o), (1, .int iv), (2, .int jv), (3, .long xv)]) hx hb dX13_encode_5 hl (by decide) rfl (fun ls hl => ?_)
    refine lv_aload hx hb dX13_encode_7 (lv_at hl 0 rfl) ?_
    refine lv_iload_n hx hb dX13_encode_9 rfl (lv_at hl 3 rfl) ?_
    refine va_callq (va_runS (As := [.ref (AD 2 j24), .int jv]) (rest := []) ⟨hx, hb, hml, hown, (fun _ h9 => absurd h9 List.not_mem_nil : ∀ w ∈ ([] : List Cond), w.before _ s = true)⟩ (c_H_parameterNumbered l D cy A X hst hXT e0 tk hXE mi hXL ax adK adV hXX G G0 Bx v z LA EA AD PI j24 jv hP hZ hj27) (tb_cs 2 hT tw_1103 tw_105 tw_1101 tw_1102 rfl rfl hq_X13_parameterNumbered ⟨Nat.le_of_ble_eq_true rfl, Nat.le_of_ble_eq_true rfl⟩) (mk_preS hst hG hK hA hX hS) rfl rfl hl.1 rfl (lv_room (Nat.le_of_ble_eq_true rfl)) dX13_encode_10 ⟨Nat.le_of_ble_eq_true rfl, Nat.le_of_ble_eq_true rfl⟩) hS (fun q _ h => h) (fun q h => h) (fun r28 G29 t H locs ht hvm hw hB hz1 hk1 hS => ?_)
    have hG : mm D vwCl A G29 H := by rw [← ht]; exact hB
    clear hB hz1 hk1 hvm ht
    obtain ⟨er28, hw⟩ := hw
    rw [hw] at hG
    rw [er28]
    obtain ⟨y_hf30, hf30⟩ : ∃ y, paO v j24 jv = y := ⟨_, rfl⟩
    cases y_hf30 with
    | none =>
      refine W.eq (g2 := F0 m 13 ls [.null]) (by first | rfl | (rw [hf30]; rfl)) ?_
      refine lv_astoreN (lv' := [(6, .null), (5, .ref (AD 2 j24)), (0, .ref o), (1, .int iv), (2, .int jv), (3, .long xv)]) hx hb dX13_encode_13 hl (by decide) rfl (fun ls hl => ?_)
      refine lv_aload hx hb dX13_encode_15 (lv_at hl 1 rfl) ?_
      refine lv_ifnull hx hb dX13_encode_17 ?_
      refine lv_aloadN hx hb dX13_encode_20 (lv_at hl 0 rfl) ?_
      refine lv_ifnullN (tgt := 33) hx hb dX13_encode_22 (by decide) ?_
      refine lv_iconst (v := (-1)) hx hb dX13_encode_33 (by decide) ?_
      exact W.iret (v := (-1)) hx hb hr (fun t ht hW => ⟨⟨_, _, rfl, (by rw [spO, hf23]; simp only []; rw [hf30]; exact ⟨(by first | trivial | rfl), (by first | trivial | rfl)⟩), mk_end hG ht⟩, hS.F ht⟩) hS.2.2 dX13_encode_34
    | some j31 =>
      have hj32 := paO_lt hf30
      refine W.eq (g2 := F0 m 13 ls [.ref (AD (20 + j24) j31)]) (by first | rfl | (rw [hf30]; rfl)) ?_
      refine lv_astore (lv' := [(6, .ref (AD (20 + j24) j31)), (5, .ref (AD 2 j24)), (0, .ref o), (1, .int iv), (2, .int jv), (3, .long xv)]) hx hb dX13_encode_13 hl (by decide) rfl (fun ls hl => ?_)
      refine lv_aload hx hb dX13_encode_15 (lv_at hl 1 rfl) ?_
      refine lv_ifnull hx hb dX13_encode_17 ?_
      refine lv_aload hx hb dX13_encode_20 (lv_at hl 0 rfl) ?_
      refine lv_ifnull hx hb dX13_encode_22 ?_
      refine lv_aload hx hb dX13_encode_25 (lv_at hl 0 rfl) ?_
      have k33 : G (AD (20 + j24) j31) = some (.inr (9, [.int (nI (j31 + 1)), .int ((v.P j24 j31).1), .long ((v.P j24 j31).2.1), .long ((v.P j24 j31).2.2.1), .int ((v.P j24 j31).2.2.2.1), va_rf ((cdN v ((v.P j24 j31).2.2.1)).map (AD 0)), .int ((v.P j24 j31).2.2.2.2.1), .long ((v.P j24 j31).2.2.2.2.2.1), .int ((v.P j24 j31).2.2.2.2.2.2.1), va_rf ((peI v j24 j31).map (AD (20 + j24))), .int ((v.P j24 j31).2.2.2.2.2.2.2), .int ((z.pd j24 j31).1), .int ((z.pd j24 j31).2.1), .long ((z.pd j24 j31).2.2.1), .long ((z.pd j24 j31).2.2.2)])) := by rw [← (hZ.2.2.1 j24 hj27 j31 hj32).1, ← (hZ.2.2.1 j24 hj27 j31 hj32).2]; exact hP.elP hj27 hj32
      refine mm_getN (v := va_rf ((cdN v ((v.P j24 j31).2.2.1)).map (AD 0))) hx hb hf_X8 (fun _ h9 => h9) hown hK hG k33 rfl 5 (by decide) (tb_use hT tw_786) (fun _ h9 => h9) rfl dX13_encode_27 ?_
      obtain ⟨y_hf34, hf34⟩ : ∃ y, cdN v ((v.P j24 j31).2.2.1) = y := ⟨_, rfl⟩
      cases y_hf34 with
      | none =>
        refine W.eq (g2 := F0 m 30 ls [.null]) (by first | rfl | (rw [hf34]; rfl)) ?_
        refine lv_ifnonnullN hx hb dX13_encode_30 ?_
        refine lv_iconst (v := (-1)) hx hb dX13_encode_33 (by decide) ?_
        have hsp9 : spO v iv jv = some (j24, j31) := by rw [spO, hf23]; simp only []; rw [hf30]; rfl
        exact W.iret (v := (-1)) hx hb hr (fun t ht hW => ⟨⟨_, _, rfl, (by rw [hsp9]; simp only []; rw [hf34]; exact ⟨(by first | trivial | rfl), (by first | trivial | rfl)⟩), mk_end hG ht⟩, hS.F ht⟩) hS.2.2 dX13_encode_34
      | some j35 =>
        have hj36 := cdN_lt hf34
        refine W.eq (g2 := F0 m 30 ls [.ref (AD 0 j35)]) (by first | rfl | (rw [hf34]; rfl)) ?_
        refine lv_ifnonnull (tgt := 35) hx hb dX13_encode_30 (by decide) ?_
        refine lv_aload hx hb dX13_encode_35 (lv_at hl 0 rfl) ?_
        refine mm_getN (v := va_rf ((cdN v ((v.P j24 j31).2.2.1)).map (AD 0))) hx hb hf_X8 (fun _ h9 => h9) hown hK hG k33 rfl 5 (by decide) (tb_use hT tw_786) (fun _ h9 => h9) rfl dX13_encode_37 ?_
        refine lv_lload_n hx hb dX13_encode_40 rfl (lv_at hl 5 rfl) ?_
        refine W.eq (g2 := F0 m 41 ls [.long xv, .ref (AD 0 j35)]) (by first | rfl | (rw [hf34]; rfl)) ?_
        have k37 : G (AD 0 j35) = some (.inr (2, [.int (nI (j35 + 1)), .int ((v.C j35).1.1), .long ((v.C j35).1.2.1), .ref (LA (6 + j35)), .int ((v.C j35).1.2.2), .int ((v.C j35).2.1), .int ((v.C j35).2.2.1), .long ((v.C j35).2.2.2.1), .long ((v.C j35).2.2.2.2.1), .long ((v.C j35).2.2.2.2.2)])) := hP.elC hj36
        refine va_calll (va_runV (As := [.long xv]) (rest := []) ⟨hx, hb, hml, hown, (fun _ h9 => absurd h9 List.not_mem_nil : ∀ w ∈ ([] : List Cond), w.before _ s = true)⟩ (c_H_rawFor l D cy A X hst hXT e0 tk hXE mi hXL ax adK adV hXX G G0 Bx v z LA EA AD PI j35 xv hP hj36) (tb_cw (C := RX1) 1 hT tw_1190 tw_122 tw_1187 tw_1188 tw_1189 rfl rfl hq_X1_rawFor ⟨Nat.le_of_ble_eq_true rfl, Nat.le_of_ble_eq_true rfl⟩) (mk_preC hst hG hK hA hX hS vc_2 k37) rfl rfl hl.1 rfl (lv_room (Nat.le_of_ble_eq_true rfl)) dX13_encode_41 ⟨Nat.le_of_ble_eq_true rfl, Nat.le_of_ble_eq_true rfl⟩) hS (fun q _ h => h) (fun q h => h) (fun r38 G39 t H locs ht hvm hw hB hz1 hk1 hS => ?_)
        have hG : mm D vwCl A G39 H := by rw [← ht]; exact hB
        clear hB hz1 hk1 hvm ht
        obtain ⟨er38, hw⟩ := hw
        rw [hw] at hG
        refine lv_lstore (lv' := [(7, .long r38), (6, .ref (AD (20 + j24) j31)), (5, .ref (AD 2 j24)), (0, .ref o), (1, .int iv), (2, .int jv), (3, .long xv)]) hx hb dX13_encode_44 hl (by decide) rfl (fun ls hl => ?_)
        refine lv_lload hx hb dX13_encode_46 (lv_at hl 0 rfl) ?_
        refine lv_ldc2 hx hb hown (tb_use hT tw_1199) dX13_encode_48 ?_
        refine W.lcmp hx hb dX13_encode_51 ?_
        refine lv_if_ne (tgt := 57) hx hb dX13_encode_52 (by decide) (fun c_52 => ?_) (fun c_52 => ?_)
        · skip
          refine lv_aload hx hb dX13_encode_57 (lv_at hl 1 rfl) ?_
          refine lv_lload hx hb dX13_encode_59 (lv_at hl 0 rfl) ?_
          refine mm_putN (v := .long r38) (ty := .long) hx hb hf_X8 (fun _ h9 => h9) tyX8 tyX8_ok nmX8 hown hK hG hS k33 rfl 14 (by decide) (tb_use hT tw_812) (fun _ h9 => h9) rfl (by decide +kernel) rfl rfl (Nat.le_of_ble_eq_true rfl) dX13_encode_61 (fun H locs hG hS => ?_)
          obtain ⟨G41, eG41⟩ : ∃ g, g = mm_set G (AD (20 + j24) j31) (.inr (9, [.int (nI (j31 + 1)), .int ((v.P j24 j31).1), .long ((v.P j24 j31).2.1), .long ((v.P j24 j31).2.2.1), .int ((v.P j24 j31).2.2.2.1), va_rf ((cdN v ((v.P j24 j31).2.2.1)).map (AD 0)), .int ((v.P j24 j31).2.2.2.2.1), .long ((v.P j24 j31).2.2.2.2.2.1), .int ((v.P j24 j31).2.2.2.2.2.2.1), va_rf ((peI v j24 j31).map (AD (20 + j24))), .int ((v.P j24 j31).2.2.2.2.2.2.2), .int ((z.pd j24 j31).1), .int ((z.pd j24 j31).2.1), .long ((z.pd j24 j31).2.2.1), .long r38])) := ⟨_, rfl⟩
          have hG : mm D vwCl A G41 H := by rw [eG41]; exact hG
          have hP42 : EDP cy e0 tk G0 Bx G41 v (z.s_pd j24 j31 ((z.pd j24 j31).1, (z.pd j24 j31).2.1, (z.pd j24 j31).2.2.1, r38)) LA EA AD PI := by rw [eG41, ← (hZ.2.2.1 j24 hj27 j31 hj32).1, ← (hZ.2.2.1 j24 hj27 j31 hj32).2]; exact EDP.put_pd hP hj27 hj32 (x := ((z.pd j24 j31).1, (z.pd j24 j31).2.1, (z.pd j24 j31).2.2.1, r38))
          have k43 : G41 o = some (.inr (14, [.ref tx, .ref rd, .ref td, .ref to, .ref kp, .int tl, .int kc, .ref ed, va_rf rg])) := by rw [eG41]; exact mm_set_of h0 (mm_ne_oo h0 k33 (by decide))
          have k44 : G41 ed = some (.inr (3, [.ref (LA 0), .ref (LA 1), .ref (LA 2), .ref (LA 3), .ref (LA 4), .ref (LA 5), .ref na, .int (nI mm9), va_rf (ui.map (AD 1)), .int w9.1, va_rf (w9.2.map (AD 1))])) := by rw [eG41]; exact mm_set_of hed (mm_ne_oo hed k33 (by decide))
          have k45 : G41 na = some (.inl (cy 2, cap, .inr (.inl nv))) := by rw [eG41]; exact mm_set_of hna (mm_ne_ao hna k33)
          have k46 : G41 to = some (.inr (7, [.ref ro, .int (nI ln)])) := by rw [eG41]; exact mm_set_of hto (mm_ne_oo hto k33 (by decide))
          have k47 : G41 ro = some (.inl (cy 0, 64, .inl fo9)) := by rw [eG41]; exact mm_set_of hro (mm_ne_ao hro k33)
          have k48 : G41 (AD (20 + j24) j31) = some (.inr (9, [.int (nI (j31 + 1)), .int ((v.P j24 j31).1), .long ((v.P j24 j31).2.1), .long ((v.P j24 j31).2.2.1), .int ((v.P j24 j31).2.2.2.1), va_rf ((cdN v ((v.P j24 j31).2.2.1)).map (AD 0)), .int ((v.P j24 j31).2.2.2.2.1), .long ((v.P j24 j31).2.2.2.2.2.1), .int ((v.P j24 j31).2.2.2.2.2.2.1), va_rf ((peI v j24 j31).map (AD (20 + j24))), .int ((v.P j24 j31).2.2.2.2.2.2.2), .int ((z.pd j24 j31).1), .int ((z.pd j24 j31).2.1), .long ((z.pd j24 j31).2.2.1), .long r38])) := by rw [eG41]; exact mm_set_self
          have k49 : G41 (AD 0 j35) = some (.inr (2, [.int (nI (j35 + 1)), .int ((v.C j35).1.1), .long ((v.C j35).1.2.1), .ref (LA (6 + j35)), .int ((v.C j35).1.2.2), .int ((v.C j35).2.1), .int ((v.C j35).2.2.1), .long ((v.C j35).2.2.2.1), .long ((v.C j35).2.2.2.2.1), .long ((v.C j35).2.2.2.2.2)])) := by rw [eG41]; exact mm_set_of k37 (mm_ne_oo k37 k33 (by decide))
          refine lv_aload hx hb dX13_encode_64 (lv_at hl 2 rfl) ?_
          refine lv_aload_n hx hb dX13_encode_66 rfl (lv_at hl 3 rfl) ?_
          refine mm_get (v := .ref to) hx hb hf_X13 (fun _ h9 => h9) hown hK hG k43 rfl 3 (by decide) (tb_use hT tw_214) (fun _ h9 => h9) rfl dX13_encode_67 ?_
          have k50 : G41 (AD 2 j24) = some (.inr (11, [.int (nI (j24 + 1)), .ref (AD 1 (v.S j24).1), .int ((v.S j24).2.1), .long ((v.S j24).2.2.1), .ref (LA (20 + j24)), .int ((v.S j24).2.2.2)])) := hP42.elS hj27
          refine va_callv (va_runV (As := [.ref to]) (rest := []) ⟨hx, hb, hml, hown, (fun _ h9 => absurd h9 List.not_mem_nil : ∀ w ∈ ([] : List Cond), w.before _ s = true)⟩ (c_P_make l D cy A X hst hXT e0 tk hXE mi hXL ax adK adV hXX G41 G0 Bx v z LA EA AD PI j24 (up1 (z.pd j24) j31 ((z.pd j24 j31).1, (z.pd j24 j31).2.1, (z.pd j24 j31).2.2.1, r38)) to ro ln fo9 (by rw [← s_pd_r]; exact hP42) hZ hj27 hWd k46 k47 hln hBt hBr) (tb_cw (C := RX10) 1 hT tw_1203 tw_128 tw_1200 tw_1201 tw_1202 rfl rfl hq_X10_make ⟨Nat.le_of_ble_eq_true rfl, Nat.le_of_ble_eq_true rfl⟩) (mk_preC hst hG hK hA hX hS vc_11 k50) rfl rfl hl.1 rfl (lv_room (Nat.le_of_ble_eq_true rfl)) dX13_encode_70 ⟨Nat.le_of_ble_eq_true rfl, Nat.le_of_ble_eq_true rfl⟩) hS (fun q _ h => h) (fun q h => h) (fun  G51 t H locs ht hvm hw hB hz1 hk1 hS => ?_)
          have hG : mm D vwCl A G51 H := by rw [← ht]; exact hB
          clear hB hz1 hk1 hvm ht
          obtain ⟨k54, k55, hP52, hf53, k56⟩ := hw
          refine lv_iconst (v := 1) hx hb dX13_encode_73 (by decide) ?_
          have hsp9 : spO v iv jv = some (j24, j31) := by rw [spO, hf23]; simp only []; rw [hf30]; rfl
          have hno : ¬ r38 = noR := fun z => c_52 ((lg_cmp_eq _ _).mpr z)
          have hfr9 : ∀ (x : Nat) (e : va_E), G x = some e → x ≠ to → x ≠ ro → (∀ i, i < v.nP j24 → x ≠ AD (20 + j24) i) → G51 x = some e := fun x e z9 n1 n2 n3 => hf53 x e (by rw [eG41]; exact mm_set_of z9 (n3 j31 hj32)) n1 n2 n3
          rw [er38] at k54 k55 hP52 k56
          exact W.iret (v := 1) hx hb hr (fun t ht hW => ⟨⟨_, _, rfl, (by rw [hsp9]; simp only []; rw [hf34]; simp only []; rw [if_neg (by rw [← er38]; exact hno)]; exact ⟨(by first | trivial | rfl), k54, k55, hP52, hfr9, k56⟩), mk_end hG ht⟩, hS.F ht⟩) hS.2.2 dX13_encode_74
        · skip
          refine lv_iconst (v := 0) hx hb dX13_encode_55 (by decide) ?_
          have hsp9 : spO v iv jv = some (j24, j31) := by rw [spO, hf23]; simp only []; rw [hf30]; rfl
          have hno : r38 = noR := (lg_cmp_eq _ _).mp c_52
          exact W.iret (v := 0) hx hb hr (fun t ht hW => ⟨⟨_, _, rfl, (by rw [hsp9]; simp only []; rw [hf34]; simp only []; rw [if_pos (by rw [← er38]; exact hno)]; exact ⟨(by first | trivial | rfl), (by first | trivial | rfl)⟩), mk_end hG ht⟩, hS.F ht⟩) hS.2.2 dX13_encode_56
