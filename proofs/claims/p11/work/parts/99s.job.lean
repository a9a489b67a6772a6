
section GFN

variable {p : Program} {l : Launch} {e : Env} {R : Room} {s : State} {m : MethodId} {args : Array Value} {below : List Frame} {meth : Method} {c : Code} {H : Heap} {locs : List Loc} {cells slots : Nat} {Q : State → Prop}

variable {cc : ByteArray} {pc : Nat} {ls : Array Slot} {rest : List Value} {A : Nat → Prop}
theorem wk_getfN (hexec : p.tables.exec = Jvm.exec) (hb : c.code = cc) {o n d own ref host : String} {index q : Nat} {v : Value} (hE : va_OF o n d v q A s s.heap) (hS : va_S A s.heap H locs) (hown : s.vm.findClass own = some m.cls) (hlink : (Cond.fieldLinkNest own index ref n d host).before args s = true) (hsame : ∀ x, s.fieldFound? o n d = some x → s.fieldFound? ref n d = some x) (hdg : decode cc pc = .ok (.getfield index, 3))
    (kk : W p l e R s m args below meth c H locs cells slots Q (F0 m (pc + 3) ls (v :: rest))) : W p l e R s m args below meth c H locs cells slots Q (F0 m pc ls (.ref q :: rest)) := by
  obtain ⟨cf, k, fi, f, cell, h1, h2, h3, h4, h5, h6⟩ := hE.kept hS.2.1
  exact va_Wgetf hexec hb hown hlink (hsame _ h1) h2 h3 h4 (v := v) h5 rfl rfl hdg kk
end GFN
set_option maxHeartbeats 4000000 in
set_option maxRecDepth 100000 in
theorem c_J_valueIn (l : Launch) (D : va_G) (cy : Nat → ClassId) (A : Nat → Prop) (X : State → Prop) (hst : mk_St A X) (hXT : ∀ U : State, X U → TB U) (e0 : Nat) (tk : Nat → Nat) (hXE : ∀ U : State, X U → ES e0 tk A U) (mi : Nat) (hXL : ∀ U : State, X U → EL e0 mi A U) (ax adK adV : Nat → Nat) (hXX : ∀ U : State, X U → TX ax adK adV tk A U) (G : Nat → Option va_E) (G0 : Nat → Option va_E) (Bx : Nat → Prop) (v : EdV) (z : PtV) (LA EA : Nat → Nat) (AD : Nat → Nat → Nat) (PI : Nat → Nat) (c9 i9 : Nat) (to ro ln : Nat) (fo9 : Nat → Int32) (hP : EDP cy e0 tk G0 Bx G v z LA EA AD PI) (hZ : ZF v AD z) (hWd : WDv v) (hc9 : c9 < v.nJ) (hi9 : i9 < v.nO c9) (hto : G to = some (.inr (7, [.ref ro, .int (nI ln)]))) (hro : G ro = some (.inl (cy 0, 64, .inl fo9))) (hln : ln ≤ 64) : Met l yX7_valueIn [.code yX7_valueIn cX7_valueIn 2 (some .long)] ({ frames := 5, cells := 0, slots := 0, locals := 150 }) (mk_Pre D vwCl (tyL cy) A X G [.ref (AD (40 + c9) i9), .ref to]) (va_Ql (fun (r : Int64) (G2 : Nat → Option va_E) => (match opK v (v.O c9 i9) with | none => r = 0 ∧ G2 = G | some y => r = gtV v ln fo9 z.pd (v.O c9 i9) ∧ EDP cy e0 tk G0 Bx G2 v (z.r_pd y.1 (teF v y.1 ln fo9 (z.pd y.1))) LA EA AD PI ∧ ∀ (x : Nat) (e : va_E), G x = some e → (∀ i, i < v.nP y.1 → x ≠ AD (20 + y.1) i) → G2 x = some e)) (mk_B D vwCl A) A) 0 0 A := by
  refine Met.ofW (cc := cX7_valueIn) (maxL := 2) (ret := (some .long)) (by decide) rfl ?_
  intro p e s m args below meth c s₁ B hml hv
  obtain ⟨rfl, hG, hK, hA, hX⟩ := hv
  have hx := B.exec
  have hb := B.bytes
  have hr := B.returns
  have hlocks := B.notSynchronized
  have hT := hXT s hX
  have hown : s.vm.findClass RX7 = some m.cls := findClass_of_methodNamed B.named
  have hf_X7 : ∀ w ∈ u_ws RX7 TX7 9, w.before ([.ref (AD (40 + c9) i9), .ref to] : List Value).toArray s = true := tb_list hT fX7
  have hf_X8 : ∀ w ∈ u_ws RX8 TX8 15, w.before ([.ref (AD (40 + c9) i9), .ref to] : List Value).toArray s = true := tb_list hT fX8
  have hS : va_S A s.heap s.heap [] := va_S.rf
  have hE := hXE s hX
  have hl := lv_entry ([.ref (AD (40 + c9) i9), .ref to]) (n := 2) (Nat.le_of_ble_eq_true rfl)
  rw [lg_entry_eq]
  generalize (lg_sl ([.ref (AD (40 + c9) i9), .ref to]) ++ List.replicate (2 - (lg_sl ([.ref (AD (40 + c9) i9), .ref to])).length) Slot.unset).toArray = ls at hl ⊢
  have hl : lv_has ls 2 [(0, .ref (AD (40 + c9) i9)), (1, .ref to)] := hl
  have hQ := hXX s hX
  refine lv_aload_n hx hb dX7_valueIn_0 rfl (lv_at hl 0 rfl) ?_
  have k21 : G (AD (40 + c9) i9) = some (.inr (8, [.ref (tk (v.O c9 i9).1), .long ((v.O c9 i9).2.1), .long ((v.O c9 i9).2.2.1), .int ((v.O c9 i9).2.2.2.1), va_rf ((opS v (v.O c9 i9)).map (AD 2)), .long ((v.O c9 i9).2.2.2.2.1), .int ((v.O c9 i9).2.2.2.2.2.1), va_rf ((opP v (v.O c9 i9)).map (fun y => AD (20 + y.1) y.2)), .int ((v.O c9 i9).2.2.2.2.2.2)])) := by rw [← (hZ.2.2.2 c9 hc9 i9 hi9).1, ← (hZ.2.2.2 c9 hc9 i9 hi9).2]; exact hP.elO hc9 hi9
  refine mm_get (v := va_rf ((opS v (v.O c9 i9)).map (AD 2))) hx hb hf_X7 (fun _ h9 => h9) hown hK hG k21 rfl 4 (by decide) (tb_use hT tw_910) (fun _ h9 => h9) rfl dX7_valueIn_1 ?_
  obtain ⟨y_hf22, hf22⟩ : ∃ y, opS v (v.O c9 i9) = y := ⟨_, rfl⟩
  cases y_hf22 with
  | none =>
    refine W.eq (g2 := F0 m 4 ls [.null]) (by first | rfl | (rw [hf22]; rfl)) ?_
    refine lv_ifnullN (tgt := 24) hx hb dX7_valueIn_4 (by decide) ?_
    refine lv_lconst (v := 0) hx hb dX7_valueIn_24 (by decide) ?_
    exact W.lret (v := 0) hx hb hr (fun t ht hW => ⟨⟨_, _, rfl, (by rw [opK, show opP v (v.O c9 i9) = none by rw [opP, hf22]]; exact ⟨(by first | trivial | rfl), (by first | trivial | rfl)⟩), mk_end hG ht⟩, hS.F ht⟩) hS.2.2 dX7_valueIn_25
  | some j23 =>
    have hj24 := opS_lt hf22
    refine W.eq (g2 := F0 m 4 ls [.ref (AD 2 j23)]) (by first | rfl | (rw [hf22]; rfl)) ?_
    refine lv_ifnull hx hb dX7_valueIn_4 ?_
    refine lv_aload_n hx hb dX7_valueIn_7 rfl (lv_at hl 0 rfl) ?_
    refine mm_get (v := va_rf ((opP v (v.O c9 i9)).map (fun y => AD (20 + y.1) y.2))) hx hb hf_X7 (fun _ h9 => h9) hown hK hG k21 rfl 7 (by decide) (tb_use hT tw_916) (fun _ h9 => h9) rfl dX7_valueIn_8 ?_
    have hop9 : opP v (v.O c9 i9) = (paN v j23 ((v.O c9 i9).2.2.2.2.1)).map (fun p => (j23, p)) := by rw [opP, hf22]
    obtain ⟨y_hf25, hf25⟩ : ∃ y, paN v j23 ((v.O c9 i9).2.2.2.2.1) = y := ⟨_, rfl⟩
    cases y_hf25 with
    | none =>
      refine W.eq (g2 := F0 m 11 ls [.null]) (by rw [hop9, hf25]; rfl) ?_
      refine lv_ifnullN (tgt := 24) hx hb dX7_valueIn_11 (by decide) ?_
      refine lv_lconst (v := 0) hx hb dX7_valueIn_24 (by decide) ?_
      exact W.lret (v := 0) hx hb hr (fun t ht hW => ⟨⟨_, _, rfl, (by rw [opK, hop9, hf25]; exact ⟨(by first | trivial | rfl), (by first | trivial | rfl)⟩), mk_end hG ht⟩, hS.F ht⟩) hS.2.2 dX7_valueIn_25
    | some j26 =>
      have hj27 := paN_lt hf25
      refine W.eq (g2 := F0 m 11 ls [.ref (AD (20 + j23) j26)]) (by rw [hop9, hf25]; rfl) ?_
      refine lv_ifnull hx hb dX7_valueIn_11 ?_
      refine lv_aload_n hx hb dX7_valueIn_14 rfl (lv_at hl 0 rfl) ?_
      refine mm_get (v := va_rf ((opP v (v.O c9 i9)).map (fun y => AD (20 + y.1) y.2))) hx hb hf_X7 (fun _ h9 => h9) hown hK hG k21 rfl 7 (by decide) (tb_use hT tw_916) (fun _ h9 => h9) rfl dX7_valueIn_15 ?_
      refine W.eq (g2 := F0 m 18 ls [.ref (AD (20 + j23) j26)]) (by rw [hop9, hf25]; rfl) ?_
      have k28 : G (AD (20 + j23) j26) = some (.inr (9, [.int (nI (j26 + 1)), .int ((v.P j23 j26).1), .long ((v.P j23 j26).2.1), .long ((v.P j23 j26).2.2.1), .int ((v.P j23 j26).2.2.2.1), va_rf ((cdN v ((v.P j23 j26).2.2.1)).map (AD 0)), .int ((v.P j23 j26).2.2.2.2.1), .long ((v.P j23 j26).2.2.2.2.2.1), .int ((v.P j23 j26).2.2.2.2.2.2.1), va_rf ((peI v j23 j26).map (AD (20 + j23))), .int ((v.P j23 j26).2.2.2.2.2.2.2), .int ((z.pd j23 j26).1), .int ((z.pd j23 j26).2.1), .long ((z.pd j23 j26).2.2.1), .long ((z.pd j23 j26).2.2.2)])) := by rw [← (hZ.2.2.1 j23 hj24 j26 hj27).1, ← (hZ.2.2.1 j23 hj24 j26 hj27).2]; exact hP.elP hj24 hj27
      refine mm_getN (v := va_rf ((cdN v ((v.P j23 j26).2.2.1)).map (AD 0))) hx hb hf_X8 (fun _ h9 => h9) hown hK hG k28 rfl 5 (by decide) (tb_use hT tw_784) (fun _ h9 => h9) rfl dX7_valueIn_18 ?_
      obtain ⟨y_hf29, hf29⟩ : ∃ y, cdN v ((v.P j23 j26).2.2.1) = y := ⟨_, rfl⟩
      cases y_hf29 with
      | none =>
        refine W.eq (g2 := F0 m 21 ls [.null]) (by first | rfl | (rw [hf29]; rfl)) ?_
        refine lv_ifnonnullN hx hb dX7_valueIn_21 ?_
        refine lv_lconst (v := 0) hx hb dX7_valueIn_24 (by decide) ?_
        have hop8 : opP v (v.O c9 i9) = some (j23, j26) := by rw [hop9, hf25]; rfl
        exact W.lret (v := 0) hx hb hr (fun t ht hW => ⟨⟨_, _, rfl, (by rw [opK, hop8]; simp only []; rw [hf29]; exact ⟨(by first | trivial | rfl), (by first | trivial | rfl)⟩), mk_end hG ht⟩, hS.F ht⟩) hS.2.2 dX7_valueIn_25
      | some j30 =>
        have hj31 := cdN_lt hf29
        refine W.eq (g2 := F0 m 21 ls [.ref (AD 0 j30)]) (by first | rfl | (rw [hf29]; rfl)) ?_
        refine lv_ifnonnull (tgt := 26) hx hb dX7_valueIn_21 (by decide) ?_
        refine lv_aload_n hx hb dX7_valueIn_26 rfl (lv_at hl 0 rfl) ?_
        refine mm_get (v := va_rf ((opS v (v.O c9 i9)).map (AD 2))) hx hb hf_X7 (fun _ h9 => h9) hown hK hG k21 rfl 4 (by decide) (tb_use hT tw_910) (fun _ h9 => h9) rfl dX7_valueIn_27 ?_
        refine lv_aload_n hx hb dX7_valueIn_30 rfl (lv_at hl 1 rfl) ?_
        refine W.eq (g2 := F0 m 31 ls [.ref to, .ref (AD 2 j23)]) (by first | rfl | (rw [hf22]; rfl)) ?_
        have k32 : G (AD 2 j23) = some (.inr (11, [.int (nI (j23 + 1)), .ref (AD 1 (v.S j23).1), .int ((v.S j23).2.1), .long ((v.S j23).2.2.1), .ref (LA (20 + j23)), .int ((v.S j23).2.2.2)])) := hP.elS hj24
        refine va_callv (va_runV (As := [.ref to]) (rest := []) ⟨hx, hb, hml, hown, (fun _ h9 => absurd h9 List.not_mem_nil : ∀ w ∈ ([] : List Cond), w.before _ s = true)⟩ (c_P_tell l D cy A X hst hXT e0 tk hXE mi hXL ax adK adV hXX G G0 Bx v z LA EA AD PI j23 (z.pd j23) to ro ln fo9 (by rw [r_pd_id]; exact hP) hZ hj24 hWd hto hro hln) (tb_cw (C := RX10) 1 hT tw_1114 tw_128 tw_1261 tw_1112 tw_1113 rfl rfl hq_X10_tell ⟨Nat.le_of_ble_eq_true rfl, Nat.le_of_ble_eq_true rfl⟩) (mk_preC hst hG hK hA hX hS vc_11 k32) rfl rfl hl.1 rfl (lv_room (Nat.le_of_ble_eq_true rfl)) dX7_valueIn_31 ⟨Nat.le_of_ble_eq_true rfl, Nat.le_of_ble_eq_true rfl⟩) hS (fun q _ h => h) (fun q h => h) (fun  G33 t H locs ht hvm hw hB hz1 hk1 hS => ?_)
        have hG : mm D vwCl A G33 H := by rw [← ht]; exact hB
        clear hB hz1 hk1 hvm ht
        obtain ⟨hP34, hf35⟩ := hw
        have k36 : G33 to = some (.inr (7, [.ref ro, .int (nI ln)])) := hf35 _ _ hto (fun i hi => mm_ne_oo hto (hP.elP hj24 hi) (by decide))
        have k37 : G33 ro = some (.inl (cy 0, 64, .inl fo9)) := hf35 _ _ hro (fun i hi => mm_ne_ao hro (hP.elP hj24 hi))
        have k38 : G33 (AD (40 + c9) i9) = some (.inr (8, [.ref (tk (v.O c9 i9).1), .long ((v.O c9 i9).2.1), .long ((v.O c9 i9).2.2.1), .int ((v.O c9 i9).2.2.2.1), va_rf ((opS v (v.O c9 i9)).map (AD 2)), .long ((v.O c9 i9).2.2.2.2.1), .int ((v.O c9 i9).2.2.2.2.2.1), va_rf ((opP v (v.O c9 i9)).map (fun y => AD (20 + y.1) y.2)), .int ((v.O c9 i9).2.2.2.2.2.2)])) := hf35 _ _ k21 (fun i hi => mm_ne_oo k21 (hP.elP hj24 hi) (by decide))
        have k39 : G33 (AD 2 j23) = some (.inr (11, [.int (nI (j23 + 1)), .ref (AD 1 (v.S j23).1), .int ((v.S j23).2.1), .long ((v.S j23).2.2.1), .ref (LA (20 + j23)), .int ((v.S j23).2.2.2)])) := hf35 _ _ k32 (fun i hi => mm_ne_oo k32 (hP.elP hj24 hi) (by decide))
        refine lv_aload_n hx hb dX7_valueIn_34 rfl (lv_at hl 0 rfl) ?_
        refine mm_get (v := va_rf ((opP v (v.O c9 i9)).map (fun y => AD (20 + y.1) y.2))) hx hb hf_X7 (fun _ h9 => h9) hown hK hG k38 rfl 7 (by decide) (tb_use hT tw_916) (fun _ h9 => h9) rfl dX7_valueIn_35 ?_
        refine W.eq (g2 := F0 m 38 ls [.ref (AD (20 + j23) j26)]) (by rw [hop9, hf25]; rfl) ?_
        have k40 : G33 (AD (20 + j23) j26) = some (.inr (9, [.int (nI (j26 + 1)), .int ((v.P j23 j26).1), .long ((v.P j23 j26).2.1), .long ((v.P j23 j26).2.2.1), .int ((v.P j23 j26).2.2.2.1), va_rf ((cdN v ((v.P j23 j26).2.2.1)).map (AD 0)), .int ((v.P j23 j26).2.2.2.2.1), .long ((v.P j23 j26).2.2.2.2.2.1), .int ((v.P j23 j26).2.2.2.2.2.2.1), va_rf ((peI v j23 j26).map (AD (20 + j23))), .int ((v.P j23 j26).2.2.2.2.2.2.2), .int (((teF v j23 ln fo9 (z.pd j23)) j26).1), .int (((teF v j23 ln fo9 (z.pd j23)) j26).2.1), .long (((teF v j23 ln fo9 (z.pd j23)) j26).2.2.1), .long (((teF v j23 ln fo9 (z.pd j23)) j26).2.2.2)])) := by rw [← (hZ.2.2.1 j23 hj24 j26 hj27).1, ← (hZ.2.2.1 j23 hj24 j26 hj27).2]; have z9 := hP34.elP hj24 hj27; rw [r_pd_at] at z9; exact z9
        refine mm_getN (v := .int (((teF v j23 ln fo9 (z.pd j23)) j26).2.1)) hx hb hf_X8 (fun _ h9 => h9) hown hK hG k40 rfl 12 (by decide) (tb_use hT tw_805) (fun _ h9 => h9) rfl dX7_valueIn_38 ?_
        refine lv_if_ne (tgt := 48) hx hb dX7_valueIn_41 (by decide) (fun c_41 => ?_) (fun c_41 => ?_)
        · skip
          refine lv_aload_n hx hb dX7_valueIn_48 rfl (lv_at hl 0 rfl) ?_
          refine mm_get (v := va_rf ((opP v (v.O c9 i9)).map (fun y => AD (20 + y.1) y.2))) hx hb hf_X7 (fun _ h9 => h9) hown hK hG k38 rfl 7 (by decide) (tb_use hT tw_916) (fun _ h9 => h9) rfl dX7_valueIn_49 ?_
          refine W.eq (g2 := F0 m 52 ls [.ref (AD (20 + j23) j26)]) (by rw [hop9, hf25]; rfl) ?_
          refine mm_getN (v := va_rf ((cdN v ((v.P j23 j26).2.2.1)).map (AD 0))) hx hb hf_X8 (fun _ h9 => h9) hown hK hG k40 rfl 5 (by decide) (tb_use hT tw_784) (fun _ h9 => h9) rfl dX7_valueIn_52 ?_
          refine lv_aload_n hx hb dX7_valueIn_55 rfl (lv_at hl 0 rfl) ?_
          refine mm_get (v := va_rf ((opP v (v.O c9 i9)).map (fun y => AD (20 + y.1) y.2))) hx hb hf_X7 (fun _ h9 => h9) hown hK hG k38 rfl 7 (by decide) (tb_use hT tw_916) (fun _ h9 => h9) rfl dX7_valueIn_56 ?_
          refine W.eq (g2 := F0 m 59 ls [.ref (AD (20 + j23) j26), va_rf ((cdN v ((v.P j23 j26).2.2.1)).map (AD 0))]) (by rw [hop9, hf25]; rfl) ?_
          refine mm_getN (v := .long (((teF v j23 ln fo9 (z.pd j23)) j26).2.2.1)) hx hb hf_X8 (fun _ h9 => h9) hown hK hG k40 rfl 13 (by decide) (tb_use hT tw_808) (fun _ h9 => h9) rfl dX7_valueIn_59 ?_
          refine W.eq (g2 := F0 m 62 ls [.long (((teF v j23 ln fo9 (z.pd j23)) j26).2.2.1), .ref (AD 0 j30)]) (by first | rfl | (rw [hf29]; rfl)) ?_
          have k41 : G33 (AD 0 j30) = some (.inr (2, [.int (nI (j30 + 1)), .int ((v.C j30).1.1), .long ((v.C j30).1.2.1), .ref (LA (6 + j30)), .int ((v.C j30).1.2.2), .int ((v.C j30).2.1), .int ((v.C j30).2.2.1), .long ((v.C j30).2.2.2.1), .long ((v.C j30).2.2.2.2.1), .long ((v.C j30).2.2.2.2.2)])) := hP34.elC hj31
          refine va_calll (va_runV (As := [.long (((teF v j23 ln fo9 (z.pd j23)) j26).2.2.1)]) (rest := []) ⟨hx, hb, hml, hown, (fun _ h9 => absurd h9 List.not_mem_nil : ∀ w ∈ ([] : List Cond), w.before _ s = true)⟩ (c_H_flr l D cy A X hst hXT e0 tk hXE mi hXL ax adK adV hXX G33 G0 Bx v (z.r_pd j23 (teF v j23 ln fo9 (z.pd j23))) LA EA AD PI j30 (((teF v j23 ln fo9 (z.pd j23)) j26).2.2.1) hP34 hj31) (tb_cw (C := RX1) 1 hT tw_1265 tw_122 tw_1262 tw_1263 tw_1264 rfl rfl hq_X1_floor ⟨Nat.le_of_ble_eq_true rfl, Nat.le_of_ble_eq_true rfl⟩) (mk_preC hst hG hK hA hX hS vc_2 k41) rfl rfl hl.1 rfl (lv_room (Nat.le_of_ble_eq_true rfl)) dX7_valueIn_62 ⟨Nat.le_of_ble_eq_true rfl, Nat.le_of_ble_eq_true rfl⟩) hS (fun q _ h => h) (fun q h => h) (fun r42 G43 t H locs ht hvm hw hB hz1 hk1 hS => ?_)
          have hG : mm D vwCl A G43 H := by rw [← ht]; exact hB
          clear hB hz1 hk1 hvm ht
          obtain ⟨er42, hw⟩ := hw
          rw [hw] at hG
          have hop8 : opP v (v.O c9 i9) = some (j23, j26) := by rw [hop9, hf25]; rfl
          have hok9 : opK v (v.O c9 i9) = some (j23, j26, j30) := by rw [opK, hop8]; simp only []; rw [hf29]; rfl
          exact W.lret (v := r42) hx hb hr (fun t ht hW => ⟨⟨_, _, rfl, (by rw [hok9]; exact ⟨(by rw [gtV, hok9]; simp only []; rw [if_neg c_41, er42]), hP34, hf35⟩), mk_end hG ht⟩, hS.F ht⟩) hS.2.2 dX7_valueIn_65
        · skip
          refine lv_lconst (v := 0) hx hb dX7_valueIn_44 (by decide) ?_
          refine lv_goto (tgt := 65) hx hb dX7_valueIn_45 (by decide) ?_
          have hop8 : opP v (v.O c9 i9) = some (j23, j26) := by rw [hop9, hf25]; rfl
          have hok9 : opK v (v.O c9 i9) = some (j23, j26, j30) := by rw [opK, hop8]; simp only []; rw [hf29]; rfl
          exact W.lret (v := 0) hx hb hr (fun t ht hW => ⟨⟨_, _, rfl, (by rw [hok9]; exact ⟨(by rw [gtV, hok9]; simp only []; rw [if_pos c_41]), hP34, hf35⟩), mk_end hG ht⟩, hS.F ht⟩) hS.2.2 dX7_valueIn_65

set_option maxHeartbeats 4000000 in
set_option maxRecDepth 100000 in
theorem c_J_refusal (l : Launch) (D : va_G) (cy : Nat → ClassId) (A : Nat → Prop) (X : State → Prop) (hst : mk_St A X) (hXT : ∀ U : State, X U → TB U) (e0 : Nat) (tk : Nat → Nat) (hXE : ∀ U : State, X U → ES e0 tk A U) (mi : Nat) (hXL : ∀ U : State, X U → EL e0 mi A U) (ax adK adV : Nat → Nat) (hXX : ∀ U : State, X U → TX ax adK adV tk A U) (G : Nat → Option va_E) (G0 : Nat → Option va_E) (Bx : Nat → Prop) (v : EdV) (z : PtV) (LA EA : Nat → Nat) (AD : Nat → Nat → Nat) (PI : Nat → Nat) (c9 hh : Nat) (pf : Nat → Int64) (PD : Nat → PdT) (ti : Nat) (se rs sl : Nat) (sf : Nat → Int32) (hP : EDP cy e0 tk G0 Bx G v (zJ z c9 hh pf PD) LA EA AD PI) (hc9 : c9 < v.nJ) (hhh : hh ≤ 16) (hti : ti < 35) (hse : G se = some (.inr (7, [.ref rs, .int (nI sl)]))) (hrs : G rs = some (.inl (cy 0, 64, .inl sf))) (hsl : sl ≤ 64) : Met l yX4_refusalOf [.code yX4_refusalOf cX4_refusalOf 3 (some .int)] ({ frames := 0, cells := 0, slots := 0, locals := 0 }) (mk_Pre D vwCl (tyL cy) A X G [.ref (AD 5 c9), .ref (tk ti), .ref se]) (va_Qi (fun (r : Int32) (G2 : Nat → Option va_E) => r = rfs hh ti sl ∧ G2 = G) (mk_B D vwCl A) A) 0 0 A := by
  refine Met.ofW (cc := cX4_refusalOf) (maxL := 3) (ret := (some .int)) (by decide) rfl ?_
  intro p e s m args below meth c s₁ B hml hv
  obtain ⟨rfl, hG, hK, hA, hX⟩ := hv
  have hx := B.exec
  have hb := B.bytes
  have hr := B.returns
  have hlocks := B.notSynchronized
  have hT := hXT s hX
  have hown : s.vm.findClass RX4 = some m.cls := findClass_of_methodNamed B.named
  have hf_X4 : ∀ w ∈ u_ws RX4 TX4 5, w.before ([.ref (AD 5 c9), .ref (tk ti), .ref se] : List Value).toArray s = true := tb_list hT fX4
  have hf_X6 : ∀ w ∈ u_ws RX6 TX6 2, w.before ([.ref (AD 5 c9), .ref (tk ti), .ref se] : List Value).toArray s = true := tb_list hT fX6
  have hS : va_S A s.heap s.heap [] := va_S.rf
  have hE := hXE s hX
  have hl := lv_entry ([.ref (AD 5 c9), .ref (tk ti), .ref se]) (n := 3) (Nat.le_of_ble_eq_true rfl)
  rw [lg_entry_eq]
  generalize (lg_sl ([.ref (AD 5 c9), .ref (tk ti), .ref se]) ++ List.replicate (3 - (lg_sl ([.ref (AD 5 c9), .ref (tk ti), .ref se])).length) Slot.unset).toArray = ls at hl ⊢
  have hl : lv_has ls 3 [(0, .ref (AD 5 c9)), (1, .ref (tk ti)), (2, .ref se)] := hl
  have hQ := hXX s hX
  refine lv_aload_n hx hb dX4_refusalOf_0 rfl (lv_at hl 0 rfl) ?_
  have k21 : G (AD 5 c9) = some (.inr (5, [.int ((v.J c9).1), .long ((v.J c9).2), .ref (LA (40 + c9)), .ref (PI c9), .int (nI hh)])) := by have z9 := hP.elJ hc9; rw [show (zJ z c9 hh pf PD).jh c9 = nI hh from up1_eq] at z9; exact z9
  refine mm_get (v := .int (nI hh)) hx hb hf_X4 (fun _ h9 => h9) hown hK hG k21 rfl 4 (by decide) (tb_use hT tw_878) (fun _ h9 => h9) rfl dX4_refusalOf_1 ?_
  refine lv_aload_n hx hb dX4_refusalOf_4 rfl (lv_at hl 1 rfl) ?_
  refine wk_getfN (v := .int (tkT ti)) hx hb (show va_OF _ _ _ (.int (tkT ti)) (tk ti) A s s.heap from tk_fld hE hti 0 (by decide)) hS hown (tb_use hT tw_1927) (fun _ h9 => h9) dX4_refusalOf_5 ?_
  refine lv_icmp_lt (tgt := 30) hx hb dX4_refusalOf_8 (by decide) (fun c_8 => ?_) (fun c_8 => ?_)
  · skip
    refine lv_bipush (v := (-3)) hx hb dX4_refusalOf_30 (by decide) ?_
    exact W.iret (v := (-3)) hx hb hr (fun t ht hW => ⟨⟨_, _, rfl, ⟨(by rw [rfs, if_pos (Or.inl c_8)]), rfl⟩, mk_end hG ht⟩, hS.F ht⟩) hS.2.2 dX4_refusalOf_32
  · skip
    refine lv_aload_n hx hb dX4_refusalOf_11 rfl (lv_at hl 0 rfl) ?_
    refine mm_get (v := .int (nI hh)) hx hb hf_X4 (fun _ h9 => h9) hown hK hG k21 rfl 4 (by decide) (tb_use hT tw_878) (fun _ h9 => h9) rfl dX4_refusalOf_12 ?_
    refine lv_aload_n hx hb dX4_refusalOf_15 rfl (lv_at hl 1 rfl) ?_
    refine wk_getfN (v := .int (tkT ti)) hx hb (show va_OF _ _ _ (.int (tkT ti)) (tk ti) A s s.heap from tk_fld hE hti 0 (by decide)) hS hown (tb_use hT tw_1927) (fun _ h9 => h9) dX4_refusalOf_16 ?_
    refine lv_isub hx hb dX4_refusalOf_19 ?_
    refine lv_aload_n hx hb dX4_refusalOf_20 rfl (lv_at hl 1 rfl) ?_
    refine wk_getfN (v := .int (tkL ti)) hx hb (show va_OF _ _ _ (.int (tkL ti)) (tk ti) A s s.heap from tk_fld hE hti 1 (by decide)) hS hown (tb_use hT tw_1928) (fun _ h9 => h9) dX4_refusalOf_21 ?_
    refine lv_iadd hx hb dX4_refusalOf_24 ?_
    refine lv_bipush (v := 16) hx hb dX4_refusalOf_25 (by decide) ?_
    refine lv_icmp_le (tgt := 33) hx hb dX4_refusalOf_27 (by decide) (fun c_27 => ?_) (fun c_27 => ?_)
    · skip
      refine lv_aload_n hx hb dX4_refusalOf_33 rfl (lv_at hl 1 rfl) ?_
      refine va_gets (v := .ref (tk 33)) hx hb (show va_Z "DescribeText$Token" "SEND" "LDescribeText$Token;" (.ref (tk 33)) A s s.heap from (hE.2.1 33 (by decide)).1) hS hown (tb_use hT tw_1240) (fun _ h9 => h9) dX4_refusalOf_34 ?_
      refine lv_acmp_ne (rx := some (tk ti)) (ry := some (tk 33)) (tgt := 54) hx hb dX4_refusalOf_37 (by decide) (fun c_37 => ?_) (fun c_37 => ?_)
      · skip
        refine lv_iconst (v := 0) hx hb dX4_refusalOf_54 (by decide) ?_
        have hn1 : ¬ (nI hh < tkT ti ∨ 16 < nI hh - tkT ti + tkL ti) := by rintro (z | z); exact c_8 z; exact absurd z (Int32.not_lt.mpr c_27)
        exact W.iret (v := 0) hx hb hr (fun t ht hW => ⟨⟨_, _, rfl, ⟨(by rw [rfs, if_neg hn1, if_neg (fun z => c_37 (by rw [z.1]))]), rfl⟩, mk_end hG ht⟩, hS.F ht⟩) hS.2.2 dX4_refusalOf_55
      · skip
        refine lv_aload_n hx hb dX4_refusalOf_40 rfl (lv_at hl 2 rfl) ?_
        refine mm_getN (v := .int (nI sl)) hx hb hf_X6 (fun _ h9 => h9) hown hK hG hse rfl 1 (by decide) (tb_use hT tw_201) (fun _ h9 => h9) rfl dX4_refusalOf_41 ?_
        refine lv_bipush (v := 64) hx hb dX4_refusalOf_44 (by decide) ?_
        refine lv_icmp_lt (tgt := 54) hx hb dX4_refusalOf_46 (by decide) (fun c_46 => ?_) (fun c_46 => ?_)
        · skip
          refine lv_iconst (v := 0) hx hb dX4_refusalOf_54 (by decide) ?_
          have hn1 : ¬ (nI hh < tkT ti ∨ 16 < nI hh - tkT ti + tkL ti) := by rintro (z | z); exact c_8 z; exact absurd z (Int32.not_lt.mpr c_27)
          have h33 : ti = 33 := tk_ne hE hti (by decide) c_37
          exact W.iret (v := 0) hx hb hr (fun t ht hW => ⟨⟨_, _, rfl, ⟨(by rw [rfs, if_neg hn1, if_neg (fun z => absurd c_46 (nI_nlt (b := 64) z.2 (by omega)))]), rfl⟩, mk_end hG ht⟩, hS.F ht⟩) hS.2.2 dX4_refusalOf_55
        · skip
          refine lv_bipush (v := (-4)) hx hb dX4_refusalOf_49 (by decide) ?_
          refine lv_goto (tgt := 55) hx hb dX4_refusalOf_51 (by decide) ?_
          have hn1 : ¬ (nI hh < tkT ti ∨ 16 < nI hh - tkT ti + tkL ti) := by rintro (z | z); exact c_8 z; exact absurd z (Int32.not_lt.mpr c_27)
          have h33 : ti = 33 := tk_ne hE hti (by decide) c_37
          exact W.iret (v := (-4)) hx hb hr (fun t ht hW => ⟨⟨_, _, rfl, ⟨(by rw [rfs, if_neg hn1, if_pos ⟨h33, by rcases Nat.lt_or_ge sl 64 with z | z; exact absurd (nI_lt (b := 64) z (by decide)) c_46; exact z⟩]), rfl⟩, mk_end hG ht⟩, hS.F ht⟩) hS.2.2 dX4_refusalOf_55
    · skip
      refine lv_bipush (v := (-3)) hx hb dX4_refusalOf_30 (by decide) ?_
      exact W.iret (v := (-3)) hx hb hr (fun t ht hW => ⟨⟨_, _, rfl, ⟨(by rw [rfs, if_pos (Or.inr (Int32.not_le.mp c_27))]), rfl⟩, mk_end hG ht⟩, hS.F ht⟩) hS.2.2 dX4_refusalOf_32

set_option maxHeartbeats 4000000 in
set_option maxRecDepth 100000 in
theorem c_J_join (l : Launch) (D : va_G) (cy : Nat → ClassId) (A : Nat → Prop) (X : State → Prop) (hst : mk_St A X) (hXT : ∀ U : State, X U → TB U) (e0 : Nat) (tk : Nat → Nat) (hXE : ∀ U : State, X U → ES e0 tk A U) (mi : Nat) (hXL : ∀ U : State, X U → EL e0 mi A U) (ax adK adV : Nat → Nat) (hXX : ∀ U : State, X U → TX ax adK adV tk A U) (G : Nat → Option va_E) (G0 : Nat → Option va_E) (Bx : Nat → Prop) (v : EdV) (z : PtV) (LA EA : Nat → Nat) (AD : Nat → Nat → Nat) (PI : Nat → Nat) (c9 hh : Nat) (pf : Nat → Int64) (PD : Nat → PdT) (ti se rs : Nat) (hP : EDP cy e0 tk G0 Bx G v (zJ z c9 hh pf PD) LA EA AD PI) (hc9 : c9 < v.nJ) (hhh : hh ≤ 16) (hti : ti < 35) : Met l yX4_join [.code yX4_join cX4_join 6 none] ({ frames := 1, cells := 0, slots := 0, locals := 30 }) (mk_Pre D vwCl (tyL cy) A X G [.ref (AD 5 c9), .ref (tk ti)]) (va_Qv (fun (G2 : Nat → Option va_E) => EDP cy e0 tk G0 Bx G2 v (zJ z c9 (jnF ti (hh, pf)).1 (jnF ti (hh, pf)).2 PD) LA EA AD PI ∧ (jnF ti (hh, pf)).1 ≤ 16 ∧ ∀ (x : Nat) (e : va_E), G x = some e → x ≠ AD 5 c9 → x ≠ PI c9 → x ≠ se → x ≠ rs → (∀ c i, c < v.nS → i < v.nP c → x ≠ AD (20 + c) i) → G2 x = some e) (mk_B D vwCl A) A) 0 0 A := by
  refine Met.ofW (cc := cX4_join) (maxL := 6) (ret := none) (by decide) rfl ?_
  intro p e s m args below meth c s₁ B hml hv
  obtain ⟨rfl, hG, hK, hA, hX⟩ := hv
  have hx := B.exec
  have hb := B.bytes
  have hr := B.returns
  have hlocks := B.notSynchronized
  have hT := hXT s hX
  have hown : s.vm.findClass RX4 = some m.cls := findClass_of_methodNamed B.named
  have hS : va_S A s.heap s.heap [] := va_S.rf
  have hE := hXE s hX
  have hl := lv_entry ([.ref (AD 5 c9), .ref (tk ti)]) (n := 6) (Nat.le_of_ble_eq_true rfl)
  rw [lg_entry_eq]
  generalize (lg_sl ([.ref (AD 5 c9), .ref (tk ti)]) ++ List.replicate (6 - (lg_sl ([.ref (AD 5 c9), .ref (tk ti)])).length) Slot.unset).toArray = ls at hl ⊢
  have hl : lv_has ls 6 [(0, .ref (AD 5 c9)), (1, .ref (tk ti))] := hl
  have hQ := hXX s hX
  have hfj : ∀ (x : Nat) (e : va_E), G x = some e → x ≠ AD 5 c9 → x ≠ PI c9 → x ≠ se → x ≠ rs → (∀ c i, c < v.nS → i < v.nP c → x ≠ AD (20 + c) i) → G x = some e := fun x e z _ _ _ _ _ => z
  refine lv_aload_n hx hb dX4_join_0 rfl (lv_at hl 0 rfl) ?_
  have k21 : G (AD 5 c9) = some (.inr (5, [.int ((v.J c9).1), .long ((v.J c9).2), .ref (LA (40 + c9)), .ref (PI c9), .int (nI hh)])) := by have z9 := hP.elJ hc9; rw [show (zJ z c9 hh pf PD).jh c9 = nI hh from up1_eq] at z9; exact z9
  have k22 : G (PI c9) = some (.inl (cy 2, 16, .inr (.inl pf))) := by have z9 := hP.pi c9 hc9; rw [show (zJ z c9 hh pf PD).pv c9 = pf from up1_eq] at z9; exact z9
  refine va_calll (va_runV (As := []) (rest := []) ⟨hx, hb, hml, hown, (fun _ h9 => absurd h9 List.not_mem_nil : ∀ w ∈ ([] : List Cond), w.before _ s = true)⟩ (c_X4_lift l D cy A X hst hXT e0 tk hXE G (AD 5 c9) (LA (40 + c9)) (PI c9) ((v.J c9).1) ((v.J c9).2) hh pf k21 k22 hhh) (tb_cw (C := RX4) 0 hT tw_1246 tw_130 tw_1243 tw_1245 tw_54 rfl rfl hq_X4_lift ⟨Nat.le_of_ble_eq_true rfl, Nat.le_of_ble_eq_true rfl⟩) (mk_preC hst hG hK hA hX hS vc_5 k21) rfl rfl hl.1 rfl (lv_room (Nat.le_of_ble_eq_true rfl)) dX4_join_1 ⟨Nat.le_of_ble_eq_true rfl, Nat.le_of_ble_eq_true rfl⟩) hS (fun q _ h => h) (fun q h => h) (fun r23 G24 t H locs ht hvm hw hB hz1 hk1 hS => ?_)
  have hG : mm D vwCl A G24 H := by rw [← ht]; exact hB
  clear hB hz1 hk1 hvm ht
  obtain ⟨er23, k25, hf26⟩ := hw
  have k27 : G24 (PI c9) = some (.inl (cy 2, 16, .inr (.inl pf))) := hf26 _ _ k22 (mm_ne_ao k22 k21)
  have fr23 : r23 = lft (hh, pf) := er23
  rw [fr23]
  have hf26f : ∀ (x : Nat) (e : va_E), G x = some e → x ≠ AD 5 c9 → x ≠ PI c9 → G24 x = some e := fun x e z9 n1 _ => hf26 x e z9 n1
  have hP28 : EDP cy e0 tk G0 Bx G24 v (zJ z c9 (hh - 1) pf PD) LA EA AD PI := EDP.jb hP hc9 k25 k27 hf26f
  have hfj29 : ∀ (x : Nat) (e : va_E), G x = some e → x ≠ AD 5 c9 → x ≠ PI c9 → x ≠ se → x ≠ rs → (∀ c i, c < v.nS → i < v.nP c → x ≠ AD (20 + c) i) → G24 x = some e := fun x e z9 n1 n2 n3 n4 n5 => hf26f x e (hfj x e z9 n1 n2 n3 n4 n5) n1 n2
  have hle30 : (hh - 1) ≤ 16 := by have := hhh; omega
  refine lv_topl (fun x31 ex31 => ?_)
  refine lv_lstore_n (lv' := [(2, .long x31), (0, .ref (AD 5 c9)), (1, .ref (tk ti))]) hx hb dX4_join_4 rfl hl (by decide) rfl (fun ls hl => ?_)
  refine lv_aload_n hx hb dX4_join_5 rfl (lv_at hl 1 rfl) ?_
  have k32 : G24 (AD 5 c9) = some (.inr (5, [.int ((v.J c9).1), .long ((v.J c9).2), .ref (LA (40 + c9)), .ref (PI c9), .int (nI (hh - 1))])) := by have z9 := hP28.elJ hc9; rw [show (zJ z c9 (hh - 1) pf PD).jh c9 = nI (hh - 1) from up1_eq] at z9; exact z9
  have k33 : G24 (PI c9) = some (.inl (cy 2, 16, .inr (.inl pf))) := by have z9 := hP28.pi c9 hc9; rw [show (zJ z c9 (hh - 1) pf PD).pv c9 = pf from up1_eq] at z9; exact z9
  refine va_calll (va_runV (As := []) (rest := []) ⟨hx, hb, hml, hown, (fun _ h9 => absurd h9 List.not_mem_nil : ∀ w ∈ ([] : List Cond), w.before _ s = true)⟩ (c_X4_lift l D cy A X hst hXT e0 tk hXE G24 (AD 5 c9) (LA (40 + c9)) (PI c9) ((v.J c9).1) ((v.J c9).2) (hh - 1) pf k32 k33 hle30) (tb_cw (C := RX4) 0 hT tw_1246 tw_130 tw_1243 tw_1245 tw_54 rfl rfl hq_X4_lift ⟨Nat.le_of_ble_eq_true rfl, Nat.le_of_ble_eq_true rfl⟩) (mk_preC hst hG hK hA hX hS vc_5 k32) rfl rfl hl.1 rfl (lv_room (Nat.le_of_ble_eq_true rfl)) dX4_join_6 ⟨Nat.le_of_ble_eq_true rfl, Nat.le_of_ble_eq_true rfl⟩) hS (fun q _ h => h) (fun q h => h) (fun r34 G35 t H locs ht hvm hw hB hz1 hk1 hS => ?_)
  have hG : mm D vwCl A G35 H := by rw [← ht]; exact hB
  clear hB hz1 hk1 hvm ht
  obtain ⟨er34, k36, hf37⟩ := hw
  have k38 : G35 (PI c9) = some (.inl (cy 2, 16, .inr (.inl pf))) := hf37 _ _ k33 (mm_ne_ao k33 k32)
  have fr34 : r34 = lft ((hh - 1), pf) := er34
  rw [fr34]
  have hf37f : ∀ (x : Nat) (e : va_E), G24 x = some e → x ≠ AD 5 c9 → x ≠ PI c9 → G35 x = some e := fun x e z9 n1 _ => hf37 x e z9 n1
  have hP39 : EDP cy e0 tk G0 Bx G35 v (zJ z c9 ((hh - 1) - 1) pf PD) LA EA AD PI := EDP.jb hP28 hc9 k36 k38 hf37f
  have hfj40 : ∀ (x : Nat) (e : va_E), G x = some e → x ≠ AD 5 c9 → x ≠ PI c9 → x ≠ se → x ≠ rs → (∀ c i, c < v.nS → i < v.nP c → x ≠ AD (20 + c) i) → G35 x = some e := fun x e z9 n1 n2 n3 n4 n5 => hf37f x e (hfj29 x e z9 n1 n2 n3 n4 n5) n1 n2
  have hle41 : ((hh - 1) - 1) ≤ 16 := by have := hle30; omega
  refine lv_topl (fun x42 ex42 => ?_)
  refine lv_lstore (lv' := [(4, .long x42), (2, .long x31), (0, .ref (AD 5 c9)), (1, .ref (tk ti))]) hx hb dX4_join_9 hl (by decide) rfl (fun ls hl => ?_)
  refine va_gets (v := .ref (ax 1)) hx hb hQ.2.2.2.2.1 hS hown (tb_use hT tw_1251) (fun _ h9 => h9) dX4_join_11 ?_
  refine lv_aload_n hx hb dX4_join_14 rfl (lv_at hl 3 rfl) ?_
  refine va_calli (va_runU (As := []) (rest := [.ref (ax 1)]) ⟨hx, hb, hml, hown, (fun _ h9 => absurd h9 List.not_mem_nil : ∀ w ∈ ([] : List Cond), w.before _ s = true)⟩ (c_ordinal l D cy A X hst hXT e0 tk hXE G35 ti hti) (tb_cU (C := RX11) 0 hT tw_449 tw_115 tw_1252 tw_448 tw_447 tw_445 rfl rfl rfl (by decide +kernel) ⟨Nat.le_of_ble_eq_true rfl, Nat.le_of_ble_eq_true rfl⟩) (mk_preT hst hG hK hA hX hS hE hti) rfl rfl hl.1 rfl (lv_room (Nat.le_of_ble_eq_true rfl)) dX4_join_15 ⟨Nat.le_of_ble_eq_true rfl, Nat.le_of_ble_eq_true rfl⟩) hS (fun q _ h => h) (fun q h => h) (fun r43 G44 t H locs ht hvm hw hB hz1 hk1 hS => ?_)
  have hG : mm D vwCl A G44 H := by rw [← ht]; exact hB
  clear hB hz1 hk1 hvm ht
  obtain ⟨rfl, hw⟩ := hw
  rw [hw] at hG
  refine va_ti (v := .int (swL.getD ti 0)) hx hb hQ.2.2.2.2.2.1 hS (nI_in (c := ti) (N := 35) hti (by decide)) (by rw [nI_clamp (n := ti) (by omega)]) dX4_join_18 ?_
  by_cases sw_19 : (swL.getD ti 0).toInt < 11 ∨ 13 < (swL.getD ti 0).toInt
  · skip
    refine lv_tableOut (tgt := 77) hx hb dX4_join_19 sw_19 (by decide) ?_
    refine lv_aload_n hx hb dX4_join_77 rfl (lv_at hl 2 rfl) ?_
    refine lv_lload_n hx hb dX4_join_78 rfl (lv_at hl 1 rfl) ?_
    have k45 : G35 (AD 5 c9) = some (.inr (5, [.int ((v.J c9).1), .long ((v.J c9).2), .ref (LA (40 + c9)), .ref (PI c9), .int (nI ((hh - 1) - 1))])) := by have z9 := hP39.elJ hc9; rw [show (zJ z c9 ((hh - 1) - 1) pf PD).jh c9 = nI ((hh - 1) - 1) from up1_eq] at z9; exact z9
    have k46 : G35 (PI c9) = some (.inl (cy 2, 16, .inr (.inl pf))) := by have z9 := hP39.pi c9 hc9; rw [show (zJ z c9 ((hh - 1) - 1) pf PD).pv c9 = pf from up1_eq] at z9; exact z9
    refine va_callv (va_runV (As := [.long x31]) (rest := []) ⟨hx, hb, hml, hown, (fun _ h9 => absurd h9 List.not_mem_nil : ∀ w ∈ ([] : List Cond), w.before _ s = true)⟩ (c_X4_lay l D cy A X hst hXT e0 tk hXE G35 (AD 5 c9) (LA (40 + c9)) (PI c9) ((v.J c9).1) ((v.J c9).2) ((hh - 1) - 1) pf x31 k45 k46 hle41) (tb_cw (C := RX4) 1 hT tw_1256 tw_130 tw_1253 tw_1255 tw_56 rfl rfl hq_X4_lay ⟨Nat.le_of_ble_eq_true rfl, Nat.le_of_ble_eq_true rfl⟩) (mk_preC hst hG hK hA hX hS vc_5 k45) rfl rfl hl.1 rfl (lv_room (Nat.le_of_ble_eq_true rfl)) dX4_join_79 ⟨Nat.le_of_ble_eq_true rfl, Nat.le_of_ble_eq_true rfl⟩) hS (fun q _ h => h) (fun q h => h) (fun  G47 t H locs ht hvm hw hB hz1 hk1 hS => ?_)
    have hG : mm D vwCl A G47 H := by rw [← ht]; exact hB
    clear hB hz1 hk1 hvm ht
    obtain ⟨k48, k49, hf50⟩ := hw
    have hP51 : EDP cy e0 tk G0 Bx G47 v (zJ z c9 ((lyy x31 (((hh - 1) - 1), pf)).1) ((lyy x31 (((hh - 1) - 1), pf)).2) PD) LA EA AD PI := EDP.jb hP39 hc9 k48 k49 hf50
    have hfj52 : ∀ (x : Nat) (e : va_E), G x = some e → x ≠ AD 5 c9 → x ≠ PI c9 → x ≠ se → x ≠ rs → (∀ c i, c < v.nS → i < v.nP c → x ≠ AD (20 + c) i) → G47 x = some e := fun x e z9 n1 n2 n3 n4 n5 => hf50 x e (hfj40 x e z9 n1 n2 n3 n4 n5) n1 n2
    have hle53 : (lyy x31 (((hh - 1) - 1), pf)).1 ≤ 16 := lyy_le hle41
    refine lv_aload_n hx hb dX4_join_82 rfl (lv_at hl 2 rfl) ?_
    refine lv_lload hx hb dX4_join_83 (lv_at hl 0 rfl) ?_
    have k54 : G47 (AD 5 c9) = some (.inr (5, [.int ((v.J c9).1), .long ((v.J c9).2), .ref (LA (40 + c9)), .ref (PI c9), .int (nI ((lyy x31 (((hh - 1) - 1), pf)).1))])) := by have z9 := hP51.elJ hc9; rw [show (zJ z c9 ((lyy x31 (((hh - 1) - 1), pf)).1) ((lyy x31 (((hh - 1) - 1), pf)).2) PD).jh c9 = nI ((lyy x31 (((hh - 1) - 1), pf)).1) from up1_eq] at z9; exact z9
    have k55 : G47 (PI c9) = some (.inl (cy 2, 16, .inr (.inl ((lyy x31 (((hh - 1) - 1), pf)).2)))) := by have z9 := hP51.pi c9 hc9; rw [show (zJ z c9 ((lyy x31 (((hh - 1) - 1), pf)).1) ((lyy x31 (((hh - 1) - 1), pf)).2) PD).pv c9 = (lyy x31 (((hh - 1) - 1), pf)).2 from up1_eq] at z9; exact z9
    refine va_callv (va_runV (As := [.long x42]) (rest := []) ⟨hx, hb, hml, hown, (fun _ h9 => absurd h9 List.not_mem_nil : ∀ w ∈ ([] : List Cond), w.before _ s = true)⟩ (c_X4_lay l D cy A X hst hXT e0 tk hXE G47 (AD 5 c9) (LA (40 + c9)) (PI c9) ((v.J c9).1) ((v.J c9).2) ((lyy x31 (((hh - 1) - 1), pf)).1) ((lyy x31 (((hh - 1) - 1), pf)).2) x42 k54 k55 hle53) (tb_cw (C := RX4) 1 hT tw_1256 tw_130 tw_1253 tw_1255 tw_56 rfl rfl hq_X4_lay ⟨Nat.le_of_ble_eq_true rfl, Nat.le_of_ble_eq_true rfl⟩) (mk_preC hst hG hK hA hX hS vc_5 k54) rfl rfl hl.1 rfl (lv_room (Nat.le_of_ble_eq_true rfl)) dX4_join_85 ⟨Nat.le_of_ble_eq_true rfl, Nat.le_of_ble_eq_true rfl⟩) hS (fun q _ h => h) (fun q h => h) (fun  G56 t H locs ht hvm hw hB hz1 hk1 hS => ?_)
    have hG : mm D vwCl A G56 H := by rw [← ht]; exact hB
    clear hB hz1 hk1 hvm ht
    obtain ⟨k57, k58, hf59⟩ := hw
    have hP60 : EDP cy e0 tk G0 Bx G56 v (zJ z c9 ((lyy x42 ((lyy x31 (((hh - 1) - 1), pf)).1, (lyy x31 (((hh - 1) - 1), pf)).2)).1) ((lyy x42 ((lyy x31 (((hh - 1) - 1), pf)).1, (lyy x31 (((hh - 1) - 1), pf)).2)).2) PD) LA EA AD PI := EDP.jb hP51 hc9 k57 k58 hf59
    have hfj61 : ∀ (x : Nat) (e : va_E), G x = some e → x ≠ AD 5 c9 → x ≠ PI c9 → x ≠ se → x ≠ rs → (∀ c i, c < v.nS → i < v.nP c → x ≠ AD (20 + c) i) → G56 x = some e := fun x e z9 n1 n2 n3 n4 n5 => hf59 x e (hfj52 x e z9 n1 n2 n3 n4 n5) n1 n2
    have hle62 : (lyy x42 ((lyy x31 (((hh - 1) - 1), pf)).1, (lyy x31 (((hh - 1) - 1), pf)).2)).1 ≤ 16 := lyy_le hle53
    have hn27 : ¬ ti = 27 := fun z => by have z2 := (sw_st _ hti).2.2.2.2.2.1.2 z; rw [z2] at sw_19; revert sw_19; decide
    have hn28 : ¬ ti = 28 := fun z => by have z2 := (sw_st _ hti).2.2.2.2.2.2.1.2 z; rw [z2] at sw_19; revert sw_19; decide
    have hn29 : ¬ ti = 29 := fun z => by have z2 := (sw_st _ hti).2.2.2.2.2.2.2.2 z; rw [z2] at sw_19; revert sw_19; decide
    have hz9 : jnF ti (hh, pf) = ((lyy x42 ((lyy x31 (((hh - 1) - 1), pf)).1, (lyy x31 (((hh - 1) - 1), pf)).2)).1, (lyy x42 ((lyy x31 (((hh - 1) - 1), pf)).1, (lyy x31 (((hh - 1) - 1), pf)).2)).2) := by rw [jnF, if_neg hn27, if_neg hn28, if_neg hn29]; rw [ex42]; rw [ex31]; rfl
    exact W.vret hx hb hr (fun t ht hW => ⟨⟨_, rfl, (by rw [hz9]; exact ⟨hP60, hle62, hfj61⟩), mk_end hG ht⟩, hS.F ht⟩) hS.2.2 dX4_join_88
  · skip
    have hlo : ¬ (swL.getD ti 0).toInt < 11 := fun z => sw_19 (Or.inl z)
    have hhi : ¬ 13 < (swL.getD ti 0).toInt := fun z => sw_19 (Or.inr z)
    have hcs : (swL.getD ti 0).toInt = 11 ∨ (swL.getD ti 0).toInt = 12 ∨ (swL.getD ti 0).toInt = 13 := by omega
    rcases hcs with sw_19 | sw_19 | sw_19
    · skip
      refine lv_tableIn (tgt := 44) hx hb dX4_join_19 hlo hhi (off := 25) (by rw [sw_19]; rfl) (by decide) ?_
      refine lv_aload_n hx hb dX4_join_44 rfl (lv_at hl 2 rfl) ?_
      refine lv_lload hx hb dX4_join_45 (lv_at hl 0 rfl) ?_
      refine lv_lload_n hx hb dX4_join_47 rfl (lv_at hl 1 rfl) ?_
      refine lv_ladd hx hb dX4_join_48 ?_
      have k63 : G35 (AD 5 c9) = some (.inr (5, [.int ((v.J c9).1), .long ((v.J c9).2), .ref (LA (40 + c9)), .ref (PI c9), .int (nI ((hh - 1) - 1))])) := by have z9 := hP39.elJ hc9; rw [show (zJ z c9 ((hh - 1) - 1) pf PD).jh c9 = nI ((hh - 1) - 1) from up1_eq] at z9; exact z9
      have k64 : G35 (PI c9) = some (.inl (cy 2, 16, .inr (.inl pf))) := by have z9 := hP39.pi c9 hc9; rw [show (zJ z c9 ((hh - 1) - 1) pf PD).pv c9 = pf from up1_eq] at z9; exact z9
      refine va_callv (va_runV (As := [.long (x42 + x31)]) (rest := []) ⟨hx, hb, hml, hown, (fun _ h9 => absurd h9 List.not_mem_nil : ∀ w ∈ ([] : List Cond), w.before _ s = true)⟩ (c_X4_lay l D cy A X hst hXT e0 tk hXE G35 (AD 5 c9) (LA (40 + c9)) (PI c9) ((v.J c9).1) ((v.J c9).2) ((hh - 1) - 1) pf (x42 + x31) k63 k64 hle41) (tb_cw (C := RX4) 1 hT tw_1256 tw_130 tw_1253 tw_1255 tw_56 rfl rfl hq_X4_lay ⟨Nat.le_of_ble_eq_true rfl, Nat.le_of_ble_eq_true rfl⟩) (mk_preC hst hG hK hA hX hS vc_5 k63) rfl rfl hl.1 rfl (lv_room (Nat.le_of_ble_eq_true rfl)) dX4_join_49 ⟨Nat.le_of_ble_eq_true rfl, Nat.le_of_ble_eq_true rfl⟩) hS (fun q _ h => h) (fun q h => h) (fun  G65 t H locs ht hvm hw hB hz1 hk1 hS => ?_)
      have hG : mm D vwCl A G65 H := by rw [← ht]; exact hB
      clear hB hz1 hk1 hvm ht
      obtain ⟨k66, k67, hf68⟩ := hw
      have hP69 : EDP cy e0 tk G0 Bx G65 v (zJ z c9 ((lyy (x42 + x31) (((hh - 1) - 1), pf)).1) ((lyy (x42 + x31) (((hh - 1) - 1), pf)).2) PD) LA EA AD PI := EDP.jb hP39 hc9 k66 k67 hf68
      have hfj70 : ∀ (x : Nat) (e : va_E), G x = some e → x ≠ AD 5 c9 → x ≠ PI c9 → x ≠ se → x ≠ rs → (∀ c i, c < v.nS → i < v.nP c → x ≠ AD (20 + c) i) → G65 x = some e := fun x e z9 n1 n2 n3 n4 n5 => hf68 x e (hfj40 x e z9 n1 n2 n3 n4 n5) n1 n2
      have hle71 : (lyy (x42 + x31) (((hh - 1) - 1), pf)).1 ≤ 16 := lyy_le hle41
      refine lv_goto (tgt := 88) hx hb dX4_join_52 (by decide) ?_
      have hkk : ti = 27 := (sw_st _ hti).2.2.2.2.2.1.1 (i32_of (n := 11) (by decide) sw_19)
      have hz9 : jnF ti (hh, pf) = ((lyy (x42 + x31) (((hh - 1) - 1), pf)).1, (lyy (x42 + x31) (((hh - 1) - 1), pf)).2) := by rw [jnF, if_pos hkk]; rw [ex42]; rw [ex31]; rfl
      exact W.vret hx hb hr (fun t ht hW => ⟨⟨_, rfl, (by rw [hz9]; exact ⟨hP69, hle71, hfj70⟩), mk_end hG ht⟩, hS.F ht⟩) hS.2.2 dX4_join_88
    · skip
      refine lv_tableIn (tgt := 55) hx hb dX4_join_19 hlo hhi (off := 36) (by rw [sw_19]; rfl) (by decide) ?_
      refine lv_aload_n hx hb dX4_join_55 rfl (lv_at hl 2 rfl) ?_
      refine lv_lload hx hb dX4_join_56 (lv_at hl 0 rfl) ?_
      refine lv_lload_n hx hb dX4_join_58 rfl (lv_at hl 1 rfl) ?_
      refine lv_lsub hx hb dX4_join_59 ?_
      have k72 : G35 (AD 5 c9) = some (.inr (5, [.int ((v.J c9).1), .long ((v.J c9).2), .ref (LA (40 + c9)), .ref (PI c9), .int (nI ((hh - 1) - 1))])) := by have z9 := hP39.elJ hc9; rw [show (zJ z c9 ((hh - 1) - 1) pf PD).jh c9 = nI ((hh - 1) - 1) from up1_eq] at z9; exact z9
      have k73 : G35 (PI c9) = some (.inl (cy 2, 16, .inr (.inl pf))) := by have z9 := hP39.pi c9 hc9; rw [show (zJ z c9 ((hh - 1) - 1) pf PD).pv c9 = pf from up1_eq] at z9; exact z9
      refine va_callv (va_runV (As := [.long (x42 - x31)]) (rest := []) ⟨hx, hb, hml, hown, (fun _ h9 => absurd h9 List.not_mem_nil : ∀ w ∈ ([] : List Cond), w.before _ s = true)⟩ (c_X4_lay l D cy A X hst hXT e0 tk hXE G35 (AD 5 c9) (LA (40 + c9)) (PI c9) ((v.J c9).1) ((v.J c9).2) ((hh - 1) - 1) pf (x42 - x31) k72 k73 hle41) (tb_cw (C := RX4) 1 hT tw_1256 tw_130 tw_1253 tw_1255 tw_56 rfl rfl hq_X4_lay ⟨Nat.le_of_ble_eq_true rfl, Nat.le_of_ble_eq_true rfl⟩) (mk_preC hst hG hK hA hX hS vc_5 k72) rfl rfl hl.1 rfl (lv_room (Nat.le_of_ble_eq_true rfl)) dX4_join_60 ⟨Nat.le_of_ble_eq_true rfl, Nat.le_of_ble_eq_true rfl⟩) hS (fun q _ h => h) (fun q h => h) (fun  G74 t H locs ht hvm hw hB hz1 hk1 hS => ?_)
      have hG : mm D vwCl A G74 H := by rw [← ht]; exact hB
      clear hB hz1 hk1 hvm ht
      obtain ⟨k75, k76, hf77⟩ := hw
      have hP78 : EDP cy e0 tk G0 Bx G74 v (zJ z c9 ((lyy (x42 - x31) (((hh - 1) - 1), pf)).1) ((lyy (x42 - x31) (((hh - 1) - 1), pf)).2) PD) LA EA AD PI := EDP.jb hP39 hc9 k75 k76 hf77
      have hfj79 : ∀ (x : Nat) (e : va_E), G x = some e → x ≠ AD 5 c9 → x ≠ PI c9 → x ≠ se → x ≠ rs → (∀ c i, c < v.nS → i < v.nP c → x ≠ AD (20 + c) i) → G74 x = some e := fun x e z9 n1 n2 n3 n4 n5 => hf77 x e (hfj40 x e z9 n1 n2 n3 n4 n5) n1 n2
      have hle80 : (lyy (x42 - x31) (((hh - 1) - 1), pf)).1 ≤ 16 := lyy_le hle41
      refine lv_goto (tgt := 88) hx hb dX4_join_63 (by decide) ?_
      have hkk : ti = 28 := (sw_st _ hti).2.2.2.2.2.2.1.1 (i32_of (n := 12) (by decide) sw_19)
      have hz9 : jnF ti (hh, pf) = ((lyy (x42 - x31) (((hh - 1) - 1), pf)).1, (lyy (x42 - x31) (((hh - 1) - 1), pf)).2) := by rw [jnF, if_neg (by rw [hkk]; decide), if_pos hkk]; rw [ex42]; rw [ex31]; rfl
      exact W.vret hx hb hr (fun t ht hW => ⟨⟨_, rfl, (by rw [hz9]; exact ⟨hP78, hle80, hfj79⟩), mk_end hG ht⟩, hS.F ht⟩) hS.2.2 dX4_join_88
    · skip
      refine lv_tableIn (tgt := 66) hx hb dX4_join_19 hlo hhi (off := 47) (by rw [sw_19]; rfl) (by decide) ?_
      refine lv_aload_n hx hb dX4_join_66 rfl (lv_at hl 2 rfl) ?_
      refine lv_lload hx hb dX4_join_67 (lv_at hl 0 rfl) ?_
      refine lv_lload_n hx hb dX4_join_69 rfl (lv_at hl 1 rfl) ?_
      refine lv_lmul hx hb dX4_join_70 ?_
      have k81 : G35 (AD 5 c9) = some (.inr (5, [.int ((v.J c9).1), .long ((v.J c9).2), .ref (LA (40 + c9)), .ref (PI c9), .int (nI ((hh - 1) - 1))])) := by have z9 := hP39.elJ hc9; rw [show (zJ z c9 ((hh - 1) - 1) pf PD).jh c9 = nI ((hh - 1) - 1) from up1_eq] at z9; exact z9
      have k82 : G35 (PI c9) = some (.inl (cy 2, 16, .inr (.inl pf))) := by have z9 := hP39.pi c9 hc9; rw [show (zJ z c9 ((hh - 1) - 1) pf PD).pv c9 = pf from up1_eq] at z9; exact z9
      refine va_callv (va_runV (As := [.long (x42 * x31)]) (rest := []) ⟨hx, hb, hml, hown, (fun _ h9 => absurd h9 List.not_mem_nil : ∀ w ∈ ([] : List Cond), w.before _ s = true)⟩ (c_X4_lay l D cy A X hst hXT e0 tk hXE G35 (AD 5 c9) (LA (40 + c9)) (PI c9) ((v.J c9).1) ((v.J c9).2) ((hh - 1) - 1) pf (x42 * x31) k81 k82 hle41) (tb_cw (C := RX4) 1 hT tw_1256 tw_130 tw_1253 tw_1255 tw_56 rfl rfl hq_X4_lay ⟨Nat.le_of_ble_eq_true rfl, Nat.le_of_ble_eq_true rfl⟩) (mk_preC hst hG hK hA hX hS vc_5 k81) rfl rfl hl.1 rfl (lv_room (Nat.le_of_ble_eq_true rfl)) dX4_join_71 ⟨Nat.le_of_ble_eq_true rfl, Nat.le_of_ble_eq_true rfl⟩) hS (fun q _ h => h) (fun q h => h) (fun  G83 t H locs ht hvm hw hB hz1 hk1 hS => ?_)
      have hG : mm D vwCl A G83 H := by rw [← ht]; exact hB
      clear hB hz1 hk1 hvm ht
      obtain ⟨k84, k85, hf86⟩ := hw
      have hP87 : EDP cy e0 tk G0 Bx G83 v (zJ z c9 ((lyy (x42 * x31) (((hh - 1) - 1), pf)).1) ((lyy (x42 * x31) (((hh - 1) - 1), pf)).2) PD) LA EA AD PI := EDP.jb hP39 hc9 k84 k85 hf86
      have hfj88 : ∀ (x : Nat) (e : va_E), G x = some e → x ≠ AD 5 c9 → x ≠ PI c9 → x ≠ se → x ≠ rs → (∀ c i, c < v.nS → i < v.nP c → x ≠ AD (20 + c) i) → G83 x = some e := fun x e z9 n1 n2 n3 n4 n5 => hf86 x e (hfj40 x e z9 n1 n2 n3 n4 n5) n1 n2
      have hle89 : (lyy (x42 * x31) (((hh - 1) - 1), pf)).1 ≤ 16 := lyy_le hle41
      refine lv_goto (tgt := 88) hx hb dX4_join_74 (by decide) ?_
      have hkk : ti = 29 := (sw_st _ hti).2.2.2.2.2.2.2.1 (i32_of (n := 13) (by decide) sw_19)
      have hz9 : jnF ti (hh, pf) = ((lyy (x42 * x31) (((hh - 1) - 1), pf)).1, (lyy (x42 * x31) (((hh - 1) - 1), pf)).2) := by rw [jnF, if_neg (by rw [hkk]; decide), if_neg (by rw [hkk]; decide), if_pos hkk]; rw [ex42]; rw [ex31]; rfl
      exact W.vret hx hb hr (fun t ht hW => ⟨⟨_, rfl, (by rw [hz9]; exact ⟨hP87, hle89, hfj88⟩), mk_end hG ht⟩, hS.F ht⟩) hS.2.2 dX4_join_88
