
section

variable {cy : Nat → ClassId} {e0 : Nat} {tk : Nat → Nat} {G0 : Nat → Option va_E} {Bx : Nat → Prop} {G G2 : Nat → Option va_E} {v : EdV} {z : PtV} {LA EA : Nat → Nat} {AD : Nat → Nat → Nat} {PI : Nat → Nat}
theorem opK_lt {d : OpD} {y : Nat × Nat × Nat} (h : opK v d = some y) : y.1 < v.nS := by
  unfold opK at h
  cases h1 : opP v d with
  | none => rw [h1] at h; cases h
  | some w =>
    rw [h1] at h
    unfold opP at h1
    cases h2 : opS v d with
    | none => rw [h2] at h1; cases h1
    | some k =>
      rw [h2] at h1
      have h1 : (paN v k d.2.2.2.2.1).map (fun p => (k, p)) = some w := h1
      have h : (cdN v (v.P w.1 w.2).2.2.1).map (fun k => (w.1, w.2, k)) = some y := h
      obtain ⟨p9, -, e1⟩ := Option.map_eq_some_iff.mp h1
      obtain ⟨k9, -, e2⟩ := Option.map_eq_some_iff.mp h
      rw [← e2, ← e1]
      exact opS_lt h2
/-- what a GET leaves -/
theorem vi_out {c9 hh ln : Nat} {pf : Nat → Int64} {PD : Nat → PdT} {fo9 : Nat → Int32} {d : OpD} {r : Int64} (hP : EDP cy e0 tk G0 Bx G v (zJ z c9 hh pf PD) LA EA AD PI) (hw : match opK v d with | none => r = 0 ∧ G2 = G | some y => r = gtV v ln fo9 (zJ z c9 hh pf PD).pd d ∧ EDP cy e0 tk G0 Bx G2 v ((zJ z c9 hh pf PD).r_pd y.1 (teF v y.1 ln fo9 ((zJ z c9 hh pf PD).pd y.1))) LA EA AD PI ∧ ∀ (x : Nat) (e : va_E), G x = some e → (∀ i, i < v.nP y.1 → x ≠ AD (20 + y.1) i) → G2 x = some e) : r = gtV v ln fo9 PD d ∧ EDP cy e0 tk G0 Bx G2 v (zJ z c9 hh pf (gtP v ln fo9 PD d)) LA EA AD PI ∧ ∀ (x : Nat) (e : va_E), G x = some e → (∀ c i, c < v.nS → i < v.nP c → x ≠ AD (20 + c) i) → G2 x = some e := by
  obtain ⟨y, hy⟩ : ∃ y, opK v d = y := ⟨_, rfl⟩
  rw [hy] at hw
  rw [gtP, hy]
  cases y with
  | none =>
    obtain ⟨h1, h2⟩ := hw
    refine ⟨by rw [gtV, hy]; exact h1, by rw [h2]; exact hP, fun x e h _ => by rw [h2]; exact h⟩
  | some y =>
    obtain ⟨h1, h2, h3⟩ := hw
    exact ⟨h1, h2, fun x e h n => h3 x e h (fun i hi => n y.1 i (opK_lt hy) hi)⟩
end
set_option maxHeartbeats 4000000 in
set_option maxRecDepth 100000 in
theorem c_J_step (l : Launch) (D : va_G) (cy : Nat → ClassId) (A : Nat → Prop) (X : State → Prop) (hst : mk_St A X) (hXT : ∀ U : State, X U → TB U) (e0 : Nat) (tk : Nat → Nat) (hXE : ∀ U : State, X U → ES e0 tk A U) (mi : Nat) (hXL : ∀ U : State, X U → EL e0 mi A U) (ax adK adV : Nat → Nat) (hXX : ∀ U : State, X U → TX ax adK adV tk A U) (G : Nat → Option va_E) (G0 : Nat → Option va_E) (Bx : Nat → Prop) (v : EdV) (z : PtV) (LA EA : Nat → Nat) (AD : Nat → Nat → Nat) (PI : Nat → Nat) (c9 hh : Nat) (pf : Nat → Int64) (PD : Nat → PdT) (i9 : Nat) (to ro ln : Nat) (fo9 : Nat → Int32) (se rs sl : Nat) (sf : Nat → Int32) (hP : EDP cy e0 tk G0 Bx G v (zJ z c9 hh pf PD) LA EA AD PI) (hc9 : c9 < v.nJ) (hhh : hh ≤ 16) (hi9 : i9 < v.nO c9) (hti : (v.O c9 i9).1 < 35) (hsn : (v.O c9 i9).1 = 33 → sl < 64) (hZ : ZF v AD z) (hWd : WDv v) (hto : G to = some (.inr (7, [.ref ro, .int (nI ln)]))) (hro : G ro = some (.inl (cy 0, 64, .inl fo9))) (hln : ln ≤ 64) (hse : G se = some (.inr (7, [.ref rs, .int (nI sl)]))) (hrs : G rs = some (.inl (cy 0, 64, .inl sf))) (hsl : sl ≤ 64) (hBs : Bx se) (hBq : Bx rs) : Met l yX4_step [.code yX4_step cX4_step 6 none] ({ frames := 6, cells := 0, slots := 0, locals := 200 }) (mk_Pre D vwCl (tyL cy) A X G [.ref (AD 5 c9), .ref (AD (40 + c9) i9), .ref to, .ref se]) (va_Qv (fun (G2 : Nat → Option va_E) => G2 se = some (.inr (7, [.ref rs, .int (nI (stF9 v ln fo9 (v.O c9 i9) ((hh, pf), PD, sl, sf)).2.2.1)])) ∧ G2 rs = some (.inl (cy 0, 64, .inl ((stF9 v ln fo9 (v.O c9 i9) ((hh, pf), PD, sl, sf)).2.2.2))) ∧ EDP cy e0 tk G0 Bx G2 v (zJ z c9 (stF9 v ln fo9 (v.O c9 i9) ((hh, pf), PD, sl, sf)).1.1 (stF9 v ln fo9 (v.O c9 i9) ((hh, pf), PD, sl, sf)).1.2 (stF9 v ln fo9 (v.O c9 i9) ((hh, pf), PD, sl, sf)).2.1) LA EA AD PI ∧ (stF9 v ln fo9 (v.O c9 i9) ((hh, pf), PD, sl, sf)).1.1 ≤ 16 ∧ (stF9 v ln fo9 (v.O c9 i9) ((hh, pf), PD, sl, sf)).2.2.1 ≤ 64 ∧ ∀ (x : Nat) (e : va_E), G x = some e → x ≠ AD 5 c9 → x ≠ PI c9 → x ≠ se → x ≠ rs → (∀ c i, c < v.nS → i < v.nP c → x ≠ AD (20 + c) i) → G2 x = some e) (mk_B D vwCl A) A) 0 0 A := by
  refine Met.ofW (cc := cX4_step) (maxL := 6) (ret := none) (by decide) rfl ?_
  intro p e s m args below meth c s₁ B hml hv
  obtain ⟨rfl, hG, hK, hA, hX⟩ := hv
  have hx := B.exec
  have hb := B.bytes
  have hr := B.returns
  have hlocks := B.notSynchronized
  have hT := hXT s hX
  have hown : s.vm.findClass RX4 = some m.cls := findClass_of_methodNamed B.named
  have hf_X7 : ∀ w ∈ u_ws RX7 TX7 9, w.before ([.ref (AD 5 c9), .ref (AD (40 + c9) i9), .ref to, .ref se] : List Value).toArray s = true := tb_list hT fX7
  have hS : va_S A s.heap s.heap [] := va_S.rf
  have hE := hXE s hX
  have hl := lv_entry ([.ref (AD 5 c9), .ref (AD (40 + c9) i9), .ref to, .ref se]) (n := 6) (Nat.le_of_ble_eq_true rfl)
  rw [lg_entry_eq]
  generalize (lg_sl ([.ref (AD 5 c9), .ref (AD (40 + c9) i9), .ref to, .ref se]) ++ List.replicate (6 - (lg_sl ([.ref (AD 5 c9), .ref (AD (40 + c9) i9), .ref to, .ref se])).length) Slot.unset).toArray = ls at hl ⊢
  have hl : lv_has ls 6 [(0, .ref (AD 5 c9)), (1, .ref (AD (40 + c9) i9)), (2, .ref to), (3, .ref se)] := hl
  have hQ := hXX s hX
  have apT := hP.oX cIL_7 hse
  have apR := hP.wW hrs
  have hfj : ∀ (x : Nat) (e : va_E), G x = some e → x ≠ AD 5 c9 → x ≠ PI c9 → x ≠ se → x ≠ rs → (∀ c i, c < v.nS → i < v.nP c → x ≠ AD (20 + c) i) → G x = some e := fun x e z _ _ _ _ _ => z
  refine va_gets (v := .ref (ax 1)) hx hb hQ.2.2.2.2.1 hS hown (tb_use hT tw_1251) (fun _ h9 => h9) dX4_step_0 ?_
  refine lv_aload_n hx hb dX4_step_3 rfl (lv_at hl 1 rfl) ?_
  have k21 : G (AD (40 + c9) i9) = some (.inr (8, [.ref (tk (v.O c9 i9).1), .long ((v.O c9 i9).2.1), .long ((v.O c9 i9).2.2.1), .int ((v.O c9 i9).2.2.2.1), va_rf ((opS v (v.O c9 i9)).map (AD 2)), .long ((v.O c9 i9).2.2.2.2.1), .int ((v.O c9 i9).2.2.2.2.2.1), va_rf ((opP v (v.O c9 i9)).map (fun y => AD (20 + y.1) y.2)), .int ((v.O c9 i9).2.2.2.2.2.2)])) := by rw [← (hZ.2.2.2 c9 hc9 i9 hi9).1, ← (hZ.2.2.2 c9 hc9 i9 hi9).2]; exact hP.elO hc9 hi9
  refine mm_getN (v := .ref (tk (v.O c9 i9).1)) hx hb hf_X7 (fun _ h9 => h9) hown hK hG k21 rfl 0 (by decide) (tb_use hT tw_901) (fun _ h9 => h9) rfl dX4_step_4 ?_
  refine va_calli (va_runU (As := []) (rest := [.ref (ax 1)]) ⟨hx, hb, hml, hown, (fun _ h9 => absurd h9 List.not_mem_nil : ∀ w ∈ ([] : List Cond), w.before _ s = true)⟩ (c_ordinal l D cy A X hst hXT e0 tk hXE G ((v.O c9 i9).1) hti) (tb_cU (C := RX11) 0 hT tw_449 tw_115 tw_1252 tw_448 tw_447 tw_445 rfl rfl rfl (by decide +kernel) ⟨Nat.le_of_ble_eq_true rfl, Nat.le_of_ble_eq_true rfl⟩) (mk_preT hst hG hK hA hX hS hE hti) rfl rfl hl.1 rfl (lv_room (Nat.le_of_ble_eq_true rfl)) dX4_step_7 ⟨Nat.le_of_ble_eq_true rfl, Nat.le_of_ble_eq_true rfl⟩) hS (fun q _ h => h) (fun q h => h) (fun r22 G23 t H locs ht hvm hw hB hz1 hk1 hS => ?_)
  have hG : mm D vwCl A G23 H := by rw [← ht]; exact hB
  clear hB hz1 hk1 hvm ht
  obtain ⟨rfl, hw⟩ := hw
  rw [hw] at hG
  refine va_ti (v := .int (swL.getD ((v.O c9 i9).1) 0)) hx hb hQ.2.2.2.2.2.1 hS (nI_in (c := (v.O c9 i9).1) (N := 35) hti (by decide)) (by rw [nI_clamp (n := ((v.O c9 i9).1)) (by omega)]) dX4_step_10 ?_
  by_cases sw_11 : (swL.getD ((v.O c9 i9).1) 0).toInt < 6 ∨ 10 < (swL.getD ((v.O c9 i9).1) 0).toInt
  · skip
    refine lv_tableOut (tgt := 108) hx hb dX4_step_11 sw_11 (by decide) ?_
    refine lv_aload_n hx hb dX4_step_108 rfl (lv_at hl 0 rfl) ?_
    refine lv_aload_n hx hb dX4_step_109 rfl (lv_at hl 1 rfl) ?_
    refine mm_getN (v := .ref (tk (v.O c9 i9).1)) hx hb hf_X7 (fun _ h9 => h9) hown hK hG k21 rfl 0 (by decide) (tb_use hT tw_901) (fun _ h9 => h9) rfl dX4_step_110 ?_
    have k24 : G (AD 5 c9) = some (.inr (5, [.int ((v.J c9).1), .long ((v.J c9).2), .ref (LA (40 + c9)), .ref (PI c9), .int (nI hh)])) := by have z9 := hP.elJ hc9; rw [show (zJ z c9 hh pf PD).jh c9 = nI hh from up1_eq] at z9; exact z9
    have k25 : G (PI c9) = some (.inl (cy 2, 16, .inr (.inl pf))) := by have z9 := hP.pi c9 hc9; rw [show (zJ z c9 hh pf PD).pv c9 = pf from up1_eq] at z9; exact z9
    refine va_callv (va_runV (As := [.ref (tk (v.O c9 i9).1)]) (rest := []) ⟨hx, hb, hml, hown, (fun _ h9 => absurd h9 List.not_mem_nil : ∀ w ∈ ([] : List Cond), w.before _ s = true)⟩ (c_J_join l D cy A X hst hXT e0 tk hXE mi hXL ax adK adV hXX G G0 Bx v z LA EA AD PI c9 hh pf PD ((v.O c9 i9).1) (AD 5 c9) (PI c9) hP hc9 hhh hti) (tb_cw (C := RX4) 1 hT tw_1273 tw_130 tw_1270 tw_1272 tw_57 rfl rfl hq_X4_join ⟨Nat.le_of_ble_eq_true rfl, Nat.le_of_ble_eq_true rfl⟩) (mk_preC hst hG hK hA hX hS vc_5 k24) rfl rfl hl.1 rfl (lv_room (Nat.le_of_ble_eq_true rfl)) dX4_step_113 ⟨Nat.le_of_ble_eq_true rfl, Nat.le_of_ble_eq_true rfl⟩) hS (fun q _ h => h) (fun q h => h) (fun  G26 t H locs ht hvm hw hB hz1 hk1 hS => ?_)
    have hG : mm D vwCl A G26 H := by rw [← ht]; exact hB
    clear hB hz1 hk1 hvm ht
    obtain ⟨hP27, hle28, hf29⟩ := hw
    have k30 : G26 to = some (.inr (7, [.ref ro, .int (nI ln)])) := hf29 _ _ hto (mm_ne_oo hto k24 (by decide)) (mm_ne_oa hto k25) (mm_ne_oo hto k24 (by decide)) (mm_ne_oa hto k25) (fun c i hc hi => mm_ne_oo hto (hP.elP hc hi) (by decide))
    have k31 : G26 ro = some (.inl (cy 0, 64, .inl fo9)) := hf29 _ _ hro (mm_ne_ao hro k24) (mm_ne_e hro k25 (fun z => by have z2 := (Prod.mk.inj (Prod.mk.inj (Sum.inl.inj z)).2).2; cases z2)) (mm_ne_ao hro k24) (mm_ne_e hro k25 (fun z => by have z2 := (Prod.mk.inj (Prod.mk.inj (Sum.inl.inj z)).2).2; cases z2)) (fun c i hc hi => mm_ne_ao hro (hP.elP hc hi))
    have k32 : G26 se = some (.inr (7, [.ref rs, .int (nI sl)])) := hf29 _ _ hse (mm_ne_oo hse k24 (by decide)) (mm_ne_oa hse k25) (mm_ne_oo hse k24 (by decide)) (mm_ne_oa hse k25) (fun c i hc hi => mm_ne_oo hse (hP.elP hc hi) (by decide))
    have k33 : G26 rs = some (.inl (cy 0, 64, .inl sf)) := hf29 _ _ hrs (mm_ne_ao hrs k24) (mm_ne_e hrs k25 (fun z => by have z2 := (Prod.mk.inj (Prod.mk.inj (Sum.inl.inj z)).2).2; cases z2)) (mm_ne_ao hrs k24) (mm_ne_e hrs k25 (fun z => by have z2 := (Prod.mk.inj (Prod.mk.inj (Sum.inl.inj z)).2).2; cases z2)) (fun c i hc hi => mm_ne_ao hrs (hP.elP hc hi))
    have k34 : G26 (AD (40 + c9) i9) = some (.inr (8, [.ref (tk (v.O c9 i9).1), .long ((v.O c9 i9).2.1), .long ((v.O c9 i9).2.2.1), .int ((v.O c9 i9).2.2.2.1), va_rf ((opS v (v.O c9 i9)).map (AD 2)), .long ((v.O c9 i9).2.2.2.2.1), .int ((v.O c9 i9).2.2.2.2.2.1), va_rf ((opP v (v.O c9 i9)).map (fun y => AD (20 + y.1) y.2)), .int ((v.O c9 i9).2.2.2.2.2.2)])) := hf29 _ _ k21 (mm_ne_oo k21 k24 (by decide)) (mm_ne_oa k21 k25) (mm_ne_oo k21 k24 (by decide)) (mm_ne_oa k21 k25) (fun c i hc hi => mm_ne_oo k21 (hP.elP hc hi) (by decide))
    have hfj35 : ∀ (x : Nat) (e : va_E), G x = some e → x ≠ AD 5 c9 → x ≠ PI c9 → x ≠ se → x ≠ rs → (∀ c i, c < v.nS → i < v.nP c → x ≠ AD (20 + c) i) → G26 x = some e := fun x e z9 n1 n2 n3 n4 n5 => hf29 x e (hfj x e z9 n1 n2 n3 n4 n5) n1 n2 n1 n2 n5
    have hn25 : ¬ (v.O c9 i9).1 = 25 := fun z => by have z2 := (sw_st _ hti).1.2 z; rw [z2] at sw_11; revert sw_11; decide
    have hn26 : ¬ (v.O c9 i9).1 = 26 := fun z => by have z2 := (sw_st _ hti).2.1.2 z; rw [z2] at sw_11; revert sw_11; decide
    have hn32 : ¬ (v.O c9 i9).1 = 32 := fun z => by have z2 := (sw_st _ hti).2.2.1.2 z; rw [z2] at sw_11; revert sw_11; decide
    have hn33 : ¬ (v.O c9 i9).1 = 33 := fun z => by have z2 := (sw_st _ hti).2.2.2.1.2 z; rw [z2] at sw_11; revert sw_11; decide
    have hn30 : ¬ (v.O c9 i9).1 = 30 := fun z => by have z2 := (sw_st _ hti).2.2.2.2.1.2 z; rw [z2] at sw_11; revert sw_11; decide
    have hz9 : (stF9 v ln fo9 (v.O c9 i9) ((hh, pf), PD, sl, sf)) = (((jnF ((v.O c9 i9).1) (hh, pf)).1, (jnF ((v.O c9 i9).1) (hh, pf)).2), PD, sl, sf) := by rw [stF9, if_neg hn25, if_neg hn26, if_neg hn32, if_neg hn33, if_neg hn30]; try rfl
    rw [hz9]
    exact W.vret hx hb hr (fun t ht hW => ⟨⟨_, rfl, ⟨k32, k33, hP27, hle28, (by dsimp only; omega), hfj35⟩, mk_end hG ht⟩, hS.F ht⟩) hS.2.2 dX4_step_116
  · skip
    have hlo : ¬ (swL.getD ((v.O c9 i9).1) 0).toInt < 6 := fun z => sw_11 (Or.inl z)
    have hhi : ¬ 10 < (swL.getD ((v.O c9 i9).1) 0).toInt := fun z => sw_11 (Or.inr z)
    have hcs : (swL.getD ((v.O c9 i9).1) 0).toInt = 6 ∨ (swL.getD ((v.O c9 i9).1) 0).toInt = 7 ∨ (swL.getD ((v.O c9 i9).1) 0).toInt = 8 ∨ (swL.getD ((v.O c9 i9).1) 0).toInt = 9 ∨ (swL.getD ((v.O c9 i9).1) 0).toInt = 10 := by omega
    rcases hcs with sw_11 | sw_11 | sw_11 | sw_11 | sw_11
    · skip
      refine lv_tableIn (tgt := 44) hx hb dX4_step_11 hlo hhi (off := 33) (by rw [sw_11]; rfl) (by decide) ?_
      refine lv_aload_n hx hb dX4_step_44 rfl (lv_at hl 0 rfl) ?_
      refine lv_aload_n hx hb dX4_step_45 rfl (lv_at hl 1 rfl) ?_
      refine mm_getN (v := .long ((v.O c9 i9).2.1)) hx hb hf_X7 (fun _ h9 => h9) hown hK hG k21 rfl 1 (by decide) (tb_use hT tw_904) (fun _ h9 => h9) rfl dX4_step_46 ?_
      have k36 : G (AD 5 c9) = some (.inr (5, [.int ((v.J c9).1), .long ((v.J c9).2), .ref (LA (40 + c9)), .ref (PI c9), .int (nI hh)])) := by have z9 := hP.elJ hc9; rw [show (zJ z c9 hh pf PD).jh c9 = nI hh from up1_eq] at z9; exact z9
      have k37 : G (PI c9) = some (.inl (cy 2, 16, .inr (.inl pf))) := by have z9 := hP.pi c9 hc9; rw [show (zJ z c9 hh pf PD).pv c9 = pf from up1_eq] at z9; exact z9
      refine va_callv (va_runV (As := [.long ((v.O c9 i9).2.1)]) (rest := []) ⟨hx, hb, hml, hown, (fun _ h9 => absurd h9 List.not_mem_nil : ∀ w ∈ ([] : List Cond), w.before _ s = true)⟩ (c_X4_lay l D cy A X hst hXT e0 tk hXE G (AD 5 c9) (LA (40 + c9)) (PI c9) ((v.J c9).1) ((v.J c9).2) hh pf ((v.O c9 i9).2.1) k36 k37 hhh) (tb_cw (C := RX4) 1 hT tw_1256 tw_130 tw_1253 tw_1255 tw_56 rfl rfl hq_X4_lay ⟨Nat.le_of_ble_eq_true rfl, Nat.le_of_ble_eq_true rfl⟩) (mk_preC hst hG hK hA hX hS vc_5 k36) rfl rfl hl.1 rfl (lv_room (Nat.le_of_ble_eq_true rfl)) dX4_step_49 ⟨Nat.le_of_ble_eq_true rfl, Nat.le_of_ble_eq_true rfl⟩) hS (fun q _ h => h) (fun q h => h) (fun  G38 t H locs ht hvm hw hB hz1 hk1 hS => ?_)
      have hG : mm D vwCl A G38 H := by rw [← ht]; exact hB
      clear hB hz1 hk1 hvm ht
      obtain ⟨k39, k40, hf41⟩ := hw
      have hP42 : EDP cy e0 tk G0 Bx G38 v (zJ z c9 ((lyy ((v.O c9 i9).2.1) (hh, pf)).1) ((lyy ((v.O c9 i9).2.1) (hh, pf)).2) PD) LA EA AD PI := EDP.jb hP hc9 k39 k40 hf41
      have k43 : G38 to = some (.inr (7, [.ref ro, .int (nI ln)])) := hf41 _ _ hto (mm_ne_oo hto k36 (by decide)) (mm_ne_oa hto k37)
      have k44 : G38 ro = some (.inl (cy 0, 64, .inl fo9)) := hf41 _ _ hro (mm_ne_ao hro k36) (mm_ne_e hro k37 (fun z => by have z2 := (Prod.mk.inj (Prod.mk.inj (Sum.inl.inj z)).2).2; cases z2))
      have k45 : G38 se = some (.inr (7, [.ref rs, .int (nI sl)])) := hf41 _ _ hse (mm_ne_oo hse k36 (by decide)) (mm_ne_oa hse k37)
      have k46 : G38 rs = some (.inl (cy 0, 64, .inl sf)) := hf41 _ _ hrs (mm_ne_ao hrs k36) (mm_ne_e hrs k37 (fun z => by have z2 := (Prod.mk.inj (Prod.mk.inj (Sum.inl.inj z)).2).2; cases z2))
      have k47 : G38 (AD (40 + c9) i9) = some (.inr (8, [.ref (tk (v.O c9 i9).1), .long ((v.O c9 i9).2.1), .long ((v.O c9 i9).2.2.1), .int ((v.O c9 i9).2.2.2.1), va_rf ((opS v (v.O c9 i9)).map (AD 2)), .long ((v.O c9 i9).2.2.2.2.1), .int ((v.O c9 i9).2.2.2.2.2.1), va_rf ((opP v (v.O c9 i9)).map (fun y => AD (20 + y.1) y.2)), .int ((v.O c9 i9).2.2.2.2.2.2)])) := hf41 _ _ k21 (mm_ne_oo k21 k36 (by decide)) (mm_ne_oa k21 k37)
      have hfj48 : ∀ (x : Nat) (e : va_E), G x = some e → x ≠ AD 5 c9 → x ≠ PI c9 → x ≠ se → x ≠ rs → (∀ c i, c < v.nS → i < v.nP c → x ≠ AD (20 + c) i) → G38 x = some e := fun x e z9 n1 n2 n3 n4 n5 => hf41 x e (hfj x e z9 n1 n2 n3 n4 n5) n1 n2
      have hle49 : (lyy ((v.O c9 i9).2.1) (hh, pf)).1 ≤ 16 := lyy_le hhh
      refine lv_goto (tgt := 116) hx hb dX4_step_52 (by decide) ?_
      have hkk : (v.O c9 i9).1 = 25 := (sw_st _ hti).1.1 (i32_of (n := 6) (by decide) sw_11)
      have hz9 : (stF9 v ln fo9 (v.O c9 i9) ((hh, pf), PD, sl, sf)) = (((lyy ((v.O c9 i9).2.1) (hh, pf)).1, (lyy ((v.O c9 i9).2.1) (hh, pf)).2), PD, sl, sf) := by rw [stF9, if_pos hkk]; try rfl
      rw [hz9]
      exact W.vret hx hb hr (fun t ht hW => ⟨⟨_, rfl, ⟨k45, k46, hP42, hle49, (by dsimp only; omega), hfj48⟩, mk_end hG ht⟩, hS.F ht⟩) hS.2.2 dX4_step_116
    · skip
      refine lv_tableIn (tgt := 55) hx hb dX4_step_11 hlo hhi (off := 44) (by rw [sw_11]; rfl) (by decide) ?_
      refine lv_aload_n hx hb dX4_step_55 rfl (lv_at hl 0 rfl) ?_
      refine lv_aload_n hx hb dX4_step_56 rfl (lv_at hl 1 rfl) ?_
      refine lv_aload_n hx hb dX4_step_57 rfl (lv_at hl 2 rfl) ?_
      refine va_calll (va_runV (As := [.ref to]) (rest := [.ref (AD 5 c9)]) ⟨hx, hb, hml, hown, (fun _ h9 => absurd h9 List.not_mem_nil : ∀ w ∈ ([] : List Cond), w.before _ s = true)⟩ (c_J_valueIn l D cy A X hst hXT e0 tk hXE mi hXL ax adK adV hXX G G0 Bx v (zJ z c9 hh pf PD) LA EA AD PI c9 i9 to ro ln fo9 hP hZ hWd hc9 hi9 hto hro hln) (tb_cw (C := RX7) 1 hT tw_1260 tw_131 tw_1257 tw_1258 tw_1259 rfl rfl hq_X7_valueIn ⟨Nat.le_of_ble_eq_true rfl, Nat.le_of_ble_eq_true rfl⟩) (mk_preC hst hG hK hA hX hS vc_8 k21) rfl rfl hl.1 rfl (lv_room (Nat.le_of_ble_eq_true rfl)) dX4_step_58 ⟨Nat.le_of_ble_eq_true rfl, Nat.le_of_ble_eq_true rfl⟩) hS (fun q _ h => h) (fun q h => h) (fun r50 G51 t H locs ht hvm hw hB hz1 hk1 hS => ?_)
      have hG : mm D vwCl A G51 H := by rw [← ht]; exact hB
      clear hB hz1 hk1 hvm ht
      obtain ⟨er50, hP52, hf53⟩ := vi_out hP hw
      rw [er50]
      have k54 : G51 to = some (.inr (7, [.ref ro, .int (nI ln)])) := hf53 _ _ hto (fun c i hc hi => mm_ne_oo hto (hP.elP hc hi) (by decide))
      have k55 : G51 ro = some (.inl (cy 0, 64, .inl fo9)) := hf53 _ _ hro (fun c i hc hi => mm_ne_ao hro (hP.elP hc hi))
      have k56 : G51 se = some (.inr (7, [.ref rs, .int (nI sl)])) := hf53 _ _ hse (fun c i hc hi => mm_ne_oo hse (hP.elP hc hi) (by decide))
      have k57 : G51 rs = some (.inl (cy 0, 64, .inl sf)) := hf53 _ _ hrs (fun c i hc hi => mm_ne_ao hrs (hP.elP hc hi))
      have k58 : G51 (AD (40 + c9) i9) = some (.inr (8, [.ref (tk (v.O c9 i9).1), .long ((v.O c9 i9).2.1), .long ((v.O c9 i9).2.2.1), .int ((v.O c9 i9).2.2.2.1), va_rf ((opS v (v.O c9 i9)).map (AD 2)), .long ((v.O c9 i9).2.2.2.2.1), .int ((v.O c9 i9).2.2.2.2.2.1), va_rf ((opP v (v.O c9 i9)).map (fun y => AD (20 + y.1) y.2)), .int ((v.O c9 i9).2.2.2.2.2.2)])) := hf53 _ _ k21 (fun c i hc hi => mm_ne_oo k21 (hP.elP hc hi) (by decide))
      have hfj59 : ∀ (x : Nat) (e : va_E), G x = some e → x ≠ AD 5 c9 → x ≠ PI c9 → x ≠ se → x ≠ rs → (∀ c i, c < v.nS → i < v.nP c → x ≠ AD (20 + c) i) → G51 x = some e := fun x e z9 n1 n2 n3 n4 n5 => hf53 x e (hfj x e z9 n1 n2 n3 n4 n5) n5
      have k60 : G51 (AD 5 c9) = some (.inr (5, [.int ((v.J c9).1), .long ((v.J c9).2), .ref (LA (40 + c9)), .ref (PI c9), .int (nI hh)])) := by have z9 := hP52.elJ hc9; rw [show (zJ z c9 hh pf (gtP v ln fo9 PD (v.O c9 i9))).jh c9 = nI hh from up1_eq] at z9; exact z9
      have k61 : G51 (PI c9) = some (.inl (cy 2, 16, .inr (.inl pf))) := by have z9 := hP52.pi c9 hc9; rw [show (zJ z c9 hh pf (gtP v ln fo9 PD (v.O c9 i9))).pv c9 = pf from up1_eq] at z9; exact z9
      refine va_callv (va_runV (As := [.long (gtV v ln fo9 PD (v.O c9 i9))]) (rest := []) ⟨hx, hb, hml, hown, (fun _ h9 => absurd h9 List.not_mem_nil : ∀ w ∈ ([] : List Cond), w.before _ s = true)⟩ (c_X4_lay l D cy A X hst hXT e0 tk hXE G51 (AD 5 c9) (LA (40 + c9)) (PI c9) ((v.J c9).1) ((v.J c9).2) hh pf (gtV v ln fo9 PD (v.O c9 i9)) k60 k61 hhh) (tb_cw (C := RX4) 1 hT tw_1256 tw_130 tw_1253 tw_1255 tw_56 rfl rfl hq_X4_lay ⟨Nat.le_of_ble_eq_true rfl, Nat.le_of_ble_eq_true rfl⟩) (mk_preC hst hG hK hA hX hS vc_5 k60) rfl rfl hl.1 rfl (lv_room (Nat.le_of_ble_eq_true rfl)) dX4_step_61 ⟨Nat.le_of_ble_eq_true rfl, Nat.le_of_ble_eq_true rfl⟩) hS (fun q _ h => h) (fun q h => h) (fun  G62 t H locs ht hvm hw hB hz1 hk1 hS => ?_)
      have hG : mm D vwCl A G62 H := by rw [← ht]; exact hB
      clear hB hz1 hk1 hvm ht
      obtain ⟨k63, k64, hf65⟩ := hw
      have hP66 : EDP cy e0 tk G0 Bx G62 v (zJ z c9 ((lyy (gtV v ln fo9 PD (v.O c9 i9)) (hh, pf)).1) ((lyy (gtV v ln fo9 PD (v.O c9 i9)) (hh, pf)).2) (gtP v ln fo9 PD (v.O c9 i9))) LA EA AD PI := EDP.jb hP52 hc9 k63 k64 hf65
      have k67 : G62 to = some (.inr (7, [.ref ro, .int (nI ln)])) := hf65 _ _ k54 (mm_ne_oo k54 k60 (by decide)) (mm_ne_oa k54 k61)
      have k68 : G62 ro = some (.inl (cy 0, 64, .inl fo9)) := hf65 _ _ k55 (mm_ne_ao k55 k60) (mm_ne_e k55 k61 (fun z => by have z2 := (Prod.mk.inj (Prod.mk.inj (Sum.inl.inj z)).2).2; cases z2))
      have k69 : G62 se = some (.inr (7, [.ref rs, .int (nI sl)])) := hf65 _ _ k56 (mm_ne_oo k56 k60 (by decide)) (mm_ne_oa k56 k61)
      have k70 : G62 rs = some (.inl (cy 0, 64, .inl sf)) := hf65 _ _ k57 (mm_ne_ao k57 k60) (mm_ne_e k57 k61 (fun z => by have z2 := (Prod.mk.inj (Prod.mk.inj (Sum.inl.inj z)).2).2; cases z2))
      have k71 : G62 (AD (40 + c9) i9) = some (.inr (8, [.ref (tk (v.O c9 i9).1), .long ((v.O c9 i9).2.1), .long ((v.O c9 i9).2.2.1), .int ((v.O c9 i9).2.2.2.1), va_rf ((opS v (v.O c9 i9)).map (AD 2)), .long ((v.O c9 i9).2.2.2.2.1), .int ((v.O c9 i9).2.2.2.2.2.1), va_rf ((opP v (v.O c9 i9)).map (fun y => AD (20 + y.1) y.2)), .int ((v.O c9 i9).2.2.2.2.2.2)])) := hf65 _ _ k58 (mm_ne_oo k58 k60 (by decide)) (mm_ne_oa k58 k61)
      have hfj72 : ∀ (x : Nat) (e : va_E), G x = some e → x ≠ AD 5 c9 → x ≠ PI c9 → x ≠ se → x ≠ rs → (∀ c i, c < v.nS → i < v.nP c → x ≠ AD (20 + c) i) → G62 x = some e := fun x e z9 n1 n2 n3 n4 n5 => hf65 x e (hfj59 x e z9 n1 n2 n3 n4 n5) n1 n2
      have hle73 : (lyy (gtV v ln fo9 PD (v.O c9 i9)) (hh, pf)).1 ≤ 16 := lyy_le hhh
      refine lv_goto (tgt := 116) hx hb dX4_step_64 (by decide) ?_
      have hkk : (v.O c9 i9).1 = 26 := (sw_st _ hti).2.1.1 (i32_of (n := 7) (by decide) sw_11)
      have hz9 : (stF9 v ln fo9 (v.O c9 i9) ((hh, pf), PD, sl, sf)) = (((lyy (gtV v ln fo9 PD (v.O c9 i9)) (hh, pf)).1, (lyy (gtV v ln fo9 PD (v.O c9 i9)) (hh, pf)).2), (gtP v ln fo9 PD (v.O c9 i9)), sl, sf) := by rw [stF9, if_neg (by rw [hkk]; decide), if_pos hkk]; try rfl
      rw [hz9]
      exact W.vret hx hb hr (fun t ht hW => ⟨⟨_, rfl, ⟨k69, k70, hP66, hle73, (by dsimp only; omega), hfj72⟩, mk_end hG ht⟩, hS.F ht⟩) hS.2.2 dX4_step_116
    · skip
      refine lv_tableIn (tgt := 67) hx hb dX4_step_11 hlo hhi (off := 56) (by rw [sw_11]; rfl) (by decide) ?_
      refine lv_aload_n hx hb dX4_step_67 rfl (lv_at hl 0 rfl) ?_
      have k74 : G (AD 5 c9) = some (.inr (5, [.int ((v.J c9).1), .long ((v.J c9).2), .ref (LA (40 + c9)), .ref (PI c9), .int (nI hh)])) := by have z9 := hP.elJ hc9; rw [show (zJ z c9 hh pf PD).jh c9 = nI hh from up1_eq] at z9; exact z9
      have k75 : G (PI c9) = some (.inl (cy 2, 16, .inr (.inl pf))) := by have z9 := hP.pi c9 hc9; rw [show (zJ z c9 hh pf PD).pv c9 = pf from up1_eq] at z9; exact z9
      refine va_calll (va_runV (As := []) (rest := []) ⟨hx, hb, hml, hown, (fun _ h9 => absurd h9 List.not_mem_nil : ∀ w ∈ ([] : List Cond), w.before _ s = true)⟩ (c_X4_lift l D cy A X hst hXT e0 tk hXE G (AD 5 c9) (LA (40 + c9)) (PI c9) ((v.J c9).1) ((v.J c9).2) hh pf k74 k75 hhh) (tb_cw (C := RX4) 0 hT tw_1246 tw_130 tw_1243 tw_1245 tw_54 rfl rfl hq_X4_lift ⟨Nat.le_of_ble_eq_true rfl, Nat.le_of_ble_eq_true rfl⟩) (mk_preC hst hG hK hA hX hS vc_5 k74) rfl rfl hl.1 rfl (lv_room (Nat.le_of_ble_eq_true rfl)) dX4_step_68 ⟨Nat.le_of_ble_eq_true rfl, Nat.le_of_ble_eq_true rfl⟩) hS (fun q _ h => h) (fun q h => h) (fun r76 G77 t H locs ht hvm hw hB hz1 hk1 hS => ?_)
      have hG : mm D vwCl A G77 H := by rw [← ht]; exact hB
      clear hB hz1 hk1 hvm ht
      obtain ⟨er76, k78, hf79⟩ := hw
      have k80 : G77 (PI c9) = some (.inl (cy 2, 16, .inr (.inl pf))) := hf79 _ _ k75 (mm_ne_ao k75 k74)
      have fr76 : r76 = lft (hh, pf) := er76
      rw [fr76]
      have hf79f : ∀ (x : Nat) (e : va_E), G x = some e → x ≠ AD 5 c9 → x ≠ PI c9 → G77 x = some e := fun x e z9 n1 _ => hf79 x e z9 n1
      have hP81 : EDP cy e0 tk G0 Bx G77 v (zJ z c9 (hh - 1) pf PD) LA EA AD PI := EDP.jb hP hc9 k78 k80 hf79f
      have k82 : G77 to = some (.inr (7, [.ref ro, .int (nI ln)])) := hf79f _ _ hto (mm_ne_oo hto k74 (by decide)) (mm_ne_oa hto k75)
      have k83 : G77 ro = some (.inl (cy 0, 64, .inl fo9)) := hf79f _ _ hro (mm_ne_ao hro k74) (mm_ne_e hro k75 (fun z => by have z2 := (Prod.mk.inj (Prod.mk.inj (Sum.inl.inj z)).2).2; cases z2))
      have k84 : G77 se = some (.inr (7, [.ref rs, .int (nI sl)])) := hf79f _ _ hse (mm_ne_oo hse k74 (by decide)) (mm_ne_oa hse k75)
      have k85 : G77 rs = some (.inl (cy 0, 64, .inl sf)) := hf79f _ _ hrs (mm_ne_ao hrs k74) (mm_ne_e hrs k75 (fun z => by have z2 := (Prod.mk.inj (Prod.mk.inj (Sum.inl.inj z)).2).2; cases z2))
      have k86 : G77 (AD (40 + c9) i9) = some (.inr (8, [.ref (tk (v.O c9 i9).1), .long ((v.O c9 i9).2.1), .long ((v.O c9 i9).2.2.1), .int ((v.O c9 i9).2.2.2.1), va_rf ((opS v (v.O c9 i9)).map (AD 2)), .long ((v.O c9 i9).2.2.2.2.1), .int ((v.O c9 i9).2.2.2.2.2.1), va_rf ((opP v (v.O c9 i9)).map (fun y => AD (20 + y.1) y.2)), .int ((v.O c9 i9).2.2.2.2.2.2)])) := hf79f _ _ k21 (mm_ne_oo k21 k74 (by decide)) (mm_ne_oa k21 k75)
      have hfj87 : ∀ (x : Nat) (e : va_E), G x = some e → x ≠ AD 5 c9 → x ≠ PI c9 → x ≠ se → x ≠ rs → (∀ c i, c < v.nS → i < v.nP c → x ≠ AD (20 + c) i) → G77 x = some e := fun x e z9 n1 n2 n3 n4 n5 => hf79f x e (hfj x e z9 n1 n2 n3 n4 n5) n1 n2
      have hle88 : (hh - 1) ≤ 16 := by have := hhh; omega
      refine lv_pop2_2 hx hb dX4_step_71 rfl ?_
      refine lv_goto (tgt := 116) hx hb dX4_step_72 (by decide) ?_
      have hkk : (v.O c9 i9).1 = 32 := (sw_st _ hti).2.2.1.1 (i32_of (n := 8) (by decide) sw_11)
      have hz9 : (stF9 v ln fo9 (v.O c9 i9) ((hh, pf), PD, sl, sf)) = (((hh - 1), pf), PD, sl, sf) := by rw [stF9, if_neg (by rw [hkk]; decide), if_neg (by rw [hkk]; decide), if_pos hkk]; try rfl
      rw [hz9]
      exact W.vret hx hb hr (fun t ht hW => ⟨⟨_, rfl, ⟨k84, k85, hP81, hle88, (by dsimp only; omega), hfj87⟩, mk_end hG ht⟩, hS.F ht⟩) hS.2.2 dX4_step_116
    · skip
      refine lv_tableIn (tgt := 75) hx hb dX4_step_11 hlo hhi (off := 64) (by rw [sw_11]; rfl) (by decide) ?_
      refine lv_aload_n hx hb dX4_step_75 rfl (lv_at hl 3 rfl) ?_
      refine lv_aload_n hx hb dX4_step_76 rfl (lv_at hl 0 rfl) ?_
      have k89 : G (AD 5 c9) = some (.inr (5, [.int ((v.J c9).1), .long ((v.J c9).2), .ref (LA (40 + c9)), .ref (PI c9), .int (nI hh)])) := by have z9 := hP.elJ hc9; rw [show (zJ z c9 hh pf PD).jh c9 = nI hh from up1_eq] at z9; exact z9
      have k90 : G (PI c9) = some (.inl (cy 2, 16, .inr (.inl pf))) := by have z9 := hP.pi c9 hc9; rw [show (zJ z c9 hh pf PD).pv c9 = pf from up1_eq] at z9; exact z9
      refine va_calll (va_runV (As := []) (rest := [.ref se]) ⟨hx, hb, hml, hown, (fun _ h9 => absurd h9 List.not_mem_nil : ∀ w ∈ ([] : List Cond), w.before _ s = true)⟩ (c_X4_lift l D cy A X hst hXT e0 tk hXE G (AD 5 c9) (LA (40 + c9)) (PI c9) ((v.J c9).1) ((v.J c9).2) hh pf k89 k90 hhh) (tb_cw (C := RX4) 0 hT tw_1246 tw_130 tw_1243 tw_1245 tw_54 rfl rfl hq_X4_lift ⟨Nat.le_of_ble_eq_true rfl, Nat.le_of_ble_eq_true rfl⟩) (mk_preC hst hG hK hA hX hS vc_5 k89) rfl rfl hl.1 rfl (lv_room (Nat.le_of_ble_eq_true rfl)) dX4_step_77 ⟨Nat.le_of_ble_eq_true rfl, Nat.le_of_ble_eq_true rfl⟩) hS (fun q _ h => h) (fun q h => h) (fun r91 G92 t H locs ht hvm hw hB hz1 hk1 hS => ?_)
      have hG : mm D vwCl A G92 H := by rw [← ht]; exact hB
      clear hB hz1 hk1 hvm ht
      obtain ⟨er91, k93, hf94⟩ := hw
      have k95 : G92 (PI c9) = some (.inl (cy 2, 16, .inr (.inl pf))) := hf94 _ _ k90 (mm_ne_ao k90 k89)
      have fr91 : r91 = lft (hh, pf) := er91
      rw [fr91]
      have hf94f : ∀ (x : Nat) (e : va_E), G x = some e → x ≠ AD 5 c9 → x ≠ PI c9 → G92 x = some e := fun x e z9 n1 _ => hf94 x e z9 n1
      have hP96 : EDP cy e0 tk G0 Bx G92 v (zJ z c9 (hh - 1) pf PD) LA EA AD PI := EDP.jb hP hc9 k93 k95 hf94f
      have k97 : G92 to = some (.inr (7, [.ref ro, .int (nI ln)])) := hf94f _ _ hto (mm_ne_oo hto k89 (by decide)) (mm_ne_oa hto k90)
      have k98 : G92 ro = some (.inl (cy 0, 64, .inl fo9)) := hf94f _ _ hro (mm_ne_ao hro k89) (mm_ne_e hro k90 (fun z => by have z2 := (Prod.mk.inj (Prod.mk.inj (Sum.inl.inj z)).2).2; cases z2))
      have k99 : G92 se = some (.inr (7, [.ref rs, .int (nI sl)])) := hf94f _ _ hse (mm_ne_oo hse k89 (by decide)) (mm_ne_oa hse k90)
      have k100 : G92 rs = some (.inl (cy 0, 64, .inl sf)) := hf94f _ _ hrs (mm_ne_ao hrs k89) (mm_ne_e hrs k90 (fun z => by have z2 := (Prod.mk.inj (Prod.mk.inj (Sum.inl.inj z)).2).2; cases z2))
      have k101 : G92 (AD (40 + c9) i9) = some (.inr (8, [.ref (tk (v.O c9 i9).1), .long ((v.O c9 i9).2.1), .long ((v.O c9 i9).2.2.1), .int ((v.O c9 i9).2.2.2.1), va_rf ((opS v (v.O c9 i9)).map (AD 2)), .long ((v.O c9 i9).2.2.2.2.1), .int ((v.O c9 i9).2.2.2.2.2.1), va_rf ((opP v (v.O c9 i9)).map (fun y => AD (20 + y.1) y.2)), .int ((v.O c9 i9).2.2.2.2.2.2)])) := hf94f _ _ k21 (mm_ne_oo k21 k89 (by decide)) (mm_ne_oa k21 k90)
      have hfj102 : ∀ (x : Nat) (e : va_E), G x = some e → x ≠ AD 5 c9 → x ≠ PI c9 → x ≠ se → x ≠ rs → (∀ c i, c < v.nS → i < v.nP c → x ≠ AD (20 + c) i) → G92 x = some e := fun x e z9 n1 n2 n3 n4 n5 => hf94f x e (hfj x e z9 n1 n2 n3 n4 n5) n1 n2
      have hle103 : (hh - 1) ≤ 16 := by have := hhh; omega
      obtain ⟨x104, ex104⟩ : ∃ y, y = ((lft (hh, pf)) : Int64).toInt32 := ⟨_, rfl⟩
      refine lv_l2i (v := x104) hx hb dX4_step_80 ex104.symm ?_
      have hkk : (v.O c9 i9).1 = 33 := (sw_st _ hti).2.2.2.1.1 (i32_of (n := 9) (by decide) sw_11)
      have hsl9 : sl < 64 := hsn hkk
      refine va_callv (va_runV (As := [.int x104]) (rest := []) ⟨hx, hb, hml, hown, (fun _ h9 => absurd h9 List.not_mem_nil : ∀ w ∈ ([] : List Cond), w.before _ s = true)⟩ (c_X6_add l D cy A X hst hXT G92 se rs (nI sl) x104 sf k99 k100 (nI_pos (by omega)) (nI_lt (b := 64) (by omega) (by decide))) (tb_cw (C := RX6) 1 hT tw_1182 tw_108 tw_1269 tw_1180 tw_1181 rfl rfl hq_X6_add ⟨Nat.le_of_ble_eq_true rfl, Nat.le_of_ble_eq_true rfl⟩) (mk_preC hst hG hK hA hX hS vc_7 k99) rfl rfl hl.1 rfl (lv_room (Nat.le_of_ble_eq_true rfl)) dX4_step_81 ⟨Nat.le_of_ble_eq_true rfl, Nat.le_of_ble_eq_true rfl⟩) hS (fun q _ h => h) (fun q h => h) (fun  G105 t H locs ht hvm hw hB hz1 hk1 hS => ?_)
      have hG : mm D vwCl A G105 H := by rw [← ht]; exact hB
      clear hB hz1 hk1 hvm ht
      rw [nI_clamp (n := sl) (by omega)] at hw
      have ne_tr : se ≠ rs := mm_ne_oa k99 k100
      have k106 : G105 se = some (.inr (7, [.ref rs, .int (nI (sl + 1))])) := by rw [hw, nI_succ]; exact mm_set_self
      have k107 : G105 rs = some (.inl (cy 0, 64, .inl (upd sf sl (vp_nar .byte ((x104 : Int32).toInt8.toInt32))))) := by rw [hw]; exact mm_set_of mm_set_self (Ne.symm ne_tr)
      have hP108 : EDP cy e0 tk G0 Bx G105 v (zJ z c9 (hh - 1) pf PD) LA EA AD PI := hP96.mvG (fun y => y = se ∨ y = rs) (fun y hy => hy.elim (fun h => by rw [h]; exact hBs) (fun h => by rw [h]; exact hBq)) (fun i hi z => z.elim (apT.1 i hi) (apR.1 i hi)) (fun i hi n z => z.elim (apT.2.1 i hi n) (apR.2.1 i hi n)) (fun i j hi hj z => z.elim (apT.2.2.1 i j hi hj) (apR.2.2.1 i j hi hj)) (fun i hi z => z.elim (apT.2.2.2 i hi) (apR.2.2.2 i hi)) (fun y hy => hy.elim (fun h => by rw [h]; exact ⟨_, k106⟩) (fun h => by rw [h]; exact ⟨_, k107⟩)) (fun x e h1 n1 => by rw [hw]; exact mm_set_2 h1 (fun z => n1 (Or.inr z)) (fun z => n1 (Or.inl z)))
      have hfj109 : ∀ (x : Nat) (e : va_E), G x = some e → x ≠ AD 5 c9 → x ≠ PI c9 → x ≠ se → x ≠ rs → (∀ c i, c < v.nS → i < v.nP c → x ≠ AD (20 + c) i) → G105 x = some e := fun x e z9 n1 n2 n3 n4 n5 => by rw [hw]; exact mm_set_2 (hfj102 x e z9 n1 n2 n3 n4 n5) n4 n3
      clear hw
      refine lv_goto (tgt := 116) hx hb dX4_step_84 (by decide) ?_
      have hkk : (v.O c9 i9).1 = 33 := (sw_st _ hti).2.2.2.1.1 (i32_of (n := 9) (by decide) sw_11)
      have hz9 : (stF9 v ln fo9 (v.O c9 i9) ((hh, pf), PD, sl, sf)) = (((hh - 1), pf), PD, (sl + 1), (upd sf sl (vp_nar .byte ((x104 : Int32).toInt8.toInt32)))) := by rw [stF9, if_neg (by rw [hkk]; decide), if_neg (by rw [hkk]; decide), if_neg (by rw [hkk]; decide), if_pos hkk]; rw [ex104]; try rfl
      rw [hz9]
      exact W.vret hx hb hr (fun t ht hW => ⟨⟨_, rfl, ⟨k106, k107, hP108, hle103, (by dsimp only; omega), hfj109⟩, mk_end hG ht⟩, hS.F ht⟩) hS.2.2 dX4_step_116
    · skip
      refine lv_tableIn (tgt := 87) hx hb dX4_step_11 hlo hhi (off := 76) (by rw [sw_11]; rfl) (by decide) ?_
      refine lv_aload_n hx hb dX4_step_87 rfl (lv_at hl 0 rfl) ?_
      have k110 : G (AD 5 c9) = some (.inr (5, [.int ((v.J c9).1), .long ((v.J c9).2), .ref (LA (40 + c9)), .ref (PI c9), .int (nI hh)])) := by have z9 := hP.elJ hc9; rw [show (zJ z c9 hh pf PD).jh c9 = nI hh from up1_eq] at z9; exact z9
      have k111 : G (PI c9) = some (.inl (cy 2, 16, .inr (.inl pf))) := by have z9 := hP.pi c9 hc9; rw [show (zJ z c9 hh pf PD).pv c9 = pf from up1_eq] at z9; exact z9
      refine va_calll (va_runV (As := []) (rest := []) ⟨hx, hb, hml, hown, (fun _ h9 => absurd h9 List.not_mem_nil : ∀ w ∈ ([] : List Cond), w.before _ s = true)⟩ (c_X4_lift l D cy A X hst hXT e0 tk hXE G (AD 5 c9) (LA (40 + c9)) (PI c9) ((v.J c9).1) ((v.J c9).2) hh pf k110 k111 hhh) (tb_cw (C := RX4) 0 hT tw_1246 tw_130 tw_1243 tw_1245 tw_54 rfl rfl hq_X4_lift ⟨Nat.le_of_ble_eq_true rfl, Nat.le_of_ble_eq_true rfl⟩) (mk_preC hst hG hK hA hX hS vc_5 k110) rfl rfl hl.1 rfl (lv_room (Nat.le_of_ble_eq_true rfl)) dX4_step_88 ⟨Nat.le_of_ble_eq_true rfl, Nat.le_of_ble_eq_true rfl⟩) hS (fun q _ h => h) (fun q h => h) (fun r112 G113 t H locs ht hvm hw hB hz1 hk1 hS => ?_)
      have hG : mm D vwCl A G113 H := by rw [← ht]; exact hB
      clear hB hz1 hk1 hvm ht
      obtain ⟨er112, k114, hf115⟩ := hw
      have k116 : G113 (PI c9) = some (.inl (cy 2, 16, .inr (.inl pf))) := hf115 _ _ k111 (mm_ne_ao k111 k110)
      have fr112 : r112 = lft (hh, pf) := er112
      rw [fr112]
      have hf115f : ∀ (x : Nat) (e : va_E), G x = some e → x ≠ AD 5 c9 → x ≠ PI c9 → G113 x = some e := fun x e z9 n1 _ => hf115 x e z9 n1
      have hP117 : EDP cy e0 tk G0 Bx G113 v (zJ z c9 (hh - 1) pf PD) LA EA AD PI := EDP.jb hP hc9 k114 k116 hf115f
      have k118 : G113 to = some (.inr (7, [.ref ro, .int (nI ln)])) := hf115f _ _ hto (mm_ne_oo hto k110 (by decide)) (mm_ne_oa hto k111)
      have k119 : G113 ro = some (.inl (cy 0, 64, .inl fo9)) := hf115f _ _ hro (mm_ne_ao hro k110) (mm_ne_e hro k111 (fun z => by have z2 := (Prod.mk.inj (Prod.mk.inj (Sum.inl.inj z)).2).2; cases z2))
      have k120 : G113 se = some (.inr (7, [.ref rs, .int (nI sl)])) := hf115f _ _ hse (mm_ne_oo hse k110 (by decide)) (mm_ne_oa hse k111)
      have k121 : G113 rs = some (.inl (cy 0, 64, .inl sf)) := hf115f _ _ hrs (mm_ne_ao hrs k110) (mm_ne_e hrs k111 (fun z => by have z2 := (Prod.mk.inj (Prod.mk.inj (Sum.inl.inj z)).2).2; cases z2))
      have k122 : G113 (AD (40 + c9) i9) = some (.inr (8, [.ref (tk (v.O c9 i9).1), .long ((v.O c9 i9).2.1), .long ((v.O c9 i9).2.2.1), .int ((v.O c9 i9).2.2.2.1), va_rf ((opS v (v.O c9 i9)).map (AD 2)), .long ((v.O c9 i9).2.2.2.2.1), .int ((v.O c9 i9).2.2.2.2.2.1), va_rf ((opP v (v.O c9 i9)).map (fun y => AD (20 + y.1) y.2)), .int ((v.O c9 i9).2.2.2.2.2.2)])) := hf115f _ _ k21 (mm_ne_oo k21 k110 (by decide)) (mm_ne_oa k21 k111)
      have hfj123 : ∀ (x : Nat) (e : va_E), G x = some e → x ≠ AD 5 c9 → x ≠ PI c9 → x ≠ se → x ≠ rs → (∀ c i, c < v.nS → i < v.nP c → x ≠ AD (20 + c) i) → G113 x = some e := fun x e z9 n1 n2 n3 n4 n5 => hf115f x e (hfj x e z9 n1 n2 n3 n4 n5) n1 n2
      have hle124 : (hh - 1) ≤ 16 := by have := hhh; omega
      refine lv_topl (fun x125 ex125 => ?_)
      refine lv_lstore (lv' := [(4, .long x125), (0, .ref (AD 5 c9)), (1, .ref (AD (40 + c9) i9)), (2, .ref to), (3, .ref se)]) hx hb dX4_step_91 hl (by decide) rfl (fun ls hl => ?_)
      refine lv_aload_n hx hb dX4_step_93 rfl (lv_at hl 1 rfl) ?_
      refine lv_lload hx hb dX4_step_94 (lv_at hl 0 rfl) ?_
      have k126 : G113 (AD 5 c9) = some (.inr (5, [.int ((v.J c9).1), .long ((v.J c9).2), .ref (LA (40 + c9)), .ref (PI c9), .int (nI (hh - 1))])) := by have z9 := hP117.elJ hc9; rw [show (zJ z c9 (hh - 1) pf PD).jh c9 = nI (hh - 1) from up1_eq] at z9; exact z9
      have k127 : G113 (PI c9) = some (.inl (cy 2, 16, .inr (.inl pf))) := by have z9 := hP117.pi c9 hc9; rw [show (zJ z c9 (hh - 1) pf PD).pv c9 = pf from up1_eq] at z9; exact z9
      refine va_callv (va_runV (As := [.long x125]) (rest := []) ⟨hx, hb, hml, hown, (fun _ h9 => absurd h9 List.not_mem_nil : ∀ w ∈ ([] : List Cond), w.before _ s = true)⟩ (c_X4_lay l D cy A X hst hXT e0 tk hXE G113 (AD 5 c9) (LA (40 + c9)) (PI c9) ((v.J c9).1) ((v.J c9).2) (hh - 1) pf x125 k126 k127 hle124) (tb_cw (C := RX4) 1 hT tw_1256 tw_130 tw_1253 tw_1255 tw_56 rfl rfl hq_X4_lay ⟨Nat.le_of_ble_eq_true rfl, Nat.le_of_ble_eq_true rfl⟩) (mk_preC hst hG hK hA hX hS vc_5 k126) rfl rfl hl.1 rfl (lv_room (Nat.le_of_ble_eq_true rfl)) dX4_step_96 ⟨Nat.le_of_ble_eq_true rfl, Nat.le_of_ble_eq_true rfl⟩) hS (fun q _ h => h) (fun q h => h) (fun  G128 t H locs ht hvm hw hB hz1 hk1 hS => ?_)
      have hG : mm D vwCl A G128 H := by rw [← ht]; exact hB
      clear hB hz1 hk1 hvm ht
      obtain ⟨k129, k130, hf131⟩ := hw
      have hP132 : EDP cy e0 tk G0 Bx G128 v (zJ z c9 ((lyy x125 ((hh - 1), pf)).1) ((lyy x125 ((hh - 1), pf)).2) PD) LA EA AD PI := EDP.jb hP117 hc9 k129 k130 hf131
      have k133 : G128 to = some (.inr (7, [.ref ro, .int (nI ln)])) := hf131 _ _ k118 (mm_ne_oo k118 k126 (by decide)) (mm_ne_oa k118 k127)
      have k134 : G128 ro = some (.inl (cy 0, 64, .inl fo9)) := hf131 _ _ k119 (mm_ne_ao k119 k126) (mm_ne_e k119 k127 (fun z => by have z2 := (Prod.mk.inj (Prod.mk.inj (Sum.inl.inj z)).2).2; cases z2))
      have k135 : G128 se = some (.inr (7, [.ref rs, .int (nI sl)])) := hf131 _ _ k120 (mm_ne_oo k120 k126 (by decide)) (mm_ne_oa k120 k127)
      have k136 : G128 rs = some (.inl (cy 0, 64, .inl sf)) := hf131 _ _ k121 (mm_ne_ao k121 k126) (mm_ne_e k121 k127 (fun z => by have z2 := (Prod.mk.inj (Prod.mk.inj (Sum.inl.inj z)).2).2; cases z2))
      have k137 : G128 (AD (40 + c9) i9) = some (.inr (8, [.ref (tk (v.O c9 i9).1), .long ((v.O c9 i9).2.1), .long ((v.O c9 i9).2.2.1), .int ((v.O c9 i9).2.2.2.1), va_rf ((opS v (v.O c9 i9)).map (AD 2)), .long ((v.O c9 i9).2.2.2.2.1), .int ((v.O c9 i9).2.2.2.2.2.1), va_rf ((opP v (v.O c9 i9)).map (fun y => AD (20 + y.1) y.2)), .int ((v.O c9 i9).2.2.2.2.2.2)])) := hf131 _ _ k122 (mm_ne_oo k122 k126 (by decide)) (mm_ne_oa k122 k127)
      have hfj138 : ∀ (x : Nat) (e : va_E), G x = some e → x ≠ AD 5 c9 → x ≠ PI c9 → x ≠ se → x ≠ rs → (∀ c i, c < v.nS → i < v.nP c → x ≠ AD (20 + c) i) → G128 x = some e := fun x e z9 n1 n2 n3 n4 n5 => hf131 x e (hfj123 x e z9 n1 n2 n3 n4 n5) n1 n2
      have hle139 : (lyy x125 ((hh - 1), pf)).1 ≤ 16 := lyy_le hle124
      refine lv_aload_n hx hb dX4_step_99 rfl (lv_at hl 1 rfl) ?_
      refine lv_lload hx hb dX4_step_100 (lv_at hl 0 rfl) ?_
      have k140 : G128 (AD 5 c9) = some (.inr (5, [.int ((v.J c9).1), .long ((v.J c9).2), .ref (LA (40 + c9)), .ref (PI c9), .int (nI ((lyy x125 ((hh - 1), pf)).1))])) := by have z9 := hP132.elJ hc9; rw [show (zJ z c9 ((lyy x125 ((hh - 1), pf)).1) ((lyy x125 ((hh - 1), pf)).2) PD).jh c9 = nI ((lyy x125 ((hh - 1), pf)).1) from up1_eq] at z9; exact z9
      have k141 : G128 (PI c9) = some (.inl (cy 2, 16, .inr (.inl ((lyy x125 ((hh - 1), pf)).2)))) := by have z9 := hP132.pi c9 hc9; rw [show (zJ z c9 ((lyy x125 ((hh - 1), pf)).1) ((lyy x125 ((hh - 1), pf)).2) PD).pv c9 = (lyy x125 ((hh - 1), pf)).2 from up1_eq] at z9; exact z9
      refine va_callv (va_runV (As := [.long x125]) (rest := []) ⟨hx, hb, hml, hown, (fun _ h9 => absurd h9 List.not_mem_nil : ∀ w ∈ ([] : List Cond), w.before _ s = true)⟩ (c_X4_lay l D cy A X hst hXT e0 tk hXE G128 (AD 5 c9) (LA (40 + c9)) (PI c9) ((v.J c9).1) ((v.J c9).2) ((lyy x125 ((hh - 1), pf)).1) ((lyy x125 ((hh - 1), pf)).2) x125 k140 k141 hle139) (tb_cw (C := RX4) 1 hT tw_1256 tw_130 tw_1253 tw_1255 tw_56 rfl rfl hq_X4_lay ⟨Nat.le_of_ble_eq_true rfl, Nat.le_of_ble_eq_true rfl⟩) (mk_preC hst hG hK hA hX hS vc_5 k140) rfl rfl hl.1 rfl (lv_room (Nat.le_of_ble_eq_true rfl)) dX4_step_102 ⟨Nat.le_of_ble_eq_true rfl, Nat.le_of_ble_eq_true rfl⟩) hS (fun q _ h => h) (fun q h => h) (fun  G142 t H locs ht hvm hw hB hz1 hk1 hS => ?_)
      have hG : mm D vwCl A G142 H := by rw [← ht]; exact hB
      clear hB hz1 hk1 hvm ht
      obtain ⟨k143, k144, hf145⟩ := hw
      have hP146 : EDP cy e0 tk G0 Bx G142 v (zJ z c9 ((lyy x125 ((lyy x125 ((hh - 1), pf)).1, (lyy x125 ((hh - 1), pf)).2)).1) ((lyy x125 ((lyy x125 ((hh - 1), pf)).1, (lyy x125 ((hh - 1), pf)).2)).2) PD) LA EA AD PI := EDP.jb hP132 hc9 k143 k144 hf145
      have k147 : G142 to = some (.inr (7, [.ref ro, .int (nI ln)])) := hf145 _ _ k133 (mm_ne_oo k133 k140 (by decide)) (mm_ne_oa k133 k141)
      have k148 : G142 ro = some (.inl (cy 0, 64, .inl fo9)) := hf145 _ _ k134 (mm_ne_ao k134 k140) (mm_ne_e k134 k141 (fun z => by have z2 := (Prod.mk.inj (Prod.mk.inj (Sum.inl.inj z)).2).2; cases z2))
      have k149 : G142 se = some (.inr (7, [.ref rs, .int (nI sl)])) := hf145 _ _ k135 (mm_ne_oo k135 k140 (by decide)) (mm_ne_oa k135 k141)
      have k150 : G142 rs = some (.inl (cy 0, 64, .inl sf)) := hf145 _ _ k136 (mm_ne_ao k136 k140) (mm_ne_e k136 k141 (fun z => by have z2 := (Prod.mk.inj (Prod.mk.inj (Sum.inl.inj z)).2).2; cases z2))
      have k151 : G142 (AD (40 + c9) i9) = some (.inr (8, [.ref (tk (v.O c9 i9).1), .long ((v.O c9 i9).2.1), .long ((v.O c9 i9).2.2.1), .int ((v.O c9 i9).2.2.2.1), va_rf ((opS v (v.O c9 i9)).map (AD 2)), .long ((v.O c9 i9).2.2.2.2.1), .int ((v.O c9 i9).2.2.2.2.2.1), va_rf ((opP v (v.O c9 i9)).map (fun y => AD (20 + y.1) y.2)), .int ((v.O c9 i9).2.2.2.2.2.2)])) := hf145 _ _ k137 (mm_ne_oo k137 k140 (by decide)) (mm_ne_oa k137 k141)
      have hfj152 : ∀ (x : Nat) (e : va_E), G x = some e → x ≠ AD 5 c9 → x ≠ PI c9 → x ≠ se → x ≠ rs → (∀ c i, c < v.nS → i < v.nP c → x ≠ AD (20 + c) i) → G142 x = some e := fun x e z9 n1 n2 n3 n4 n5 => hf145 x e (hfj138 x e z9 n1 n2 n3 n4 n5) n1 n2
      have hle153 : (lyy x125 ((lyy x125 ((hh - 1), pf)).1, (lyy x125 ((hh - 1), pf)).2)).1 ≤ 16 := lyy_le hle139
      refine lv_goto (tgt := 116) hx hb dX4_step_105 (by decide) ?_
      have hkk : (v.O c9 i9).1 = 30 := (sw_st _ hti).2.2.2.2.1.1 (i32_of (n := 10) (by decide) sw_11)
      have hz9 : (stF9 v ln fo9 (v.O c9 i9) ((hh, pf), PD, sl, sf)) = (((lyy x125 ((lyy x125 ((hh - 1), pf)).1, (lyy x125 ((hh - 1), pf)).2)).1, (lyy x125 ((lyy x125 ((hh - 1), pf)).1, (lyy x125 ((hh - 1), pf)).2)).2), PD, sl, sf) := by rw [stF9, if_neg (by rw [hkk]; decide), if_neg (by rw [hkk]; decide), if_neg (by rw [hkk]; decide), if_neg (by rw [hkk]; decide), if_pos hkk]; rw [ex125]; try rfl
      rw [hz9]
      exact W.vret hx hb hr (fun t ht hW => ⟨⟨_, rfl, ⟨k149, k150, hP146, hle153, (by dsimp only; omega), hfj152⟩, mk_end hG ht⟩, hS.F ht⟩) hS.2.2 dX4_step_116
