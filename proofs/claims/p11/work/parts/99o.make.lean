theorem cIL_7 : (7 : Nat) ≠ 1 ∧ ∀ k, cIL k ≠ 7 := by
  refine ⟨by decide, fun k => ?_⟩
  unfold cIL
  repeat (first | decide | split)
theorem mm_set_2 {G : Nat → Option va_E} {a b x : Nat} {e f g : va_E} (h : G x = some g) (n1 : x ≠ a) (n2 : x ≠ b) : mm_set (mm_set G a e) b f x = some g := mm_set_of (mm_set_of h n1) n2
set_option maxHeartbeats 4000000 in
set_option maxRecDepth 100000 in
theorem c_P_write (l : Launch) (D : va_G) (cy : Nat → ClassId) (A : Nat → Prop) (X : State → Prop) (hst : mk_St A X) (hXT : ∀ U : State, X U → TB U) (e0 : Nat) (tk : Nat → Nat) (hXE : ∀ U : State, X U → ES e0 tk A U) (mi : Nat) (hXL : ∀ U : State, X U → EL e0 mi A U) (ax adK adV : Nat → Nat) (hXX : ∀ U : State, X U → TX ax adK adV tk A U) (G : Nat → Option va_E) (G0 : Nat → Option va_E) (Bx : Nat → Prop) (v : EdV) (z : PtV) (LA EA : Nat → Nat) (AD : Nat → Nat → Nat) (PI : Nat → Nat) (c9 : Nat) (P9 : PdT) (p9 sz : Nat) (to ro ln : Nat) (fo9 : Nat → Int32) (hP : EDP cy e0 tk G0 Bx G v (z.r_pd c9 P9) LA EA AD PI) (hZ : ZF v AD z) (hc9 : c9 < v.nS) (hp9 : p9 < v.nP c9) (hWd : WDv v) (hto : G to = some (.inr (7, [.ref ro, .int (nI ln)]))) (hro : G ro = some (.inl (cy 0, 64, .inl fo9))) (hln : ln ≤ 64) (hBt : Bx to) (hBr : Bx ro) (hsz : (P9 p9).2.1 = nI sz) (hls : ln + sz ≤ 64) : Met l yX8_write [.code yX8_write cX8_write 4 none] ({ frames := 1, cells := 0, slots := 0, locals := 30 }) (mk_Pre D vwCl (tyL cy) A X G [.ref (AD (20 + c9) p9), .ref to]) (va_Qv (fun (G2 : Nat → Option va_E) => G2 to = some (.inr (7, [.ref ro, .int (nI (ln + sz))])) ∧ G2 ro = some (.inl (cy 0, 64, .inl (wrF ((P9 p9).2.2.1) (cwN v c9 p9) ln fo9 sz))) ∧ EDP cy e0 tk G0 Bx G2 v (z.r_pd c9 P9) LA EA AD PI ∧ ∀ (x : Nat) (e : va_E), G x = some e → x ≠ to → x ≠ ro → G2 x = some e) (mk_B D vwCl A) A) 0 0 A := by
  refine Met.ofW (cc := cX8_write) (maxL := 4) (ret := none) (by decide) rfl ?_
  intro p e s m args below meth c s₁ B hml hv
  obtain ⟨rfl, hG, hK, hA, hX⟩ := hv
  have hx := B.exec
  have hb := B.bytes
  have hr := B.returns
  have hlocks := B.notSynchronized
  have hT := hXT s hX
  have hown : s.vm.findClass RX8 = some m.cls := findClass_of_methodNamed B.named
  have hf_X8 : ∀ w ∈ u_ws RX8 TX8 15, w.before ([.ref (AD (20 + c9) p9), .ref to] : List Value).toArray s = true := tb_list hT fX8
  have hf_X1 : ∀ w ∈ u_ws RX1 TX1 10, w.before ([.ref (AD (20 + c9) p9), .ref to] : List Value).toArray s = true := tb_list hT fX1
  have hS : va_S A s.heap s.heap [] := va_S.rf
  have hE := hXE s hX
  have hl := lv_entry ([.ref (AD (20 + c9) p9), .ref to]) (n := 4) (Nat.le_of_ble_eq_true rfl)
  rw [lg_entry_eq]
  generalize (lg_sl ([.ref (AD (20 + c9) p9), .ref to]) ++ List.replicate (4 - (lg_sl ([.ref (AD (20 + c9) p9), .ref to])).length) Slot.unset).toArray = ls at hl ⊢
  have hl : lv_has ls 4 [(0, .ref (AD (20 + c9) p9)), (1, .ref to)] := hl
  have hQ := hXX s hX
  have apT := hP.oX cIL_7 hto
  have apR := hP.wW hro
  have hloop : ∀ (n : Nat) (j9 : Nat), (n + j9 = sz) → ∀ (Gv : Nat → Option va_E), (Gv to = some (.inr (7, [.ref ro, .int (nI (ln + j9))]))) → (Gv ro = some (.inl (cy 0, 64, .inl (wrF ((P9 p9).2.2.1) (cwN v c9 p9) ln fo9 j9)))) → (EDP cy e0 tk G0 Bx Gv v (z.r_pd c9 P9) LA EA AD PI) → (∀ (x : Nat) (e : va_E), G x = some e → x ≠ to → x ≠ ro → Gv x = some e) → ∀ (H : Heap) (locs : List Loc), mm D vwCl A Gv H → va_S A s.heap H locs → ∀ ls : Array Slot, lv_has ls 4 [(0, .ref (AD (20 + c9) p9)), (1, .ref to), (2, .int (nI (cwN v c9 p9))), (3, .int (nI j9))] → W p l e (headSpec [.code yX8_write cX8_write 4 none] ({ frames := 1, cells := 0, slots := 0, locals := 30 })).room s m ([.ref (AD (20 + c9) p9), .ref to] : List Value).toArray below meth c H locs 0 0 (MQ below (va_Qv (fun (G2 : Nat → Option va_E) => G2 to = some (.inr (7, [.ref ro, .int (nI (ln + sz))])) ∧ G2 ro = some (.inl (cy 0, 64, .inl (wrF ((P9 p9).2.2.1) (cwN v c9 p9) ln fo9 sz))) ∧ EDP cy e0 tk G0 Bx G2 v (z.r_pd c9 P9) LA EA AD PI ∧ ∀ (x : Nat) (e : va_E), G x = some e → x ≠ to → x ≠ ro → G2 x = some e) (mk_B D vwCl A) A) ([.ref (AD (20 + c9) p9), .ref to] : List Value).toArray s 0 0 A) (F0 m 21 ls []) := by
    intro n
    induction n with
    | zero =>
      intro j9 hjn Gv v_to v_ro hP hfo H locs hG hS ls hl
      have hcw9 : (cwN v c9 p9) ≤ 4 := by unfold cwN; split; omega; rename_i k9 hk9; exact (hWd k9 (cdN_lt hk9)).2.2
      refine lv_iload_n hx hb dX8_write_21 rfl (lv_at hl 3 rfl) ?_
      refine lv_aload_n hx hb dX8_write_22 rfl (lv_at hl 0 rfl) ?_
      have k21 : Gv (AD (20 + c9) p9) = some (.inr (9, [.int (nI (p9 + 1)), .int ((v.P c9 p9).1), .long ((v.P c9 p9).2.1), .long ((v.P c9 p9).2.2.1), .int ((v.P c9 p9).2.2.2.1), va_rf ((cdN v ((v.P c9 p9).2.2.1)).map (AD 0)), .int ((v.P c9 p9).2.2.2.2.1), .long ((v.P c9 p9).2.2.2.2.2.1), .int ((v.P c9 p9).2.2.2.2.2.2.1), va_rf ((peI v c9 p9).map (AD (20 + c9))), .int ((v.P c9 p9).2.2.2.2.2.2.2), .int ((P9 p9).1), .int ((P9 p9).2.1), .long ((P9 p9).2.2.1), .long ((P9 p9).2.2.2)])) := by rw [← (hZ.2.2.1 c9 hc9 p9 hp9).1, ← (hZ.2.2.1 c9 hc9 p9 hp9).2]; have z9 := hP.elP hc9 hp9; rw [r_pd_at] at z9; exact z9
      refine mm_get (v := .int ((P9 p9).2.1)) hx hb hf_X8 (fun _ h9 => h9) hown hK hG k21 rfl 12 (by decide) (tb_use hT tw_806) (fun _ h9 => h9) rfl dX8_write_23 ?_
      refine lv_icmp_ge (tgt := 62) hx hb dX8_write_26 (by decide) (fun c_26 => ?_) (fun c_26 => ?_)
      · skip
        have hj9 : j9 = sz := by omega
        rw [hj9] at v_to v_ro
        exact W.vret hx hb hr (fun t ht hW => ⟨⟨_, rfl, ⟨v_to, v_ro, hP, hfo⟩, mk_end hG ht⟩, hS.F ht⟩) hS.2.2 dX8_write_62
      · skip
        exact absurd (by rw [hsz, show j9 = sz by omega]; exact Int32.le_refl _) c_26
    | succ n ih =>
      intro j9 hjn Gv v_to v_ro hP hfo H locs hG hS ls hl
      have hcw9 : (cwN v c9 p9) ≤ 4 := by unfold cwN; split; omega; rename_i k9 hk9; exact (hWd k9 (cdN_lt hk9)).2.2
      refine lv_iload_n hx hb dX8_write_21 rfl (lv_at hl 3 rfl) ?_
      refine lv_aload_n hx hb dX8_write_22 rfl (lv_at hl 0 rfl) ?_
      have k22 : Gv (AD (20 + c9) p9) = some (.inr (9, [.int (nI (p9 + 1)), .int ((v.P c9 p9).1), .long ((v.P c9 p9).2.1), .long ((v.P c9 p9).2.2.1), .int ((v.P c9 p9).2.2.2.1), va_rf ((cdN v ((v.P c9 p9).2.2.1)).map (AD 0)), .int ((v.P c9 p9).2.2.2.2.1), .long ((v.P c9 p9).2.2.2.2.2.1), .int ((v.P c9 p9).2.2.2.2.2.2.1), va_rf ((peI v c9 p9).map (AD (20 + c9))), .int ((v.P c9 p9).2.2.2.2.2.2.2), .int ((P9 p9).1), .int ((P9 p9).2.1), .long ((P9 p9).2.2.1), .long ((P9 p9).2.2.2)])) := by rw [← (hZ.2.2.1 c9 hc9 p9 hp9).1, ← (hZ.2.2.1 c9 hc9 p9 hp9).2]; have z9 := hP.elP hc9 hp9; rw [r_pd_at] at z9; exact z9
      refine mm_get (v := .int ((P9 p9).2.1)) hx hb hf_X8 (fun _ h9 => h9) hown hK hG k22 rfl 12 (by decide) (tb_use hT tw_806) (fun _ h9 => h9) rfl dX8_write_23 ?_
      refine lv_icmp_ge (tgt := 62) hx hb dX8_write_26 (by decide) (fun c_26 => ?_) (fun c_26 => ?_)
      · skip
        exact absurd c_26 (by rw [hsz]; exact nI_ge (by omega) (by omega))
      · skip
        refine lv_aload_n hx hb dX8_write_29 rfl (lv_at hl 1 rfl) ?_
        refine lv_iload_n hx hb dX8_write_30 rfl (lv_at hl 3 rfl) ?_
        refine lv_iload_n hx hb dX8_write_31 rfl (lv_at hl 2 rfl) ?_
        refine lv_icmp_ge (tgt := 52) hx hb dX8_write_32 (by decide) (fun c_32 => ?_) (fun c_32 => ?_)
        · skip
          refine lv_iconst (v := 0) hx hb dX8_write_52 (by decide) ?_
          refine va_callv (va_runV (As := [.int 0]) (rest := []) ⟨hx, hb, hml, hown, (fun _ h9 => absurd h9 List.not_mem_nil : ∀ w ∈ ([] : List Cond), w.before _ s = true)⟩ (c_X6_add l D cy A X hst hXT Gv to ro (nI (ln + j9)) 0 (wrF ((P9 p9).2.2.1) (cwN v c9 p9) ln fo9 j9) v_to v_ro (nI_pos (by omega)) (nI_lt (b := 64) (by omega) (by decide))) (tb_cw (C := RX6) 1 hT tw_1182 tw_108 tw_1209 tw_1180 tw_1181 rfl rfl hq_X6_add ⟨Nat.le_of_ble_eq_true rfl, Nat.le_of_ble_eq_true rfl⟩) (mk_preC hst hG hK hA hX hS vc_7 v_to) rfl rfl hl.1 rfl (lv_room (Nat.le_of_ble_eq_true rfl)) dX8_write_53 ⟨Nat.le_of_ble_eq_true rfl, Nat.le_of_ble_eq_true rfl⟩) hS (fun q _ h => h) (fun q h => h) (fun  G23 t H locs ht hvm hw hB hz1 hk1 hS => ?_)
          have hG : mm D vwCl A G23 H := by rw [← ht]; exact hB
          clear hB hz1 hk1 hvm ht
          rw [nI_clamp (n := (ln + j9)) (by omega)] at hw
          have ne_tr : to ≠ ro := mm_ne_oa v_to v_ro
          have k24 : G23 to = some (.inr (7, [.ref ro, .int (nI ((ln + j9) + 1))])) := by rw [hw, nI_succ]; exact mm_set_self
          have k25 : G23 ro = some (.inl (cy 0, 64, .inl (upd (wrF ((P9 p9).2.2.1) (cwN v c9 p9) ln fo9 j9) (ln + j9) (vp_nar .byte ((0 : Int32).toInt8.toInt32))))) := by rw [hw]; exact mm_set_of mm_set_self (Ne.symm ne_tr)
          have hP26 : EDP cy e0 tk G0 Bx G23 v (z.r_pd c9 P9) LA EA AD PI := hP.mvG (fun y => y = to ∨ y = ro) (fun y hy => hy.elim (fun h => by rw [h]; exact hBt) (fun h => by rw [h]; exact hBr)) (fun i hi z => z.elim (apT.1 i hi) (apR.1 i hi)) (fun i hi n z => z.elim (apT.2.1 i hi n) (apR.2.1 i hi n)) (fun i j hi hj z => z.elim (apT.2.2.1 i j hi hj) (apR.2.2.1 i j hi hj)) (fun i hi z => z.elim (apT.2.2.2 i hi) (apR.2.2.2 i hi)) (fun y hy => hy.elim (fun h => by rw [h]; exact ⟨_, k24⟩) (fun h => by rw [h]; exact ⟨_, k25⟩)) (fun x e h1 n1 => by rw [hw]; exact mm_set_2 h1 (fun z => n1 (Or.inr z)) (fun z => n1 (Or.inl z)))
          have k27 : G23 (AD (20 + c9) p9) = some (.inr (9, [.int (nI (p9 + 1)), .int ((v.P c9 p9).1), .long ((v.P c9 p9).2.1), .long ((v.P c9 p9).2.2.1), .int ((v.P c9 p9).2.2.2.1), va_rf ((cdN v ((v.P c9 p9).2.2.1)).map (AD 0)), .int ((v.P c9 p9).2.2.2.2.1), .long ((v.P c9 p9).2.2.2.2.2.1), .int ((v.P c9 p9).2.2.2.2.2.2.1), va_rf ((peI v c9 p9).map (AD (20 + c9))), .int ((v.P c9 p9).2.2.2.2.2.2.2), .int ((P9 p9).1), .int ((P9 p9).2.1), .long ((P9 p9).2.2.1), .long ((P9 p9).2.2.2)])) := by rw [hw]; exact mm_set_2 k22 (mm_ne_oa k22 v_ro) (mm_ne_oo k22 v_to (by decide))
          have hfo28 : ∀ (x : Nat) (e : va_E), G x = some e → x ≠ to → x ≠ ro → G23 x = some e := fun x e z9 n1 n2 => by rw [hw]; exact mm_set_2 (hfo x e z9 n1 n2) n2 n1
          clear hw
          obtain ⟨x29, ex29⟩ : ∃ y : Int32, y = (nI j9) + 1 := ⟨_, rfl⟩
          refine lv_iinc (v := x29) (lv' := [(3, .int x29), (0, .ref (AD (20 + c9) p9)), (1, .ref to), (2, .int (nI (cwN v c9 p9)))]) hx hb dX8_write_56 hl (k := 3) rfl (by rw [ex29]; rfl) (by decide) rfl (fun ls hl => ?_)
          refine lv_goto (tgt := 21) hx hb dX8_write_59 (by decide) ?_
          rw [show x29 = nI (j9 + 1) by rw [ex29]; exact (nI_succ j9).symm] at hl
          have hlt9 : ¬ j9 < (cwN v c9 p9) := fun z => absurd c_32 (nI_ge z (by omega))
          have hv9 : (0 : Int32) = wrO ((P9 p9).2.2.1) (cwN v c9 p9) j9 := by rw [wrO, if_neg hlt9]
          have kro9 : G23 ro = some (.inl (cy 0, 64, .inl (wrF ((P9 p9).2.2.1) (cwN v c9 p9) ln fo9 (j9 + 1)))) := by have z := k25; rw [hv9] at z; exact z
          exact ih (j9 + 1) (by omega) G23 k24 kro9 hP26 hfo28 _ _ hG hS ls (lv_sub hl [1, 2, 3, 0] rfl)
        · skip
          refine lv_aload_n hx hb dX8_write_35 rfl (lv_at hl 0 rfl) ?_
          refine mm_get (v := .long ((P9 p9).2.2.1)) hx hb hf_X8 (fun _ h9 => h9) hown hK hG k22 rfl 13 (by decide) (tb_use hT tw_809) (fun _ h9 => h9) rfl dX8_write_36 ?_
          refine lv_bipush (v := 8) hx hb dX8_write_39 (by decide) ?_
          refine lv_iload_n hx hb dX8_write_41 rfl (lv_at hl 2 rfl) ?_
          refine lv_iconst (v := 1) hx hb dX8_write_42 (by decide) ?_
          refine lv_isub hx hb dX8_write_43 ?_
          refine lv_iload_n hx hb dX8_write_44 rfl (lv_at hl 3 rfl) ?_
          refine lv_isub hx hb dX8_write_45 ?_
          refine lv_imul hx hb dX8_write_46 ?_
          obtain ⟨x30, ex30⟩ : ∃ y, y = ((P9 p9).2.2.1 : Int64) >>> (((8 * (((nI (cwN v c9 p9)) - 1) - (nI j9))) : Int32).toInt64 &&& 63) := ⟨_, rfl⟩
          refine lv_lshr (v := x30) hx hb dX8_write_47 ex30.symm ?_
          obtain ⟨x31, ex31⟩ : ∃ y, y = (x30 : Int64).toInt32 := ⟨_, rfl⟩
          refine lv_l2i (v := x31) hx hb dX8_write_48 ex31.symm ?_
          refine lv_goto (tgt := 53) hx hb dX8_write_49 (by decide) ?_
          refine va_callv (va_runV (As := [.int x31]) (rest := []) ⟨hx, hb, hml, hown, (fun _ h9 => absurd h9 List.not_mem_nil : ∀ w ∈ ([] : List Cond), w.before _ s = true)⟩ (c_X6_add l D cy A X hst hXT Gv to ro (nI (ln + j9)) x31 (wrF ((P9 p9).2.2.1) (cwN v c9 p9) ln fo9 j9) v_to v_ro (nI_pos (by omega)) (nI_lt (b := 64) (by omega) (by decide))) (tb_cw (C := RX6) 1 hT tw_1182 tw_108 tw_1209 tw_1180 tw_1181 rfl rfl hq_X6_add ⟨Nat.le_of_ble_eq_true rfl, Nat.le_of_ble_eq_true rfl⟩) (mk_preC hst hG hK hA hX hS vc_7 v_to) rfl rfl hl.1 rfl (lv_room (Nat.le_of_ble_eq_true rfl)) dX8_write_53 ⟨Nat.le_of_ble_eq_true rfl, Nat.le_of_ble_eq_true rfl⟩) hS (fun q _ h => h) (fun q h => h) (fun  G32 t H locs ht hvm hw hB hz1 hk1 hS => ?_)
          have hG : mm D vwCl A G32 H := by rw [← ht]; exact hB
          clear hB hz1 hk1 hvm ht
          rw [nI_clamp (n := (ln + j9)) (by omega)] at hw
          have ne_tr : to ≠ ro := mm_ne_oa v_to v_ro
          have k33 : G32 to = some (.inr (7, [.ref ro, .int (nI ((ln + j9) + 1))])) := by rw [hw, nI_succ]; exact mm_set_self
          have k34 : G32 ro = some (.inl (cy 0, 64, .inl (upd (wrF ((P9 p9).2.2.1) (cwN v c9 p9) ln fo9 j9) (ln + j9) (vp_nar .byte ((x31 : Int32).toInt8.toInt32))))) := by rw [hw]; exact mm_set_of mm_set_self (Ne.symm ne_tr)
          have hP35 : EDP cy e0 tk G0 Bx G32 v (z.r_pd c9 P9) LA EA AD PI := hP.mvG (fun y => y = to ∨ y = ro) (fun y hy => hy.elim (fun h => by rw [h]; exact hBt) (fun h => by rw [h]; exact hBr)) (fun i hi z => z.elim (apT.1 i hi) (apR.1 i hi)) (fun i hi n z => z.elim (apT.2.1 i hi n) (apR.2.1 i hi n)) (fun i j hi hj z => z.elim (apT.2.2.1 i j hi hj) (apR.2.2.1 i j hi hj)) (fun i hi z => z.elim (apT.2.2.2 i hi) (apR.2.2.2 i hi)) (fun y hy => hy.elim (fun h => by rw [h]; exact ⟨_, k33⟩) (fun h => by rw [h]; exact ⟨_, k34⟩)) (fun x e h1 n1 => by rw [hw]; exact mm_set_2 h1 (fun z => n1 (Or.inr z)) (fun z => n1 (Or.inl z)))
          have k36 : G32 (AD (20 + c9) p9) = some (.inr (9, [.int (nI (p9 + 1)), .int ((v.P c9 p9).1), .long ((v.P c9 p9).2.1), .long ((v.P c9 p9).2.2.1), .int ((v.P c9 p9).2.2.2.1), va_rf ((cdN v ((v.P c9 p9).2.2.1)).map (AD 0)), .int ((v.P c9 p9).2.2.2.2.1), .long ((v.P c9 p9).2.2.2.2.2.1), .int ((v.P c9 p9).2.2.2.2.2.2.1), va_rf ((peI v c9 p9).map (AD (20 + c9))), .int ((v.P c9 p9).2.2.2.2.2.2.2), .int ((P9 p9).1), .int ((P9 p9).2.1), .long ((P9 p9).2.2.1), .long ((P9 p9).2.2.2)])) := by rw [hw]; exact mm_set_2 k22 (mm_ne_oa k22 v_ro) (mm_ne_oo k22 v_to (by decide))
          have hfo37 : ∀ (x : Nat) (e : va_E), G x = some e → x ≠ to → x ≠ ro → G32 x = some e := fun x e z9 n1 n2 => by rw [hw]; exact mm_set_2 (hfo x e z9 n1 n2) n2 n1
          clear hw
          obtain ⟨x38, ex38⟩ : ∃ y : Int32, y = (nI j9) + 1 := ⟨_, rfl⟩
          refine lv_iinc (v := x38) (lv' := [(3, .int x38), (0, .ref (AD (20 + c9) p9)), (1, .ref to), (2, .int (nI (cwN v c9 p9)))]) hx hb dX8_write_56 hl (k := 3) rfl (by rw [ex38]; rfl) (by decide) rfl (fun ls hl => ?_)
          refine lv_goto (tgt := 21) hx hb dX8_write_59 (by decide) ?_
          rw [show x38 = nI (j9 + 1) by rw [ex38]; exact (nI_succ j9).symm] at hl
          have hlt9 : j9 < (cwN v c9 p9) := nI_lt_of (by omega) (by omega) c_32
          have hv9 : x31 = wrO ((P9 p9).2.2.1) (cwN v c9 p9) j9 := by rw [wrO, if_pos hlt9, ex31, ex30]
          have kro9 : G32 ro = some (.inl (cy 0, 64, .inl (wrF ((P9 p9).2.2.1) (cwN v c9 p9) ln fo9 (j9 + 1)))) := by have z := k34; rw [hv9] at z; exact z
          exact ih (j9 + 1) (by omega) G32 k33 kro9 hP35 hfo37 _ _ hG hS ls (lv_sub hl [1, 2, 3, 0] rfl)
  refine lv_aload_n hx hb dX8_write_0 rfl (lv_at hl 0 rfl) ?_
  have k39 : G (AD (20 + c9) p9) = some (.inr (9, [.int (nI (p9 + 1)), .int ((v.P c9 p9).1), .long ((v.P c9 p9).2.1), .long ((v.P c9 p9).2.2.1), .int ((v.P c9 p9).2.2.2.1), va_rf ((cdN v ((v.P c9 p9).2.2.1)).map (AD 0)), .int ((v.P c9 p9).2.2.2.2.1), .long ((v.P c9 p9).2.2.2.2.2.1), .int ((v.P c9 p9).2.2.2.2.2.2.1), va_rf ((peI v c9 p9).map (AD (20 + c9))), .int ((v.P c9 p9).2.2.2.2.2.2.2), .int ((P9 p9).1), .int ((P9 p9).2.1), .long ((P9 p9).2.2.1), .long ((P9 p9).2.2.2)])) := by rw [← (hZ.2.2.1 c9 hc9 p9 hp9).1, ← (hZ.2.2.1 c9 hc9 p9 hp9).2]; have z9 := hP.elP hc9 hp9; rw [r_pd_at] at z9; exact z9
  refine mm_get (v := va_rf ((cdN v ((v.P c9 p9).2.2.1)).map (AD 0))) hx hb hf_X8 (fun _ h9 => h9) hown hK hG k39 rfl 5 (by decide) (tb_use hT tw_783) (fun _ h9 => h9) rfl dX8_write_1 ?_
  obtain ⟨y_hf40, hf40⟩ : ∃ y, cdN v ((v.P c9 p9).2.2.1) = y := ⟨_, rfl⟩
  cases y_hf40 with
  | none =>
    refine W.eq (g2 := F0 m 4 ls [.null]) (by first | rfl | (rw [hf40]; rfl)) ?_
    refine lv_ifnonnullN hx hb dX8_write_4 ?_
    refine lv_iconst (v := 0) hx hb dX8_write_7 (by decide) ?_
    refine lv_goto (tgt := 18) hx hb dX8_write_8 (by decide) ?_
    rw [show (0 : Int32) = nI (cwN v c9 p9) by rw [cwN, hf40]; rfl]
    refine lv_istore_n (lv' := [(2, .int (nI (cwN v c9 p9))), (0, .ref (AD (20 + c9) p9)), (1, .ref to)]) hx hb dX8_write_18 rfl hl (by decide) rfl (fun ls hl => ?_)
    refine lv_iconst (v := 0) hx hb dX8_write_19 (by decide) ?_
    refine lv_istore_n (lv' := [(3, .int 0), (2, .int (nI (cwN v c9 p9))), (0, .ref (AD (20 + c9) p9)), (1, .ref to)]) hx hb dX8_write_20 rfl hl (by decide) rfl (fun ls hl => ?_)
    exact hloop sz 0 (by omega) G hto hro hP (fun x e z _ _ => z) _ _ hG hS ls (lv_sub hl [2, 3, 1, 0] rfl)
  | some j41 =>
    have hj42 := cdN_lt hf40
    refine W.eq (g2 := F0 m 4 ls [.ref (AD 0 j41)]) (by first | rfl | (rw [hf40]; rfl)) ?_
    refine lv_ifnonnull (tgt := 11) hx hb dX8_write_4 (by decide) ?_
    refine lv_aload_n hx hb dX8_write_11 rfl (lv_at hl 0 rfl) ?_
    refine mm_get (v := va_rf ((cdN v ((v.P c9 p9).2.2.1)).map (AD 0))) hx hb hf_X8 (fun _ h9 => h9) hown hK hG k39 rfl 5 (by decide) (tb_use hT tw_783) (fun _ h9 => h9) rfl dX8_write_12 ?_
    refine W.eq (g2 := F0 m 15 ls [.ref (AD 0 j41)]) (by first | rfl | (rw [hf40]; rfl)) ?_
    have k43 : G (AD 0 j41) = some (.inr (2, [.int (nI (j41 + 1)), .int ((v.C j41).1.1), .long ((v.C j41).1.2.1), .ref (LA (6 + j41)), .int ((v.C j41).1.2.2), .int ((v.C j41).2.1), .int ((v.C j41).2.2.1), .long ((v.C j41).2.2.2.1), .long ((v.C j41).2.2.2.2.1), .long ((v.C j41).2.2.2.2.2)])) := hP.elC hj42
    refine mm_getN (v := .int ((v.C j41).1.2.2)) hx hb hf_X1 (fun _ h9 => h9) hown hK hG k43 rfl 4 (by decide) (tb_use hT tw_501) (fun _ h9 => h9) rfl dX8_write_15 ?_
    rw [show (v.C j41).1.2.2 = nI (cwN v c9 p9) by rw [cwN, hf40]; exact (hWd j41 hj42).1]
    refine lv_istore_n (lv' := [(2, .int (nI (cwN v c9 p9))), (0, .ref (AD (20 + c9) p9)), (1, .ref to)]) hx hb dX8_write_18 rfl hl (by decide) rfl (fun ls hl => ?_)
    refine lv_iconst (v := 0) hx hb dX8_write_19 (by decide) ?_
    refine lv_istore_n (lv' := [(3, .int 0), (2, .int (nI (cwN v c9 p9))), (0, .ref (AD (20 + c9) p9)), (1, .ref to)]) hx hb dX8_write_20 rfl hl (by decide) rfl (fun ls hl => ?_)
    exact hloop sz 0 (by omega) G hto hro hP (fun x e z _ _ => z) _ _ hG hS ls (lv_sub hl [2, 3, 1, 0] rfl)

set_option maxHeartbeats 4000000 in
set_option maxRecDepth 100000 in
theorem c_P_make (l : Launch) (D : va_G) (cy : Nat → ClassId) (A : Nat → Prop) (X : State → Prop) (hst : mk_St A X) (hXT : ∀ U : State, X U → TB U) (e0 : Nat) (tk : Nat → Nat) (hXE : ∀ U : State, X U → ES e0 tk A U) (mi : Nat) (hXL : ∀ U : State, X U → EL e0 mi A U) (ax adK adV : Nat → Nat) (hXX : ∀ U : State, X U → TX ax adK adV tk A U) (G : Nat → Option va_E) (G0 : Nat → Option va_E) (Bx : Nat → Prop) (v : EdV) (z : PtV) (LA EA : Nat → Nat) (AD : Nat → Nat → Nat) (PI : Nat → Nat) (c9 : Nat) (P9 : PdT) (to ro ln : Nat) (fo9 : Nat → Int32) (hP : EDP cy e0 tk G0 Bx G v (z.r_pd c9 P9) LA EA AD PI) (hZ : ZF v AD z) (hc9 : c9 < v.nS) (hWd : WDv v) (hto : G to = some (.inr (7, [.ref ro, .int (nI ln)]))) (hro : G ro = some (.inl (cy 0, 64, .inl fo9))) (hln : ln ≤ 64) (hBt : Bx to) (hBr : Bx ro) : Met l yX10_make [.code yX10_make cX10_make 5 none] ({ frames := 4, cells := 0, slots := 0, locals := 120 }) (mk_Pre D vwCl (tyL cy) A X G [.ref (AD 2 c9), .ref to]) (va_Qv (fun (G2 : Nat → Option va_E) => G2 to = some (.inr (7, [.ref ro, .int (nI (maF v c9 P9 fo9).2.1)])) ∧ G2 ro = some (.inl (cy 0, 64, .inl ((maF v c9 P9 fo9).2.2))) ∧ EDP cy e0 tk G0 Bx G2 v (z.r_pd c9 (maF v c9 P9 fo9).1) LA EA AD PI ∧ (∀ (x : Nat) (e : va_E), G x = some e → x ≠ to → x ≠ ro → (∀ i, i < v.nP c9 → x ≠ AD (20 + c9) i) → G2 x = some e) ∧ (maF v c9 P9 fo9).2.1 ≤ 64) (mk_B D vwCl A) A) 0 0 A := by
  refine Met.ofW (cc := cX10_make) (maxL := 5) (ret := none) (by decide) rfl ?_
  intro p e s m args below meth c s₁ B hml hv
  obtain ⟨rfl, hG, hK, hA, hX⟩ := hv
  have hx := B.exec
  have hb := B.bytes
  have hr := B.returns
  have hlocks := B.notSynchronized
  have hT := hXT s hX
  have hown : s.vm.findClass RX10 = some m.cls := findClass_of_methodNamed B.named
  have hf_X10 : ∀ w ∈ u_ws RX10 TX10 6, w.before ([.ref (AD 2 c9), .ref to] : List Value).toArray s = true := tb_list hT fX10
  have hf_X6 : ∀ w ∈ u_ws RX6 TX6 2, w.before ([.ref (AD 2 c9), .ref to] : List Value).toArray s = true := tb_list hT fX6
  have hf_X8 : ∀ w ∈ u_ws RX8 TX8 15, w.before ([.ref (AD 2 c9), .ref to] : List Value).toArray s = true := tb_list hT fX8
  have hS : va_S A s.heap s.heap [] := va_S.rf
  have hE := hXE s hX
  have hl := lv_entry ([.ref (AD 2 c9), .ref to]) (n := 5) (Nat.le_of_ble_eq_true rfl)
  rw [lg_entry_eq]
  generalize (lg_sl ([.ref (AD 2 c9), .ref to]) ++ List.replicate (5 - (lg_sl ([.ref (AD 2 c9), .ref to])).length) Slot.unset).toArray = ls at hl ⊢
  have hl : lv_has ls 5 [(0, .ref (AD 2 c9)), (1, .ref to)] := hl
  have hQ := hXX s hX
  have apT := hP.oX cIL_7 hto
  have apR := hP.wW hro
  obtain ⟨RF, hR⟩ : ∃ y, (maF v c9 P9 fo9) = y := ⟨_, rfl⟩
  have hloop : ∀ (n : Nat) (j9 lm : Nat) (PP : PdT) (fm : Nat → Int32), (n + j9 = v.nP c9) → (lm ≤ 64) → (mkF v c9 n j9 lm PP fm = RF) → ∀ (Gv : Nat → Option va_E), (Gv to = some (.inr (7, [.ref ro, .int (nI lm)]))) → (Gv ro = some (.inl (cy 0, 64, .inl fm))) → (EDP cy e0 tk G0 Bx Gv v (z.r_pd c9 PP) LA EA AD PI) → (∀ (x : Nat) (e : va_E), G x = some e → x ≠ to → x ≠ ro → (∀ i, i < v.nP c9 → x ≠ AD (20 + c9) i) → Gv x = some e) → ∀ (H : Heap) (locs : List Loc), mm D vwCl A Gv H → va_S A s.heap H locs → ∀ ls : Array Slot, lv_has ls 5 [(0, .ref (AD 2 c9)), (1, .ref to), (2, .int (nI j9))] → W p l e (headSpec [.code yX10_make cX10_make 5 none] ({ frames := 4, cells := 0, slots := 0, locals := 120 })).room s m ([.ref (AD 2 c9), .ref to] : List Value).toArray below meth c H locs 0 0 (MQ below (va_Qv (fun (G2 : Nat → Option va_E) => G2 to = some (.inr (7, [.ref ro, .int (nI (maF v c9 P9 fo9).2.1)])) ∧ G2 ro = some (.inl (cy 0, 64, .inl ((maF v c9 P9 fo9).2.2))) ∧ EDP cy e0 tk G0 Bx G2 v (z.r_pd c9 (maF v c9 P9 fo9).1) LA EA AD PI ∧ (∀ (x : Nat) (e : va_E), G x = some e → x ≠ to → x ≠ ro → (∀ i, i < v.nP c9 → x ≠ AD (20 + c9) i) → G2 x = some e) ∧ (maF v c9 P9 fo9).2.1 ≤ 64) (mk_B D vwCl A) A) ([.ref (AD 2 c9), .ref to] : List Value).toArray s 0 0 A) (F0 m 22 ls []) := by
    intro n
    induction n with
    | zero =>
      intro j9 lm PP fm hjn hlm hq Gv v_to v_ro hP hfo H locs hG hS ls hl
      have hbb := hP.b
      have hb2 := (hP.lsP hc9).le
      have hw32 := wsN_le hWd c9 j9 PP
      refine lv_iload_n hx hb dX10_make_22 rfl (lv_at hl 2 rfl) ?_
      refine lv_aload_n hx hb dX10_make_23 rfl (lv_at hl 0 rfl) ?_
      have k21 : Gv (AD 2 c9) = some (.inr (11, [.int (nI (c9 + 1)), .ref (AD 1 (v.S c9).1), .int ((v.S c9).2.1), .long ((v.S c9).2.2.1), .ref (LA (20 + c9)), .int ((v.S c9).2.2.2)])) := hP.elS hc9
      refine mm_get (v := .ref (LA (20 + c9))) hx hb hf_X10 (fun _ h9 => h9) hown hK hG k21 rfl 4 (by decide) (tb_use hT tw_738) (fun _ h9 => h9) rfl dX10_make_24 ?_
      obtain ⟨mo22, h_mo22, -⟩ := id (hP.lsP hc9)
      refine va_calli (va_runV (As := []) (rest := [.int (nI j9)]) ⟨hx, hb, hml, hown, (fun _ h9 => absurd h9 List.not_mem_nil : ∀ w ∈ ([] : List Cond), w.before _ s = true)⟩ (c_LS_size l D cy A X hst hXT e0 tk hXE mi hXL Gv (LA (20 + c9)) (EA (20 + c9)) (v.nP c9) (AD (20 + c9)) (hP.lsP hc9)) (tb_cw (C := RJx4a65c) 0 hT tw_457 tw_113 tw_1048 tw_455 tw_456 rfl rfl hq_Jx4a65c_size_8abf5 ⟨Nat.le_of_ble_eq_true rfl, Nat.le_of_ble_eq_true rfl⟩) (mk_preC hst hG hK hA hX hS vc_1 h_mo22) rfl rfl hl.1 rfl (lv_room (Nat.le_of_ble_eq_true rfl)) dX10_make_27 ⟨Nat.le_of_ble_eq_true rfl, Nat.le_of_ble_eq_true rfl⟩) hS (fun q _ h => h) (fun q h => h) (fun r23 G24 t H locs ht hvm hw hB hz1 hk1 hS => ?_)
      have hG : mm D vwCl A G24 H := by rw [← ht]; exact hB
      clear hB hz1 hk1 hvm ht
      obtain ⟨rfl, hw⟩ := hw
      rw [hw] at hG
      refine lv_icmp_ge (tgt := 89) hx hb dX10_make_30 (by decide) (fun c_30 => ?_) (fun c_30 => ?_)
      · skip
        have hz : RF = (PP, lm, fm) := by rw [← hq]; first | rfl | (rw [show n = 0 by omega]; rfl)
        exact W.vret hx hb hr (fun t ht hW => ⟨⟨_, rfl, (by rw [hR, hz]; exact ⟨v_to, v_ro, hP, hfo, hlm⟩), mk_end hG ht⟩, hS.F ht⟩) hS.2.2 dX10_make_89
      · skip
        exact absurd (by rw [show j9 = v.nP c9 by omega]; exact Int32.le_refl _) c_30
    | succ n ih =>
      intro j9 lm PP fm hjn hlm hq Gv v_to v_ro hP hfo H locs hG hS ls hl
      have hbb := hP.b
      have hb2 := (hP.lsP hc9).le
      have hw32 := wsN_le hWd c9 j9 PP
      refine lv_iload_n hx hb dX10_make_22 rfl (lv_at hl 2 rfl) ?_
      refine lv_aload_n hx hb dX10_make_23 rfl (lv_at hl 0 rfl) ?_
      have k25 : Gv (AD 2 c9) = some (.inr (11, [.int (nI (c9 + 1)), .ref (AD 1 (v.S c9).1), .int ((v.S c9).2.1), .long ((v.S c9).2.2.1), .ref (LA (20 + c9)), .int ((v.S c9).2.2.2)])) := hP.elS hc9
      refine mm_get (v := .ref (LA (20 + c9))) hx hb hf_X10 (fun _ h9 => h9) hown hK hG k25 rfl 4 (by decide) (tb_use hT tw_738) (fun _ h9 => h9) rfl dX10_make_24 ?_
      obtain ⟨mo26, h_mo26, -⟩ := id (hP.lsP hc9)
      refine va_calli (va_runV (As := []) (rest := [.int (nI j9)]) ⟨hx, hb, hml, hown, (fun _ h9 => absurd h9 List.not_mem_nil : ∀ w ∈ ([] : List Cond), w.before _ s = true)⟩ (c_LS_size l D cy A X hst hXT e0 tk hXE mi hXL Gv (LA (20 + c9)) (EA (20 + c9)) (v.nP c9) (AD (20 + c9)) (hP.lsP hc9)) (tb_cw (C := RJx4a65c) 0 hT tw_457 tw_113 tw_1048 tw_455 tw_456 rfl rfl hq_Jx4a65c_size_8abf5 ⟨Nat.le_of_ble_eq_true rfl, Nat.le_of_ble_eq_true rfl⟩) (mk_preC hst hG hK hA hX hS vc_1 h_mo26) rfl rfl hl.1 rfl (lv_room (Nat.le_of_ble_eq_true rfl)) dX10_make_27 ⟨Nat.le_of_ble_eq_true rfl, Nat.le_of_ble_eq_true rfl⟩) hS (fun q _ h => h) (fun q h => h) (fun r27 G28 t H locs ht hvm hw hB hz1 hk1 hS => ?_)
      have hG : mm D vwCl A G28 H := by rw [← ht]; exact hB
      clear hB hz1 hk1 hvm ht
      obtain ⟨rfl, hw⟩ := hw
      rw [hw] at hG
      refine lv_icmp_ge (tgt := 89) hx hb dX10_make_30 (by decide) (fun c_30 => ?_) (fun c_30 => ?_)
      · skip
        exact absurd c_30 (nI_ge (by omega) (by omega))
      · skip
        refine lv_aload_n hx hb dX10_make_33 rfl (lv_at hl 0 rfl) ?_
        refine mm_get (v := .ref (LA (20 + c9))) hx hb hf_X10 (fun _ h9 => h9) hown hK hG k25 rfl 4 (by decide) (tb_use hT tw_738) (fun _ h9 => h9) rfl dX10_make_34 ?_
        refine lv_iload_n hx hb dX10_make_37 rfl (lv_at hl 2 rfl) ?_
        have hj29 : j9 < (v.nP c9) := by omega
        obtain ⟨mo30, h_mo30, -⟩ := id (hP.lsP hc9)
        refine va_callq (va_runV (As := [.int (nI j9)]) (rest := []) ⟨hx, hb, hml, hown, (fun _ h9 => absurd h9 List.not_mem_nil : ∀ w ∈ ([] : List Cond), w.before _ s = true)⟩ (c_LS_get l D cy A X hst hXT e0 tk hXE mi hXL Gv (LA (20 + c9)) (EA (20 + c9)) (v.nP c9) (AD (20 + c9)) j9 (hP.lsP hc9) hj29) (tb_cw (C := RJx4a65c) 1 hT tw_942 tw_113 tw_1049 tw_940 tw_941 rfl rfl hq_Jx4a65c_get_915e3 ⟨Nat.le_of_ble_eq_true rfl, Nat.le_of_ble_eq_true rfl⟩) (mk_preC hst hG hK hA hX hS vc_1 h_mo30) rfl rfl hl.1 rfl (lv_room (Nat.le_of_ble_eq_true rfl)) dX10_make_38 ⟨Nat.le_of_ble_eq_true rfl, Nat.le_of_ble_eq_true rfl⟩) hS (fun q _ h => h) (fun q h => h) (fun r31 G32 t H locs ht hvm hw hB hz1 hk1 hS => ?_)
        have hG : mm D vwCl A G32 H := by rw [← ht]; exact hB
        clear hB hz1 hk1 hvm ht
        obtain ⟨rfl, hw⟩ := hw
        rw [hw] at hG
        refine W.eq (g2 := F0 m 41 ls [.ref (AD (20 + c9) j9)]) rfl ?_
        have k33 : Gv (AD (20 + c9) j9) = some (.inr (9, [.int (nI (j9 + 1)), .int ((v.P c9 j9).1), .long ((v.P c9 j9).2.1), .long ((v.P c9 j9).2.2.1), .int ((v.P c9 j9).2.2.2.1), va_rf ((cdN v ((v.P c9 j9).2.2.1)).map (AD 0)), .int ((v.P c9 j9).2.2.2.2.1), .long ((v.P c9 j9).2.2.2.2.2.1), .int ((v.P c9 j9).2.2.2.2.2.2.1), va_rf ((peI v c9 j9).map (AD (20 + c9))), .int ((v.P c9 j9).2.2.2.2.2.2.2), .int ((PP j9).1), .int ((PP j9).2.1), .long ((PP j9).2.2.1), .long ((PP j9).2.2.2)])) := by rw [← (hZ.2.2.1 c9 hc9 j9 hj29).1, ← (hZ.2.2.1 c9 hc9 j9 hj29).2]; have z9 := hP.elP hc9 hj29; rw [r_pd_at] at z9; exact z9
        refine va_castS hx hb hown (tb_use hT tw_1050) (hK.1 9 _ rfl).2 (va_recv hK (hG.one k33) (q := (RX8, TX8, 15)) rfl (q0 := 0) rfl) dX10_make_41 ?_
        refine lv_astore_n (lv' := [(3, .ref (AD (20 + c9) j9)), (0, .ref (AD 2 c9)), (1, .ref to), (2, .int (nI j9))]) hx hb dX10_make_44 rfl hl (by decide) rfl (fun ls hl => ?_)
        refine lv_aload_n hx hb dX10_make_45 rfl (lv_at hl 0 rfl) ?_
        refine va_calli (va_runV (As := []) (rest := []) ⟨hx, hb, hml, hown, (fun _ h9 => absurd h9 List.not_mem_nil : ∀ w ∈ ([] : List Cond), w.before _ s = true)⟩ (c_P_wanted l D cy A X hst hXT e0 tk hXE mi hXL ax adK adV hXX Gv G0 Bx v z LA EA AD PI c9 PP j9 hP hZ hc9 hj29 hWd) (tb_cw (C := RX8) 0 hT tw_1130 tw_129 tw_1127 tw_1128 tw_1129 rfl rfl hq_X8_wantedSize ⟨Nat.le_of_ble_eq_true rfl, Nat.le_of_ble_eq_true rfl⟩) (mk_preC hst hG hK hA hX hS vc_9 k33) rfl rfl hl.1 rfl (lv_room (Nat.le_of_ble_eq_true rfl)) dX10_make_46 ⟨Nat.le_of_ble_eq_true rfl, Nat.le_of_ble_eq_true rfl⟩) hS (fun q _ h => h) (fun q h => h) (fun r34 G35 t H locs ht hvm hw hB hz1 hk1 hS => ?_)
        have hG : mm D vwCl A G35 H := by rw [← ht]; exact hB
        clear hB hz1 hk1 hvm ht
        obtain ⟨er34, hw⟩ := hw
        rw [hw] at hG
        rw [er34]
        refine lv_istore (lv' := [(4, .int (nI (wsN v c9 j9 PP))), (3, .ref (AD (20 + c9) j9)), (0, .ref (AD 2 c9)), (1, .ref to), (2, .int (nI j9))]) hx hb dX10_make_49 hl (by decide) rfl (fun ls hl => ?_)
        refine lv_aload_n hx hb dX10_make_51 rfl (lv_at hl 3 rfl) ?_
        refine mm_getN (v := .int (nI lm)) hx hb hf_X6 (fun _ h9 => h9) hown hK hG v_to rfl 1 (by decide) (tb_use hT tw_202) (fun _ h9 => h9) rfl dX10_make_52 ?_
        refine lv_iload hx hb dX10_make_55 (lv_at hl 0 rfl) ?_
        refine lv_iadd hx hb dX10_make_57 ?_
        rw [nI_add lm (wsN v c9 j9 PP)]
        refine lv_bipush (v := 64) hx hb dX10_make_58 (by decide) ?_
        refine lv_icmp_le (tgt := 64) hx hb dX10_make_60 (by decide) (fun c_60 => ?_) (fun c_60 => ?_)
        · skip
          have hle8 : lm + (wsN v c9 j9 PP) ≤ 64 := nI_ge_of (b := lm + (wsN v c9 j9 PP)) (a := 64) (by decide) (by omega) c_60
          refine lv_aload_n hx hb dX10_make_64 rfl (lv_at hl 1 rfl) ?_
          refine lv_aload_n hx hb dX10_make_65 rfl (lv_at hl 3 rfl) ?_
          refine mm_getN (v := .int (nI lm)) hx hb hf_X6 (fun _ h9 => h9) hown hK hG v_to rfl 1 (by decide) (tb_use hT tw_202) (fun _ h9 => h9) rfl dX10_make_66 ?_
          refine lv_iload hx hb dX10_make_69 (lv_at hl 0 rfl) ?_
          refine lv_aload_n hx hb dX10_make_71 rfl (lv_at hl 1 rfl) ?_
          refine mm_getN (v := .long ((PP j9).2.2.2)) hx hb hf_X8 (fun _ h9 => h9) hown hK hG k33 rfl 14 (by decide) (tb_use hT tw_811) (fun _ h9 => h9) rfl dX10_make_72 ?_
          have hfs0 : ∀ (x : Nat) (e : va_E), Gv x = some e → (∀ i, i < v.nP c9 → x ≠ AD (20 + c9) i) → Gv x = some e := fun x e z _ => z
          refine va_callv (va_runV (As := [.int (nI lm), .int (nI (wsN v c9 j9 PP)), .long ((PP j9).2.2.2)]) (rest := []) ⟨hx, hb, hml, hown, (fun _ h9 => absurd h9 List.not_mem_nil : ∀ w ∈ ([] : List Cond), w.before _ s = true)⟩ (c_X8_lay l D cy A X hst hXT e0 tk hXE Gv (AD (20 + c9) j9) (nI (j9 + 1)) ((v.P c9 j9).1) ((v.P c9 j9).2.2.2.1) ((v.P c9 j9).2.2.2.2.1) ((v.P c9 j9).2.2.2.2.2.2.1) ((v.P c9 j9).2.2.2.2.2.2.2) ((PP j9).1) ((PP j9).2.1) ((v.P c9 j9).2.1) ((v.P c9 j9).2.2.1) ((v.P c9 j9).2.2.2.2.2.1) ((PP j9).2.2.1) ((PP j9).2.2.2) ((cdN v ((v.P c9 j9).2.2.1)).map (AD 0)) ((peI v c9 j9).map (AD (20 + c9))) (nI lm) (nI (wsN v c9 j9 PP)) ((PP j9).2.2.2) k33) (tb_cw (C := RX8) 3 hT tw_1122 tw_129 tw_1119 tw_1120 tw_1121 rfl rfl hq_X8_lay ⟨Nat.le_of_ble_eq_true rfl, Nat.le_of_ble_eq_true rfl⟩) (mk_preC hst hG hK hA hX hS vc_9 k33) rfl rfl hl.1 rfl (lv_room (Nat.le_of_ble_eq_true rfl)) dX10_make_75 ⟨Nat.le_of_ble_eq_true rfl, Nat.le_of_ble_eq_true rfl⟩) hS (fun q _ h => h) (fun q h => h) (fun  G36 t H locs ht hvm hw hB hz1 hk1 hS => ?_)
          have hG : mm D vwCl A G36 H := by rw [← ht]; exact hB
          clear hB hz1 hk1 hvm ht
          have hP37 : EDP cy e0 tk G0 Bx G36 v (z.r_pd c9 (up1 PP j9 ((nI lm), (nI (wsN v c9 j9 PP)), (PP j9).2.2.2, (PP j9).2.2.2))) LA EA AD PI := by
            have z9 := EDP.put_pd hP hc9 hj29 (x := ((nI lm), (nI (wsN v c9 j9 PP)), (PP j9).2.2.2, (PP j9).2.2.2))
            rw [r_s_pd] at z9
            rw [hw]
            have y1 := (hZ.2.2.1 c9 hc9 j9 hj29).1
            have y2 := (hZ.2.2.1 c9 hc9 j9 hj29).2
            rw [← y1, ← y2]
            exact z9
          have hfs38 : ∀ (x : Nat) (e : va_E), Gv x = some e → (∀ i, i < v.nP c9 → x ≠ AD (20 + c9) i) → G36 x = some e := fun x e z9 n1 => by rw [hw]; exact mm_set_of (hfs0 x e z9 n1) (n1 j9 hj29)
          have k39 : G36 to = some (.inr (7, [.ref ro, .int (nI lm)])) := by rw [hw]; exact mm_set_of v_to (mm_ne_oo v_to k33 (by decide))
          have k40 : G36 ro = some (.inl (cy 0, 64, .inl fm)) := by rw [hw]; exact mm_set_of v_ro (mm_ne_ao v_ro k33)
          have k41 : G36 (AD 2 c9) = some (.inr (11, [.int (nI (c9 + 1)), .ref (AD 1 (v.S c9).1), .int ((v.S c9).2.1), .long ((v.S c9).2.2.1), .ref (LA (20 + c9)), .int ((v.S c9).2.2.2)])) := by rw [hw]; exact mm_set_of k25 (mm_ne_oo k25 k33 (by decide))
          clear hw
          have hfo42 : ∀ (x : Nat) (e : va_E), G x = some e → x ≠ to → x ≠ ro → (∀ i, i < v.nP c9 → x ≠ AD (20 + c9) i) → G36 x = some e := fun x e z9 n1 n2 n3 => hfs38 x e (hfo x e z9 n1 n2 n3) n3
          refine lv_aload_n hx hb dX10_make_78 rfl (lv_at hl 1 rfl) ?_
          refine lv_aload_n hx hb dX10_make_79 rfl (lv_at hl 3 rfl) ?_
          have k43 : G36 (AD (20 + c9) j9) = some (.inr (9, [.int (nI (j9 + 1)), .int ((v.P c9 j9).1), .long ((v.P c9 j9).2.1), .long ((v.P c9 j9).2.2.1), .int ((v.P c9 j9).2.2.2.1), va_rf ((cdN v ((v.P c9 j9).2.2.1)).map (AD 0)), .int ((v.P c9 j9).2.2.2.2.1), .long ((v.P c9 j9).2.2.2.2.2.1), .int ((v.P c9 j9).2.2.2.2.2.2.1), va_rf ((peI v c9 j9).map (AD (20 + c9))), .int ((v.P c9 j9).2.2.2.2.2.2.2), .int (((up1 PP j9 ((nI lm), (nI (wsN v c9 j9 PP)), (PP j9).2.2.2, (PP j9).2.2.2)) j9).1), .int (((up1 PP j9 ((nI lm), (nI (wsN v c9 j9 PP)), (PP j9).2.2.2, (PP j9).2.2.2)) j9).2.1), .long (((up1 PP j9 ((nI lm), (nI (wsN v c9 j9 PP)), (PP j9).2.2.2, (PP j9).2.2.2)) j9).2.2.1), .long (((up1 PP j9 ((nI lm), (nI (wsN v c9 j9 PP)), (PP j9).2.2.2, (PP j9).2.2.2)) j9).2.2.2)])) := by rw [← (hZ.2.2.1 c9 hc9 j9 hj29).1, ← (hZ.2.2.1 c9 hc9 j9 hj29).2]; have z9 := hP37.elP hc9 hj29; rw [r_pd_at] at z9; exact z9
          have hsz9 : ((up1 PP j9 ((nI lm), (nI (wsN v c9 j9 PP)), (PP j9).2.2.2, (PP j9).2.2.2)) j9).2.1 = nI (wsN v c9 j9 PP) := by rw [up1_eq]
          refine va_callv (va_runV (As := [.ref to]) (rest := []) ⟨hx, hb, hml, hown, (fun _ h9 => absurd h9 List.not_mem_nil : ∀ w ∈ ([] : List Cond), w.before _ s = true)⟩ (c_P_write l D cy A X hst hXT e0 tk hXE mi hXL ax adK adV hXX G36 G0 Bx v z LA EA AD PI c9 (up1 PP j9 ((nI lm), (nI (wsN v c9 j9 PP)), (PP j9).2.2.2, (PP j9).2.2.2)) j9 (wsN v c9 j9 PP) to ro lm fm hP37 hZ hc9 hj29 hWd k39 k40 (by omega) hBt hBr hsz9 (by omega)) (tb_cw (C := RX8) 1 hT tw_1208 tw_129 tw_1205 tw_1206 tw_1207 rfl rfl hq_X8_write ⟨Nat.le_of_ble_eq_true rfl, Nat.le_of_ble_eq_true rfl⟩) (mk_preC hst hG hK hA hX hS vc_9 k43) rfl rfl hl.1 rfl (lv_room (Nat.le_of_ble_eq_true rfl)) dX10_make_80 ⟨Nat.le_of_ble_eq_true rfl, Nat.le_of_ble_eq_true rfl⟩) hS (fun q _ h => h) (fun q h => h) (fun  G44 t H locs ht hvm hw hB hz1 hk1 hS => ?_)
          have hG : mm D vwCl A G44 H := by rw [← ht]; exact hB
          clear hB hz1 hk1 hvm ht
          obtain ⟨k46, k47, hP45, hf48⟩ := hw
          rw [up1_eq] at k47
          have hfo49 : ∀ (x : Nat) (e : va_E), G x = some e → x ≠ to → x ≠ ro → (∀ i, i < v.nP c9 → x ≠ AD (20 + c9) i) → G44 x = some e := fun x e z9 n1 n2 n3 => hf48 x e (hfo42 x e z9 n1 n2 n3) n1 n2
          obtain ⟨x50, ex50⟩ : ∃ y : Int32, y = (nI j9) + 1 := ⟨_, rfl⟩
          refine lv_iinc (v := x50) (lv' := [(2, .int x50), (4, .int (nI (wsN v c9 j9 PP))), (3, .ref (AD (20 + c9) j9)), (0, .ref (AD 2 c9)), (1, .ref to)]) hx hb dX10_make_83 hl (k := 4) rfl (by rw [ex50]; rfl) (by decide) rfl (fun ls hl => ?_)
          refine lv_goto (tgt := 22) hx hb dX10_make_86 (by decide) ?_
          rw [show x50 = nI (j9 + 1) by rw [ex50]; exact (nI_succ j9).symm] at hl
          have hle9 : lm + (wsN v c9 j9 PP) ≤ 64 := nI_ge_of (b := lm + (wsN v c9 j9 PP)) (a := 64) (by decide) (by omega) c_60
          have hq2 : mkF v c9 n (j9 + 1) (lm + (wsN v c9 j9 PP)) (up1 PP j9 ((nI lm), (nI (wsN v c9 j9 PP)), (PP j9).2.2.2, (PP j9).2.2.2)) (wrF (PP j9).2.2.2 (cwN v c9 j9) lm fm (wsN v c9 j9 PP)) = RF := by rw [← hq, mkF, if_pos hle9]
          exact ih (j9 + 1) (lm + (wsN v c9 j9 PP)) (up1 PP j9 ((nI lm), (nI (wsN v c9 j9 PP)), (PP j9).2.2.2, (PP j9).2.2.2)) (wrF (PP j9).2.2.2 (cwN v c9 j9) lm fm (wsN v c9 j9 PP)) (by omega) (by omega) hq2 G44 k46 k47 hP45 hfo49 _ _ hG hS ls (lv_sub hl [3, 4, 0] rfl)
        · skip
          have hz : RF = (PP, lm, fm) := by rw [← hq, mkF, if_neg (fun z => c_60 (nI_le (b := 64) z (by decide)))]
          exact W.vret hx hb hr (fun t ht hW => ⟨⟨_, rfl, (by rw [hR, hz]; exact ⟨v_to, v_ro, hP, hfo, hlm⟩), mk_end hG ht⟩, hS.F ht⟩) hS.2.2 dX10_make_63
  refine lv_aload_n hx hb dX10_make_0 rfl (lv_at hl 0 rfl) ?_
  have k51 : G (AD 2 c9) = some (.inr (11, [.int (nI (c9 + 1)), .ref (AD 1 (v.S c9).1), .int ((v.S c9).2.1), .long ((v.S c9).2.2.1), .ref (LA (20 + c9)), .int ((v.S c9).2.2.2)])) := hP.elS hc9
  refine va_callv (va_runV (As := []) (rest := []) ⟨hx, hb, hml, hown, (fun _ h9 => absurd h9 List.not_mem_nil : ∀ w ∈ ([] : List Cond), w.before _ s = true)⟩ (c_P_forget l D cy A X hst hXT e0 tk hXE mi hXL ax adK adV hXX G G0 Bx v z LA EA AD PI c9 P9 hP hZ hc9) (tb_cw (C := RX10) 0 hT tw_1118 tw_128 tw_1115 tw_1117 tw_47 rfl rfl hq_X10_forget ⟨Nat.le_of_ble_eq_true rfl, Nat.le_of_ble_eq_true rfl⟩) (mk_preC hst hG hK hA hX hS vc_11 k51) rfl rfl hl.1 rfl (lv_room (Nat.le_of_ble_eq_true rfl)) dX10_make_1 ⟨Nat.le_of_ble_eq_true rfl, Nat.le_of_ble_eq_true rfl⟩) hS (fun q _ h => h) (fun q h => h) (fun  G52 t H locs ht hvm hw hB hz1 hk1 hS => ?_)
  have hG : mm D vwCl A G52 H := by rw [← ht]; exact hB
  clear hB hz1 hk1 hvm ht
  obtain ⟨hP53, hf54⟩ := hw
  have k55 : G52 to = some (.inr (7, [.ref ro, .int (nI ln)])) := hf54 _ _ hto (fun i hi => mm_ne_oo hto (hP.elP hc9 hi) (by decide))
  have k56 : G52 ro = some (.inl (cy 0, 64, .inl fo9)) := hf54 _ _ hro (fun i hi => mm_ne_ao hro (hP.elP hc9 hi))
  have k57 : G52 (AD 2 c9) = some (.inr (11, [.int (nI (c9 + 1)), .ref (AD 1 (v.S c9).1), .int ((v.S c9).2.1), .long ((v.S c9).2.2.1), .ref (LA (20 + c9)), .int ((v.S c9).2.2.2)])) := hf54 _ _ k51 (fun i hi => mm_ne_oo k51 (hP.elP hc9 hi) (by decide))
  have hfs58 : ∀ (x : Nat) (e : va_E), G x = some e → (∀ i, i < v.nP c9 → x ≠ AD (20 + c9) i) → G52 x = some e := fun x e z9 n1 => hf54 x e (z9) n1
  have hfo59 : ∀ (x : Nat) (e : va_E), G x = some e → x ≠ to → x ≠ ro → (∀ i, i < v.nP c9 → x ≠ AD (20 + c9) i) → G52 x = some e := fun x e z9 n1 n2 n3 => hfs58 x e z9 n3
  refine lv_aload_n hx hb dX10_make_4 rfl (lv_at hl 1 rfl) ?_
  refine lv_iconst (v := 0) hx hb dX10_make_5 (by decide) ?_
  refine mm_putN (v := .int 0) (ty := .int) hx hb hf_X6 (fun _ h9 => h9) tyX6 tyX6_ok nmX6 hown hK hG hS k55 rfl 1 (by decide) (tb_use hT tw_202) (fun _ h9 => h9) rfl (by decide +kernel) rfl rfl (Nat.le_of_ble_eq_true rfl) dX10_make_6 (fun H locs hG hS => ?_)
  obtain ⟨G60, eG60⟩ : ∃ g, g = mm_set G52 to (.inr (7, [.ref ro, .int 0])) := ⟨_, rfl⟩
  have hG : mm D vwCl A G60 H := by rw [eG60]; exact hG
  have k61 : G60 to = some (.inr (7, [.ref ro, .int 0])) := by rw [eG60]; exact mm_set_self
  have k62 : G60 ro = some (.inl (cy 0, 64, .inl fo9)) := by rw [eG60]; exact mm_set_of k56 (mm_ne_ao k56 k55)
  have k63 : G60 (AD 2 c9) = some (.inr (11, [.int (nI (c9 + 1)), .ref (AD 1 (v.S c9).1), .int ((v.S c9).2.1), .long ((v.S c9).2.2.1), .ref (LA (20 + c9)), .int ((v.S c9).2.2.2)])) := by rw [eG60]; exact mm_set_of k57 (mm_ne_oo k57 k55 (by decide))
  have hP64 : EDP cy e0 tk G0 Bx G60 v (z.r_pd c9 (fgF (v.nP c9) P9)) LA EA AD PI := hP53.mvG (fun y => y = to) (fun y hy => by rw [hy]; exact hBt) apT.1 apT.2.1 apT.2.2.1 apT.2.2.2 (fun y hy => by rw [hy]; exact ⟨_, k61⟩) (fun x e h1 n1 => by rw [eG60]; exact mm_set_of h1 n1)
  have hfo65 : ∀ (x : Nat) (e : va_E), G x = some e → x ≠ to → x ≠ ro → (∀ i, i < v.nP c9 → x ≠ AD (20 + c9) i) → G60 x = some e := fun x e z9 n1 n2 n3 => by rw [eG60]; exact mm_set_of (hfo59 x e z9 n1 n2 n3) n1
  have k66 : G60 to = some (.inr (7, [.ref ro, .int (nI 0)])) := k61
  refine lv_aload_n hx hb dX10_make_9 rfl (lv_at hl 1 rfl) ?_
  refine lv_aload_n hx hb dX10_make_10 rfl (lv_at hl 0 rfl) ?_
  refine mm_get (v := .int ((v.S c9).2.2.2)) hx hb hf_X10 (fun _ h9 => h9) hown hK hG k63 rfl 5 (by decide) (tb_use hT tw_742) (fun _ h9 => h9) rfl dX10_make_11 ?_
  refine lv_bipush (v := 64) hx hb dX10_make_14 (by decide) ?_
  refine lv_iadd hx hb dX10_make_16 ?_
  refine va_callv (va_runV (As := [.int ((v.S c9).2.2.2 + 64)]) (rest := []) ⟨hx, hb, hml, hown, (fun _ h9 => absurd h9 List.not_mem_nil : ∀ w ∈ ([] : List Cond), w.before _ s = true)⟩ (c_X6_add l D cy A X hst hXT G60 to ro (nI 0) ((v.S c9).2.2.2 + 64) fo9 k66 k62 (nI_pos (by omega)) (nI_lt (b := 64) (by omega) (by decide))) (tb_cw (C := RX6) 1 hT tw_1182 tw_108 tw_1204 tw_1180 tw_1181 rfl rfl hq_X6_add ⟨Nat.le_of_ble_eq_true rfl, Nat.le_of_ble_eq_true rfl⟩) (mk_preC hst hG hK hA hX hS vc_7 k66) rfl rfl hl.1 rfl (lv_room (Nat.le_of_ble_eq_true rfl)) dX10_make_17 ⟨Nat.le_of_ble_eq_true rfl, Nat.le_of_ble_eq_true rfl⟩) hS (fun q _ h => h) (fun q h => h) (fun  G67 t H locs ht hvm hw hB hz1 hk1 hS => ?_)
  have hG : mm D vwCl A G67 H := by rw [← ht]; exact hB
  clear hB hz1 hk1 hvm ht
  rw [nI_clamp (n := 0) (by omega)] at hw
  have ne_tr : to ≠ ro := mm_ne_oa k66 k62
  have k68 : G67 to = some (.inr (7, [.ref ro, .int (nI (0 + 1))])) := by rw [hw, nI_succ]; exact mm_set_self
  have k69 : G67 ro = some (.inl (cy 0, 64, .inl (upd fo9 0 (vp_nar .byte ((((v.S c9).2.2.2 + 64) : Int32).toInt8.toInt32))))) := by rw [hw]; exact mm_set_of mm_set_self (Ne.symm ne_tr)
  have hP70 : EDP cy e0 tk G0 Bx G67 v (z.r_pd c9 (fgF (v.nP c9) P9)) LA EA AD PI := hP64.mvG (fun y => y = to ∨ y = ro) (fun y hy => hy.elim (fun h => by rw [h]; exact hBt) (fun h => by rw [h]; exact hBr)) (fun i hi z => z.elim (apT.1 i hi) (apR.1 i hi)) (fun i hi n z => z.elim (apT.2.1 i hi n) (apR.2.1 i hi n)) (fun i j hi hj z => z.elim (apT.2.2.1 i j hi hj) (apR.2.2.1 i j hi hj)) (fun i hi z => z.elim (apT.2.2.2 i hi) (apR.2.2.2 i hi)) (fun y hy => hy.elim (fun h => by rw [h]; exact ⟨_, k68⟩) (fun h => by rw [h]; exact ⟨_, k69⟩)) (fun x e h1 n1 => by rw [hw]; exact mm_set_2 h1 (fun z => n1 (Or.inr z)) (fun z => n1 (Or.inl z)))
  have k71 : G67 (AD 2 c9) = some (.inr (11, [.int (nI (c9 + 1)), .ref (AD 1 (v.S c9).1), .int ((v.S c9).2.1), .long ((v.S c9).2.2.1), .ref (LA (20 + c9)), .int ((v.S c9).2.2.2)])) := by rw [hw]; exact mm_set_2 k63 (mm_ne_oa k63 k62) (mm_ne_oo k63 k66 (by decide))
  have hfo72 : ∀ (x : Nat) (e : va_E), G x = some e → x ≠ to → x ≠ ro → (∀ i, i < v.nP c9 → x ≠ AD (20 + c9) i) → G67 x = some e := fun x e z9 n1 n2 n3 => by rw [hw]; exact mm_set_2 (hfo65 x e z9 n1 n2 n3) n2 n1
  clear hw
  refine lv_iconst (v := 0) hx hb dX10_make_20 (by decide) ?_
  refine lv_istore_n (lv' := [(2, .int 0), (0, .ref (AD 2 c9)), (1, .ref to)]) hx hb dX10_make_21 rfl hl (by decide) rfl (fun ls hl => ?_)
  exact hloop (v.nP c9) 0 1 (fgF (v.nP c9) P9) (upd fo9 0 (vp_nar .byte ((((v.S c9).2.2.2 + 64) : Int32).toInt8.toInt32))) (by omega) (by omega) hR G67 k68 k69 hP70 hfo72 _ _ hG hS ls (lv_sub hl [1, 2, 0] rfl)
