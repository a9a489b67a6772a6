theorem ro_ix {x : Int32} {n : Nat} (hn : n ≤ 109) (h1 : ¬ x < 0) (h2 : x < nI n) : ∃ i, x = nI i ∧ i < n := by
  obtain ⟨j, hj, e⟩ := nI_of h1
  exact ⟨j, e, (nI_ltI hj (by omega)).mp (by rw [← e]; exact h2)⟩
theorem nI_dec {n : Nat} (h : ¬ n = 0) : nI n + (-1) = nI (n - 1) := by
  obtain ⟨k, rfl⟩ := Nat.exists_eq_succ_of_ne_zero h
  show nI (k + 1) + (-1) = nI k
  rw [nI_succ, Int32.add_assoc, show (1 : Int32) + (-1) = 0 by decide, Int32.add_zero]
theorem rfs_sn {hh ti sl : Nat} (h : rfs hh ti sl = 0) : ti = 33 → sl < 64 := by
  intro h1
  unfold rfs at h
  split at h
  · exact absurd h (by decide)
  · split at h
    · exact absurd h (by decide)
    · rename_i h3
      exact Nat.lt_of_not_le (fun z => h3 ⟨h1, z⟩)
theorem zJ_self {z : PtV} {j hh : Nat} (h : z.jh j = nI hh) : zJ z j hh (z.pv j) z.pd = z := by
  have h1 : up1 z.jh j (nI hh) = z.jh := by
    funext k
    by_cases e : k = j
    · rw [e, up1_eq, h]
    · rw [up1_ne e]
  have h2 : up1 z.pv j (z.pv j) = z.pv := by
    funext k
    by_cases e : k = j
    · rw [e, up1_eq]
    · rw [up1_ne e]
  show (z.lo, z.vl, z.pc, z.pe, z.pd, z.fo, z.wo, up1 z.jh j (nI hh), up1 z.pv j (z.pv j)) = z
  rw [h1, h2]
  rfl
set_option maxHeartbeats 4000000 in
set_option maxRecDepth 100000 in
theorem c_J_run (l : Launch) (D : va_G) (cy : Nat → ClassId) (A : Nat → Prop) (X : State → Prop) (hst : mk_St A X) (hXT : ∀ U : State, X U → TB U) (e0 : Nat) (tk : Nat → Nat) (hXE : ∀ U : State, X U → ES e0 tk A U) (mi : Nat) (hXL : ∀ U : State, X U → EL e0 mi A U) (ax adK adV : Nat → Nat) (hXX : ∀ U : State, X U → TX ax adK adV tk A U) (G : Nat → Option va_E) (G0 : Nat → Option va_E) (Bx : Nat → Prop) (v : EdV) (z : PtV) (LA EA : Nat → Nat) (AD : Nat → Nat → Nat) (PI : Nat → Nat) (c9 hh : Nat) (pf : Nat → Int64) (PD : Nat → PdT) (to ro ln : Nat) (fo9 : Nat → Int32) (se rs sl : Nat) (sf : Nat → Int32) (sp N9 : Nat) (hP : EDP cy e0 tk G0 Bx G v (zJ z c9 hh pf PD) LA EA AD PI) (hc9 : c9 < v.nJ) (hhh : hh ≤ 16) (hKO : KOv v) (hsp : sp ≤ 5000) (hN9 : N9 = 10003) (hts : to ≠ se) (hrr : ro ≠ rs) (hZ : ZF v AD z) (hWd : WDv v) (hto : G to = some (.inr (7, [.ref ro, .int (nI ln)]))) (hro : G ro = some (.inl (cy 0, 64, .inl fo9))) (hln : ln ≤ 64) (hse : G se = some (.inr (7, [.ref rs, .int (nI sl)]))) (hrs : G rs = some (.inl (cy 0, 64, .inl sf))) (hsl : sl ≤ 64) (hBs : Bx se) (hBq : Bx rs) : Met l yX4_run [.code yX4_run cX4_run 9 (some .int)] ({ frames := 7, cells := 0, slots := 0, locals := 260 }) (mk_Pre D vwCl (tyL cy) A X G [.ref (AD 5 c9), .int (nI sp), .ref to, .ref se]) (va_Qi (fun (r : Int32) (G2 : Nat → Option va_E) => r = (jrF v c9 ln fo9 N9 sp 0 ((0, pf), PD, 0, sf)).1 ∧ G2 se = some (.inr (7, [.ref rs, .int (nI (jrF v c9 ln fo9 N9 sp 0 ((0, pf), PD, 0, sf)).2.2.2.1)])) ∧ G2 rs = some (.inl (cy 0, 64, .inl ((jrF v c9 ln fo9 N9 sp 0 ((0, pf), PD, 0, sf)).2.2.2.2))) ∧ EDP cy e0 tk G0 Bx G2 v (zJ z c9 (jrF v c9 ln fo9 N9 sp 0 ((0, pf), PD, 0, sf)).2.1.1 (jrF v c9 ln fo9 N9 sp 0 ((0, pf), PD, 0, sf)).2.1.2 (jrF v c9 ln fo9 N9 sp 0 ((0, pf), PD, 0, sf)).2.2.1) LA EA AD PI ∧ (jrF v c9 ln fo9 N9 sp 0 ((0, pf), PD, 0, sf)).2.1.1 ≤ 16 ∧ (jrF v c9 ln fo9 N9 sp 0 ((0, pf), PD, 0, sf)).2.2.2.1 ≤ 64 ∧ ∀ (x : Nat) (e : va_E), G x = some e → x ≠ AD 5 c9 → x ≠ PI c9 → x ≠ se → x ≠ rs → (∀ c i, c < v.nS → i < v.nP c → x ≠ AD (20 + c) i) → G2 x = some e) (mk_B D vwCl A) A) 0 0 A := by
  refine Met.ofW (cc := cX4_run) (maxL := 9) (ret := (some .int)) (by decide) rfl ?_
  intro p e s m args below meth c s₁ B hml hv
  obtain ⟨rfl, hG, hK, hA, hX⟩ := hv
  have hx := B.exec
  have hb := B.bytes
  have hr := B.returns
  have hlocks := B.notSynchronized
  have hT := hXT s hX
  have hown : s.vm.findClass RX4 = some m.cls := findClass_of_methodNamed B.named
  have hf_X4 : ∀ w ∈ u_ws RX4 TX4 5, w.before ([.ref (AD 5 c9), .int (nI sp), .ref to, .ref se] : List Value).toArray s = true := tb_list hT fX4
  have hf_X7 : ∀ w ∈ u_ws RX7 TX7 9, w.before ([.ref (AD 5 c9), .int (nI sp), .ref to, .ref se] : List Value).toArray s = true := tb_list hT fX7
  have hf_X6 : ∀ w ∈ u_ws RX6 TX6 2, w.before ([.ref (AD 5 c9), .int (nI sp), .ref to, .ref se] : List Value).toArray s = true := tb_list hT fX6
  have hS : va_S A s.heap s.heap [] := va_S.rf
  have hE := hXE s hX
  have hl := lv_entry ([.ref (AD 5 c9), .int (nI sp), .ref to, .ref se]) (n := 9) (Nat.le_of_ble_eq_true rfl)
  rw [lg_entry_eq]
  generalize (lg_sl ([.ref (AD 5 c9), .int (nI sp), .ref to, .ref se]) ++ List.replicate (9 - (lg_sl ([.ref (AD 5 c9), .int (nI sp), .ref to, .ref se])).length) Slot.unset).toArray = ls at hl ⊢
  have hl : lv_has ls 9 [(0, .ref (AD 5 c9)), (1, .int (nI sp)), (2, .ref to), (3, .ref se)] := hl
  have hQ := hXX s hX
  have apT := hP.oX cIL_7 hse
  have apR := hP.wW hrs
  have hfj : ∀ (x : Nat) (e : va_E), G x = some e → x ≠ AD 5 c9 → x ≠ PI c9 → x ≠ se → x ≠ rs → (∀ c i, c < v.nS → i < v.nP c → x ≠ AD (20 + c) i) → G x = some e := fun x e z _ _ _ _ _ => z
  obtain ⟨RF, hR⟩ : ∃ y, (jrF v c9 ln fo9 N9 sp 0 ((0, pf), PD, 0, sf)) = y := ⟨_, rfl⟩
  have hloop : ∀ (n : Nat) (j9 lf hv : Nat) (pl : Int32) (pv9 : Nat → Int64) (PV : Nat → PdT) (sv : Nat) (gv : Nat → Int32), (n + j9 = N9) → (lf ≤ 5000) → (hv ≤ 16) → (sv ≤ 64) → (jrF v c9 ln fo9 n lf pl ((hv, pv9), PV, sv, gv) = RF) → ∀ (Gv : Nat → Option va_E), (Gv to = some (.inr (7, [.ref ro, .int (nI ln)]))) → (Gv ro = some (.inl (cy 0, 64, .inl fo9))) → (Gv se = some (.inr (7, [.ref rs, .int (nI sv)]))) → (Gv rs = some (.inl (cy 0, 64, .inl gv))) → (EDP cy e0 tk G0 Bx Gv v (zJ z c9 hv pv9 PV) LA EA AD PI) → (∀ (x : Nat) (e : va_E), G x = some e → x ≠ AD 5 c9 → x ≠ PI c9 → x ≠ se → x ≠ rs → (∀ c i, c < v.nS → i < v.nP c → x ≠ AD (20 + c) i) → Gv x = some e) → ∀ (H : Heap) (locs : List Loc), mm D vwCl A Gv H → va_S A s.heap H locs → ∀ ls : Array Slot, lv_has ls 9 [(0, .ref (AD 5 c9)), (2, .ref to), (3, .ref se), (4, .int (nI lf)), (5, .int pl), (6, .int (nI j9))] → W p l e (headSpec [.code yX4_run cX4_run 9 (some .int)] ({ frames := 7, cells := 0, slots := 0, locals := 260 })).room s m ([.ref (AD 5 c9), .int (nI sp), .ref to, .ref se] : List Value).toArray below meth c H locs 0 0 (MQ below (va_Qi (fun (r : Int32) (G2 : Nat → Option va_E) => r = (jrF v c9 ln fo9 N9 sp 0 ((0, pf), PD, 0, sf)).1 ∧ G2 se = some (.inr (7, [.ref rs, .int (nI (jrF v c9 ln fo9 N9 sp 0 ((0, pf), PD, 0, sf)).2.2.2.1)])) ∧ G2 rs = some (.inl (cy 0, 64, .inl ((jrF v c9 ln fo9 N9 sp 0 ((0, pf), PD, 0, sf)).2.2.2.2))) ∧ EDP cy e0 tk G0 Bx G2 v (zJ z c9 (jrF v c9 ln fo9 N9 sp 0 ((0, pf), PD, 0, sf)).2.1.1 (jrF v c9 ln fo9 N9 sp 0 ((0, pf), PD, 0, sf)).2.1.2 (jrF v c9 ln fo9 N9 sp 0 ((0, pf), PD, 0, sf)).2.2.1) LA EA AD PI ∧ (jrF v c9 ln fo9 N9 sp 0 ((0, pf), PD, 0, sf)).2.1.1 ≤ 16 ∧ (jrF v c9 ln fo9 N9 sp 0 ((0, pf), PD, 0, sf)).2.2.2.1 ≤ 64 ∧ ∀ (x : Nat) (e : va_E), G x = some e → x ≠ AD 5 c9 → x ≠ PI c9 → x ≠ se → x ≠ rs → (∀ c i, c < v.nS → i < v.nP c → x ≠ AD (20 + c) i) → G2 x = some e) (mk_B D vwCl A) A) ([.ref (AD 5 c9), .int (nI sp), .ref to, .ref se] : List Value).toArray s 0 0 A) (F0 m 19 ls []) := by
    intro n
    induction n with
    | zero =>
      intro j9 lf hv pl pv9 PV sv gv hjn hlf hhv hsv hq Gv v_to v_ro v_se v_rs hP hfj H locs hG hS ls hl
      refine lv_iload hx hb dX4_run_19 (lv_at hl 5 rfl) ?_
      refine lv_sipush (v := 10002) hx hb dX4_run_21 (by decide) ?_
      refine lv_icmp_gt (tgt := 165) hx hb dX4_run_24 (by decide) (fun c_24 => ?_) (fun c_24 => ?_)
      · skip
        refine lv_iconst (v := 0) hx hb dX4_run_165 (by decide) ?_
        have hz : RF = (0, ((hv, pv9), PV, sv, gv)) := by rw [← hq]; first | rfl | (rw [show n = 0 by omega]; rfl)
        rw [hR, hz]
        exact W.iret (v := 0) hx hb hr (fun t ht hW => ⟨⟨_, _, rfl, ⟨rfl, v_se, v_rs, hP, hhv, hsv, hfj⟩, mk_end hG ht⟩, hS.F ht⟩) hS.2.2 dX4_run_166
      · skip
        exact absurd (by rw [show j9 = 10003 by omega]; decide) c_24
    | succ n ih =>
      intro j9 lf hv pl pv9 PV sv gv hjn hlf hhv hsv hq Gv v_to v_ro v_se v_rs hP hfj H locs hG hS ls hl
      refine lv_iload hx hb dX4_run_19 (lv_at hl 5 rfl) ?_
      refine lv_sipush (v := 10002) hx hb dX4_run_21 (by decide) ?_
      refine lv_icmp_gt (tgt := 165) hx hb dX4_run_24 (by decide) (fun c_24 => ?_) (fun c_24 => ?_)
      · skip
        exact absurd c_24 (Int32.not_lt.mpr (nI_le (b := 10002) (by omega) (by decide)))
      · skip
        refine lv_iload hx hb dX4_run_27 (lv_at hl 4 rfl) ?_
        refine lv_if_lt (tgt := 44) hx hb dX4_run_29 (by decide) (fun c_29 => ?_) (fun c_29 => ?_)
        · skip
          refine lv_iconst (v := 1) hx hb dX4_run_44 (by decide) ?_
          have hz : RF = (1, ((hv, pv9), PV, sv, gv)) := by rw [← hq, jrF, if_pos (Or.inl c_29)]
          rw [hR, hz]
          exact W.iret (v := 1) hx hb hr (fun t ht hW => ⟨⟨_, _, rfl, ⟨rfl, v_se, v_rs, hP, hhv, hsv, hfj⟩, mk_end hG ht⟩, hS.F ht⟩) hS.2.2 dX4_run_45
        · skip
          refine lv_iload hx hb dX4_run_32 (lv_at hl 4 rfl) ?_
          refine lv_aload_n hx hb dX4_run_34 rfl (lv_at hl 0 rfl) ?_
          have k21 : Gv (AD 5 c9) = some (.inr (5, [.int ((v.J c9).1), .long ((v.J c9).2), .ref (LA (40 + c9)), .ref (PI c9), .int (nI hv)])) := by have z9 := hP.elJ hc9; rw [show (zJ z c9 hv pv9 PV).jh c9 = nI hv from up1_eq] at z9; exact z9
          refine mm_get (v := .ref (LA (40 + c9))) hx hb hf_X4 (fun _ h9 => h9) hown hK hG k21 rfl 2 (by decide) (tb_use hT tw_874) (fun _ h9 => h9) rfl dX4_run_35 ?_
          obtain ⟨mo22, h_mo22, -⟩ := id (hP.lsO hc9)
          refine va_calli (va_runV (As := []) (rest := [.int pl]) ⟨hx, hb, hml, hown, (fun _ h9 => absurd h9 List.not_mem_nil : ∀ w ∈ ([] : List Cond), w.before _ s = true)⟩ (c_LS_size l D cy A X hst hXT e0 tk hXE mi hXL Gv (LA (40 + c9)) (EA (40 + c9)) (v.nO c9) (AD (40 + c9)) (hP.lsO hc9)) (tb_cw (C := RJx4a65c) 0 hT tw_457 tw_113 tw_1232 tw_455 tw_456 rfl rfl hq_Jx4a65c_size_8abf5 ⟨Nat.le_of_ble_eq_true rfl, Nat.le_of_ble_eq_true rfl⟩) (mk_preC hst hG hK hA hX hS vc_1 h_mo22) rfl rfl hl.1 rfl (lv_room (Nat.le_of_ble_eq_true rfl)) dX4_run_38 ⟨Nat.le_of_ble_eq_true rfl, Nat.le_of_ble_eq_true rfl⟩) hS (fun q _ h => h) (fun q h => h) (fun r23 G24 t H locs ht hvm hw hB hz1 hk1 hS => ?_)
          have hG : mm D vwCl A G24 H := by rw [← ht]; exact hB
          clear hB hz1 hk1 hvm ht
          obtain ⟨rfl, hw⟩ := hw
          rw [hw] at hG
          refine lv_icmp_lt (tgt := 46) hx hb dX4_run_41 (by decide) (fun c_41 => ?_) (fun c_41 => ?_)
          · skip
            refine lv_aload_n hx hb dX4_run_46 rfl (lv_at hl 0 rfl) ?_
            refine mm_get (v := .ref (LA (40 + c9))) hx hb hf_X4 (fun _ h9 => h9) hown hK hG k21 rfl 2 (by decide) (tb_use hT tw_874) (fun _ h9 => h9) rfl dX4_run_47 ?_
            refine lv_iload hx hb dX4_run_50 (lv_at hl 4 rfl) ?_
            obtain ⟨i9, hpl, hi9⟩ : ∃ i, pl = nI i ∧ i < v.nO c9 := ro_ix (hP.lsO hc9).le c_29 c_41
            have hob := (hP.lsO hc9).le
            have hpc : pl.toNatClampNeg = i9 := by rw [hpl]; exact nI_clamp (by omega)
            have hti : (v.O c9 i9).1 < 35 := hKO c9 hc9 i9 hi9
            refine W.eq (g2 := F0 m 52 ls [.int (nI i9), .ref (LA (40 + c9))]) (by rw [hpl]) ?_
            have hn1 : ¬ (pl < 0 ∨ nI (v.nO c9) ≤ pl) := by rintro (z | z); exact c_29 z; exact absurd c_41 (Int32.not_lt.mpr z)
            obtain ⟨mo25, h_mo25, -⟩ := id (hP.lsO hc9)
            refine va_callq (va_runV (As := [.int (nI i9)]) (rest := []) ⟨hx, hb, hml, hown, (fun _ h9 => absurd h9 List.not_mem_nil : ∀ w ∈ ([] : List Cond), w.before _ s = true)⟩ (c_LS_get l D cy A X hst hXT e0 tk hXE mi hXL Gv (LA (40 + c9)) (EA (40 + c9)) (v.nO c9) (AD (40 + c9)) i9 (hP.lsO hc9) hi9) (tb_cw (C := RJx4a65c) 1 hT tw_942 tw_113 tw_1233 tw_940 tw_941 rfl rfl hq_Jx4a65c_get_915e3 ⟨Nat.le_of_ble_eq_true rfl, Nat.le_of_ble_eq_true rfl⟩) (mk_preC hst hG hK hA hX hS vc_1 h_mo25) rfl rfl hl.1 rfl (lv_room (Nat.le_of_ble_eq_true rfl)) dX4_run_52 ⟨Nat.le_of_ble_eq_true rfl, Nat.le_of_ble_eq_true rfl⟩) hS (fun q _ h => h) (fun q h => h) (fun r26 G27 t H locs ht hvm hw hB hz1 hk1 hS => ?_)
            have hG : mm D vwCl A G27 H := by rw [← ht]; exact hB
            clear hB hz1 hk1 hvm ht
            obtain ⟨rfl, hw⟩ := hw
            rw [hw] at hG
            refine W.eq (g2 := F0 m 55 ls [.ref (AD (40 + c9) i9)]) rfl ?_
            have k28 : Gv (AD (40 + c9) i9) = some (.inr (8, [.ref (tk (v.O c9 i9).1), .long ((v.O c9 i9).2.1), .long ((v.O c9 i9).2.2.1), .int ((v.O c9 i9).2.2.2.1), va_rf ((opS v (v.O c9 i9)).map (AD 2)), .long ((v.O c9 i9).2.2.2.2.1), .int ((v.O c9 i9).2.2.2.2.2.1), va_rf ((opP v (v.O c9 i9)).map (fun y => AD (20 + y.1) y.2)), .int ((v.O c9 i9).2.2.2.2.2.2)])) := by rw [← (hZ.2.2.2 c9 hc9 i9 hi9).1, ← (hZ.2.2.2 c9 hc9 i9 hi9).2]; exact hP.elO hc9 hi9
            refine va_castS hx hb hown (tb_use hT tw_1234) (hK.1 8 _ rfl).2 (va_recv hK (hG.one k28) (q := (RX7, TX7, 9)) rfl (q0 := 0) rfl) dX4_run_55 ?_
            refine lv_astore (lv' := [(7, .ref (AD (40 + c9) i9)), (0, .ref (AD 5 c9)), (2, .ref to), (3, .ref se), (4, .int (nI lf)), (5, .int pl), (6, .int (nI j9))]) hx hb dX4_run_58 hl (by decide) rfl (fun ls hl => ?_)
            refine lv_aload hx hb dX4_run_60 (lv_at hl 0 rfl) ?_
            refine mm_getN (v := .ref (tk (v.O c9 i9).1)) hx hb hf_X7 (fun _ h9 => h9) hown hK hG k28 rfl 0 (by decide) (tb_use hT tw_901) (fun _ h9 => h9) rfl dX4_run_62 ?_
            refine va_gets (v := .ref (tk 5)) hx hb (show va_Z "DescribeText$Token" "CLOSE" "LDescribeText$Token;" (.ref (tk 5)) A s s.heap from (hE.2.1 5 (by decide)).1) hS hown (tb_use hT tw_1235) (fun _ h9 => h9) dX4_run_65 ?_
            refine lv_acmp_ne (rx := some (tk (v.O c9 i9).1)) (ry := some (tk 5)) (tgt := 81) hx hb dX4_run_68 (by decide) (fun c_68 => ?_) (fun c_68 => ?_)
            · skip
              refine lv_iload hx hb dX4_run_81 (lv_at hl 4 rfl) ?_
              refine lv_if_ne (tgt := 88) hx hb dX4_run_83 (by decide) (fun c_83 => ?_) (fun c_83 => ?_)
              · skip
                obtain ⟨x29, ex29⟩ : ∃ y : Int32, y = (nI lf) + (-1) := ⟨_, rfl⟩
                refine lv_iinc (v := x29) (lv' := [(4, .int x29), (7, .ref (AD (40 + c9) i9)), (0, .ref (AD 5 c9)), (2, .ref to), (3, .ref se), (5, .int pl), (6, .int (nI j9))]) hx hb dX4_run_88 hl (k := 4) rfl (by rw [ex29]; rfl) (by decide) rfl (fun ls hl => ?_)
                refine lv_aload_n hx hb dX4_run_91 rfl (lv_at hl 2 rfl) ?_
                refine lv_aload hx hb dX4_run_92 (lv_at hl 1 rfl) ?_
                refine mm_getN (v := .ref (tk (v.O c9 i9).1)) hx hb hf_X7 (fun _ h9 => h9) hown hK hG k28 rfl 0 (by decide) (tb_use hT tw_901) (fun _ h9 => h9) rfl dX4_run_94 ?_
                refine lv_aload_n hx hb dX4_run_97 rfl (lv_at hl 4 rfl) ?_
                refine va_calli (va_runV (As := [.ref (tk (v.O c9 i9).1), .ref se]) (rest := []) ⟨hx, hb, hml, hown, (fun _ h9 => absurd h9 List.not_mem_nil : ∀ w ∈ ([] : List Cond), w.before _ s = true)⟩ (c_J_refusal l D cy A X hst hXT e0 tk hXE mi hXL ax adK adV hXX Gv G0 Bx v z LA EA AD PI c9 hv pv9 PV ((v.O c9 i9).1) se rs sv gv hP hc9 hhv hti v_se v_rs hsv) (tb_cw (C := RX4) 2 hT tw_1239 tw_130 tw_1236 tw_1238 tw_53 rfl rfl hq_X4_refusalOf ⟨Nat.le_of_ble_eq_true rfl, Nat.le_of_ble_eq_true rfl⟩) (mk_preC hst hG hK hA hX hS vc_5 k21) rfl rfl hl.1 rfl (lv_room (Nat.le_of_ble_eq_true rfl)) dX4_run_98 ⟨Nat.le_of_ble_eq_true rfl, Nat.le_of_ble_eq_true rfl⟩) hS (fun q _ h => h) (fun q h => h) (fun r30 G31 t H locs ht hvm hw hB hz1 hk1 hS => ?_)
                have hG : mm D vwCl A G31 H := by rw [← ht]; exact hB
                clear hB hz1 hk1 hvm ht
                obtain ⟨er30, hw⟩ := hw
                rw [hw] at hG
                refine lv_istore (lv' := [(8, .int r30), (4, .int x29), (7, .ref (AD (40 + c9) i9)), (0, .ref (AD 5 c9)), (2, .ref to), (3, .ref se), (5, .int pl), (6, .int (nI j9))]) hx hb dX4_run_101 hl (by decide) rfl (fun ls hl => ?_)
                refine lv_iload hx hb dX4_run_103 (lv_at hl 0 rfl) ?_
                refine lv_if_eq (tgt := 111) hx hb dX4_run_105 (by decide) (fun c_105 => ?_) (fun c_105 => ?_)
                · skip
                  refine lv_aload hx hb dX4_run_111 (lv_at hl 2 rfl) ?_
                  refine mm_getN (v := .ref (tk (v.O c9 i9).1)) hx hb hf_X7 (fun _ h9 => h9) hown hK hG k28 rfl 0 (by decide) (tb_use hT tw_901) (fun _ h9 => h9) rfl dX4_run_113 ?_
                  refine va_gets (v := .ref (tk 34)) hx hb (show va_Z "DescribeText$Token" "WHILE" "LDescribeText$Token;" (.ref (tk 34)) A s s.heap from (hE.2.1 34 (by decide)).1) hS hown (tb_use hT tw_1242) (fun _ h9 => h9) dX4_run_116 ?_
                  refine lv_acmp_ne (rx := some (tk (v.O c9 i9).1)) (ry := some (tk 34)) (tgt := 148) hx hb dX4_run_119 (by decide) (fun c_119 => ?_) (fun c_119 => ?_)
                  · skip
                    refine lv_aload_n hx hb dX4_run_148 rfl (lv_at hl 3 rfl) ?_
                    refine lv_aload hx hb dX4_run_149 (lv_at hl 2 rfl) ?_
                    refine lv_aload_n hx hb dX4_run_151 rfl (lv_at hl 4 rfl) ?_
                    refine lv_aload_n hx hb dX4_run_152 rfl (lv_at hl 5 rfl) ?_
                    have k32 : Gv (PI c9) = some (.inl (cy 2, 16, .inr (.inl pv9))) := by have z9 := hP.pi c9 hc9; rw [show (zJ z c9 hv pv9 PV).pv c9 = pv9 from up1_eq] at z9; exact z9
                    refine va_callv (va_runV (As := [.ref (AD (40 + c9) i9), .ref to, .ref se]) (rest := []) ⟨hx, hb, hml, hown, (fun _ h9 => absurd h9 List.not_mem_nil : ∀ w ∈ ([] : List Cond), w.before _ s = true)⟩ (c_J_step l D cy A X hst hXT e0 tk hXE mi hXL ax adK adV hXX Gv G0 Bx v z LA EA AD PI c9 hv pv9 PV i9 to ro ln fo9 se rs sv gv hP hc9 hhv hi9 hti (rfs_sn (by rw [← er30]; exact c_105)) hZ hWd v_to v_ro hln v_se v_rs hsv hBs hBq) (tb_cw (C := RX4) 3 hT tw_1250 tw_130 tw_1247 tw_1249 tw_55 rfl rfl hq_X4_step ⟨Nat.le_of_ble_eq_true rfl, Nat.le_of_ble_eq_true rfl⟩) (mk_preC hst hG hK hA hX hS vc_5 k21) rfl rfl hl.1 rfl (lv_room (Nat.le_of_ble_eq_true rfl)) dX4_run_153 ⟨Nat.le_of_ble_eq_true rfl, Nat.le_of_ble_eq_true rfl⟩) hS (fun q _ h => h) (fun q h => h) (fun  G33 t H locs ht hvm hw hB hz1 hk1 hS => ?_)
                    have hG : mm D vwCl A G33 H := by rw [← ht]; exact hB
                    clear hB hz1 hk1 hvm ht
                    obtain ⟨k34, k35, hP36, hle37, hsl38, hf39⟩ := hw
                    have k40 : G33 to = some (.inr (7, [.ref ro, .int (nI ln)])) := hf39 _ _ v_to (mm_ne_oo v_to k21 (by decide)) (mm_ne_oa v_to k32) (by first | assumption | omega) (mm_ne_oa v_to v_rs) (fun c i hc hi => mm_ne_oo v_to (hP.elP hc hi) (by decide))
                    have k41 : G33 ro = some (.inl (cy 0, 64, .inl fo9)) := hf39 _ _ v_ro (mm_ne_ao v_ro k21) (mm_ne_e v_ro k32 (fun z => by have z2 := (Prod.mk.inj (Prod.mk.inj (Sum.inl.inj z)).2).2; cases z2)) (mm_ne_ao v_ro v_se) (by first | assumption | omega | exact mm_ne_n v_ro v_rs (by omega)) (fun c i hc hi => mm_ne_ao v_ro (hP.elP hc hi))
                    have hfj42 : ∀ (x : Nat) (e : va_E), G x = some e → x ≠ AD 5 c9 → x ≠ PI c9 → x ≠ se → x ≠ rs → (∀ c i, c < v.nS → i < v.nP c → x ≠ AD (20 + c) i) → G33 x = some e := fun x e z9 n1 n2 n3 n4 n5 => hf39 x e (hfj x e z9 n1 n2 n3 n4 n5) n1 n2 n3 n4 n5
                    obtain ⟨x43, ex43⟩ : ∃ y : Int32, y = pl + 1 := ⟨_, rfl⟩
                    refine lv_iinc (v := x43) (lv' := [(5, .int x43), (8, .int r30), (4, .int x29), (7, .ref (AD (40 + c9) i9)), (0, .ref (AD 5 c9)), (2, .ref to), (3, .ref se), (6, .int (nI j9))]) hx hb dX4_run_156 hl (k := 6) rfl (by rw [ex43]; rfl) (by decide) rfl (fun ls hl => ?_)
                    obtain ⟨x44, ex44⟩ : ∃ y : Int32, y = (nI j9) + 1 := ⟨_, rfl⟩
                    refine lv_iinc (v := x44) (lv' := [(6, .int x44), (5, .int x43), (8, .int r30), (4, .int x29), (7, .ref (AD (40 + c9) i9)), (0, .ref (AD 5 c9)), (2, .ref to), (3, .ref se)]) hx hb dX4_run_159 hl (k := 7) rfl (by rw [ex44]; rfl) (by decide) rfl (fun ls hl => ?_)
                    refine lv_goto (tgt := 19) hx hb dX4_run_162 (by decide) ?_
                    rw [show x44 = nI (j9 + 1) by rw [ex44]; exact (nI_succ j9).symm] at hl
                    have hn5 : ¬ (v.O c9 i9).1 = 5 := fun z => c_68 (by rw [z])
                    have hn0 : ¬ lf = 0 := fun z => c_83 (by rw [z]; rfl)
                    have hn34 : ¬ (v.O c9 i9).1 = 34 := fun z => c_119 (by rw [z])
                    rw [show x29 = nI (lf - 1) by rw [ex29]; exact nI_dec hn0] at hl
                    have hq2 : jrF v c9 ln fo9 n (lf - 1) x43 (stF9 v ln fo9 (v.O c9 i9) ((hv, pv9), PV, sv, gv)) = RF := by rw [← hq, jrF, if_neg hn1, hpc, if_neg hn5, if_neg hn0, if_neg (fun z => z (by rw [← er30]; exact c_105)), if_neg hn34, ex43]; try rfl
                    exact ih (j9 + 1) (lf - 1) ((stF9 v ln fo9 (v.O c9 i9) ((hv, pv9), PV, sv, gv)).1.1) x43 ((stF9 v ln fo9 (v.O c9 i9) ((hv, pv9), PV, sv, gv)).1.2) ((stF9 v ln fo9 (v.O c9 i9) ((hv, pv9), PV, sv, gv)).2.1) ((stF9 v ln fo9 (v.O c9 i9) ((hv, pv9), PV, sv, gv)).2.2.1) ((stF9 v ln fo9 (v.O c9 i9) ((hv, pv9), PV, sv, gv)).2.2.2) (by omega) (by omega) hle37 hsl38 hq2 G33 k40 k41 k34 k35 hP36 hfj42 _ _ hG hS ls (lv_sub hl [5, 6, 7, 3, 1, 0] rfl)
                  · skip
                    refine lv_aload_n hx hb dX4_run_122 rfl (lv_at hl 3 rfl) ?_
                    have k45 : Gv (PI c9) = some (.inl (cy 2, 16, .inr (.inl pv9))) := by have z9 := hP.pi c9 hc9; rw [show (zJ z c9 hv pv9 PV).pv c9 = pv9 from up1_eq] at z9; exact z9
                    refine va_calll (va_runV (As := []) (rest := []) ⟨hx, hb, hml, hown, (fun _ h9 => absurd h9 List.not_mem_nil : ∀ w ∈ ([] : List Cond), w.before _ s = true)⟩ (c_X4_lift l D cy A X hst hXT e0 tk hXE Gv (AD 5 c9) (LA (40 + c9)) (PI c9) ((v.J c9).1) ((v.J c9).2) hv pv9 k21 k45 hhv) (tb_cw (C := RX4) 0 hT tw_1246 tw_130 tw_1243 tw_1245 tw_54 rfl rfl hq_X4_lift ⟨Nat.le_of_ble_eq_true rfl, Nat.le_of_ble_eq_true rfl⟩) (mk_preC hst hG hK hA hX hS vc_5 k21) rfl rfl hl.1 rfl (lv_room (Nat.le_of_ble_eq_true rfl)) dX4_run_123 ⟨Nat.le_of_ble_eq_true rfl, Nat.le_of_ble_eq_true rfl⟩) hS (fun q _ h => h) (fun q h => h) (fun r46 G47 t H locs ht hvm hw hB hz1 hk1 hS => ?_)
                    have hG : mm D vwCl A G47 H := by rw [← ht]; exact hB
                    clear hB hz1 hk1 hvm ht
                    obtain ⟨er46, k48, hf49⟩ := hw
                    have k50 : G47 (PI c9) = some (.inl (cy 2, 16, .inr (.inl pv9))) := hf49 _ _ k45 (mm_ne_ao k45 k21)
                    have fr46 : r46 = lft (hv, pv9) := er46
                    rw [fr46]
                    have hf49f : ∀ (x : Nat) (e : va_E), Gv x = some e → x ≠ AD 5 c9 → x ≠ PI c9 → G47 x = some e := fun x e z9 n1 _ => hf49 x e z9 n1
                    have hP51 : EDP cy e0 tk G0 Bx G47 v (zJ z c9 (hv - 1) pv9 PV) LA EA AD PI := EDP.jb hP hc9 k48 k50 hf49f
                    have k52 : G47 to = some (.inr (7, [.ref ro, .int (nI ln)])) := hf49f _ _ v_to (mm_ne_oo v_to k21 (by decide)) (mm_ne_oa v_to k45)
                    have k53 : G47 ro = some (.inl (cy 0, 64, .inl fo9)) := hf49f _ _ v_ro (mm_ne_ao v_ro k21) (mm_ne_e v_ro k45 (fun z => by have z2 := (Prod.mk.inj (Prod.mk.inj (Sum.inl.inj z)).2).2; cases z2))
                    have k54 : G47 se = some (.inr (7, [.ref rs, .int (nI sv)])) := hf49f _ _ v_se (mm_ne_oo v_se k21 (by decide)) (mm_ne_oa v_se k45)
                    have k55 : G47 rs = some (.inl (cy 0, 64, .inl gv)) := hf49f _ _ v_rs (mm_ne_ao v_rs k21) (mm_ne_e v_rs k45 (fun z => by have z2 := (Prod.mk.inj (Prod.mk.inj (Sum.inl.inj z)).2).2; cases z2))
                    have k56 : G47 (AD (40 + c9) i9) = some (.inr (8, [.ref (tk (v.O c9 i9).1), .long ((v.O c9 i9).2.1), .long ((v.O c9 i9).2.2.1), .int ((v.O c9 i9).2.2.2.1), va_rf ((opS v (v.O c9 i9)).map (AD 2)), .long ((v.O c9 i9).2.2.2.2.1), .int ((v.O c9 i9).2.2.2.2.2.1), va_rf ((opP v (v.O c9 i9)).map (fun y => AD (20 + y.1) y.2)), .int ((v.O c9 i9).2.2.2.2.2.2)])) := hf49f _ _ k28 (mm_ne_oo k28 k21 (by decide)) (mm_ne_oa k28 k45)
                    have hfj57 : ∀ (x : Nat) (e : va_E), G x = some e → x ≠ AD 5 c9 → x ≠ PI c9 → x ≠ se → x ≠ rs → (∀ c i, c < v.nS → i < v.nP c → x ≠ AD (20 + c) i) → G47 x = some e := fun x e z9 n1 n2 n3 n4 n5 => hf49f x e (hfj x e z9 n1 n2 n3 n4 n5) n1 n2
                    have hle58 : (hv - 1) ≤ 16 := by have := hhv; omega
                    refine lv_lconst (v := 0) hx hb dX4_run_126 (by decide) ?_
                    refine W.lcmp hx hb dX4_run_127 ?_
                    refine lv_if_ne (tgt := 139) hx hb dX4_run_128 (by decide) (fun c_128 => ?_) (fun c_128 => ?_)
                    · skip
                      refine lv_iload hx hb dX4_run_139 (lv_at hl 6 rfl) ?_
                      refine lv_iconst (v := 1) hx hb dX4_run_141 (by decide) ?_
                      refine lv_iadd hx hb dX4_run_142 ?_
                      refine lv_topi (fun x60 ex60 => ?_)
                      refine lv_istore (lv' := [(5, .int x60), (8, .int r30), (4, .int x29), (7, .ref (AD (40 + c9) i9)), (0, .ref (AD 5 c9)), (2, .ref to), (3, .ref se), (6, .int (nI j9))]) hx hb dX4_run_143 hl (by decide) rfl (fun ls hl => ?_)
                      refine lv_goto (tgt := 159) hx hb dX4_run_145 (by decide) ?_
                      obtain ⟨x61, ex61⟩ : ∃ y : Int32, y = (nI j9) + 1 := ⟨_, rfl⟩
                      refine lv_iinc (v := x61) (lv' := [(6, .int x61), (5, .int x60), (8, .int r30), (4, .int x29), (7, .ref (AD (40 + c9) i9)), (0, .ref (AD 5 c9)), (2, .ref to), (3, .ref se)]) hx hb dX4_run_159 hl (k := 7) rfl (by rw [ex61]; rfl) (by decide) rfl (fun ls hl => ?_)
                      refine lv_goto (tgt := 19) hx hb dX4_run_162 (by decide) ?_
                      rw [show x61 = nI (j9 + 1) by rw [ex61]; exact (nI_succ j9).symm] at hl
                      have hn5 : ¬ (v.O c9 i9).1 = 5 := fun z => c_68 (by rw [z])
                      have hn0 : ¬ lf = 0 := fun z => c_83 (by rw [z]; rfl)
                      have h34 : (v.O c9 i9).1 = 34 := tk_ne hE hti (by decide) c_119
                      rw [show x29 = nI (lf - 1) by rw [ex29]; exact nI_dec hn0] at hl
                      have hq2 : jrF v c9 ln fo9 n (lf - 1) x60 (((hv - 1), pv9), PV, sv, gv) = RF := by rw [← hq, jrF, if_neg hn1, hpc, if_neg hn5, if_neg hn0, if_neg (fun z => z (by rw [← er30]; exact c_105)), if_pos h34, if_neg (fun z => c_128 ((lg_cmp_eq _ _).mpr z)), ex60]; try rfl
                      exact ih (j9 + 1) (lf - 1) (hv - 1) x60 pv9 PV sv gv (by omega) (by omega) hle58 hsv hq2 G47 k52 k53 k54 k55 hP51 hfj57 _ _ hG hS ls (lv_sub hl [5, 6, 7, 3, 1, 0] rfl)
                    · skip
                      refine lv_aload hx hb dX4_run_131 (lv_at hl 2 rfl) ?_
                      refine mm_getN (v := .int ((v.O c9 i9).2.2.2.2.2.2)) hx hb hf_X7 (fun _ h9 => h9) hown hK hG k56 rfl 8 (by decide) (tb_use hT tw_918) (fun _ h9 => h9) rfl dX4_run_133 ?_
                      refine lv_goto (tgt := 143) hx hb dX4_run_136 (by decide) ?_
                      refine lv_topi (fun x62 ex62 => ?_)
                      refine lv_istore (lv' := [(5, .int x62), (8, .int r30), (4, .int x29), (7, .ref (AD (40 + c9) i9)), (0, .ref (AD 5 c9)), (2, .ref to), (3, .ref se), (6, .int (nI j9))]) hx hb dX4_run_143 hl (by decide) rfl (fun ls hl => ?_)
                      refine lv_goto (tgt := 159) hx hb dX4_run_145 (by decide) ?_
                      obtain ⟨x63, ex63⟩ : ∃ y : Int32, y = (nI j9) + 1 := ⟨_, rfl⟩
                      refine lv_iinc (v := x63) (lv' := [(6, .int x63), (5, .int x62), (8, .int r30), (4, .int x29), (7, .ref (AD (40 + c9) i9)), (0, .ref (AD 5 c9)), (2, .ref to), (3, .ref se)]) hx hb dX4_run_159 hl (k := 7) rfl (by rw [ex63]; rfl) (by decide) rfl (fun ls hl => ?_)
                      refine lv_goto (tgt := 19) hx hb dX4_run_162 (by decide) ?_
                      rw [show x63 = nI (j9 + 1) by rw [ex63]; exact (nI_succ j9).symm] at hl
                      have hn5 : ¬ (v.O c9 i9).1 = 5 := fun z => c_68 (by rw [z])
                      have hn0 : ¬ lf = 0 := fun z => c_83 (by rw [z]; rfl)
                      have h34 : (v.O c9 i9).1 = 34 := tk_ne hE hti (by decide) c_119
                      rw [show x29 = nI (lf - 1) by rw [ex29]; exact nI_dec hn0] at hl
                      have hq2 : jrF v c9 ln fo9 n (lf - 1) x62 (((hv - 1), pv9), PV, sv, gv) = RF := by rw [← hq, jrF, if_neg hn1, hpc, if_neg hn5, if_neg hn0, if_neg (fun z => z (by rw [← er30]; exact c_105)), if_pos h34, if_pos ((lg_cmp_eq _ _).mp c_128), ex62]; try rfl
                      exact ih (j9 + 1) (lf - 1) (hv - 1) x62 pv9 PV sv gv (by omega) (by omega) hle58 hsv hq2 G47 k52 k53 k54 k55 hP51 hfj57 _ _ hG hS ls (lv_sub hl [5, 6, 7, 3, 1, 0] rfl)
                · skip
                  refine lv_iload hx hb dX4_run_108 (lv_at hl 0 rfl) ?_
                  have hn5 : ¬ (v.O c9 i9).1 = 5 := fun z => c_68 (by rw [z])
                  have hn0 : ¬ lf = 0 := fun z => c_83 (by rw [z]; rfl)
                  have hz : RF = (r30, ((hv, pv9), PV, sv, gv)) := by rw [← hq, jrF, if_neg hn1, hpc, if_neg hn5, if_neg hn0, if_pos (by rw [← er30]; exact c_105), ← er30]
                  rw [hR, hz]
                  exact W.iret (v := r30) hx hb hr (fun t ht hW => ⟨⟨_, _, rfl, ⟨rfl, v_se, v_rs, hP, hhv, hsv, hfj⟩, mk_end hG ht⟩, hS.F ht⟩) hS.2.2 dX4_run_110
              · skip
                refine lv_iconst (v := 0) hx hb dX4_run_86 (by decide) ?_
                have hn5 : ¬ (v.O c9 i9).1 = 5 := fun z => c_68 (by rw [z])
                have h0 : lf = 0 := nI_inj (by omega) (by decide) c_83
                have hz : RF = (0, ((hv, pv9), PV, sv, gv)) := by rw [← hq, jrF, if_neg hn1, hpc, if_neg hn5, if_pos h0]
                rw [hR, hz]
                exact W.iret (v := 0) hx hb hr (fun t ht hW => ⟨⟨_, _, rfl, ⟨rfl, v_se, v_rs, hP, hhv, hsv, hfj⟩, mk_end hG ht⟩, hS.F ht⟩) hS.2.2 dX4_run_87
            · skip
              refine lv_aload hx hb dX4_run_71 (lv_at hl 0 rfl) ?_
              refine mm_getN (v := .int ((v.O c9 i9).2.2.2.2.2.2)) hx hb hf_X7 (fun _ h9 => h9) hown hK hG k28 rfl 8 (by decide) (tb_use hT tw_918) (fun _ h9 => h9) rfl dX4_run_73 ?_
              refine lv_topi (fun x64 ex64 => ?_)
              refine lv_istore (lv' := [(5, .int x64), (7, .ref (AD (40 + c9) i9)), (0, .ref (AD 5 c9)), (2, .ref to), (3, .ref se), (4, .int (nI lf)), (6, .int (nI j9))]) hx hb dX4_run_76 hl (by decide) rfl (fun ls hl => ?_)
              refine lv_goto (tgt := 159) hx hb dX4_run_78 (by decide) ?_
              obtain ⟨x65, ex65⟩ : ∃ y : Int32, y = (nI j9) + 1 := ⟨_, rfl⟩
              refine lv_iinc (v := x65) (lv' := [(6, .int x65), (5, .int x64), (7, .ref (AD (40 + c9) i9)), (0, .ref (AD 5 c9)), (2, .ref to), (3, .ref se), (4, .int (nI lf))]) hx hb dX4_run_159 hl (k := 6) rfl (by rw [ex65]; rfl) (by decide) rfl (fun ls hl => ?_)
              refine lv_goto (tgt := 19) hx hb dX4_run_162 (by decide) ?_
              rw [show x65 = nI (j9 + 1) by rw [ex65]; exact (nI_succ j9).symm] at hl
              have h5 : (v.O c9 i9).1 = 5 := tk_ne hE hti (by decide) c_68
              have hq2 : jrF v c9 ln fo9 n lf x64 ((hv, pv9), PV, sv, gv) = RF := by rw [← hq, jrF, if_neg hn1, hpc, if_pos h5, ex64]; try rfl
              exact ih (j9 + 1) lf hv x64 pv9 PV sv gv (by omega) (by omega) hhv hsv hq2 Gv v_to v_ro v_se v_rs hP hfj _ _ hG hS ls (lv_sub hl [3, 4, 5, 6, 1, 0] rfl)
          · skip
            refine lv_iconst (v := 1) hx hb dX4_run_44 (by decide) ?_
            have hz : RF = (1, ((hv, pv9), PV, sv, gv)) := by rw [← hq, jrF, if_pos (Or.inr (Int32.not_lt.mp c_41))]
            rw [hR, hz]
            exact W.iret (v := 1) hx hb hr (fun t ht hW => ⟨⟨_, _, rfl, ⟨rfl, v_se, v_rs, hP, hhv, hsv, hfj⟩, mk_end hG ht⟩, hS.F ht⟩) hS.2.2 dX4_run_45
  refine lv_aload_n hx hb dX4_run_0 rfl (lv_at hl 0 rfl) ?_
  refine lv_iconst (v := 0) hx hb dX4_run_1 (by decide) ?_
  have k66 : G (AD 5 c9) = some (.inr (5, [.int ((v.J c9).1), .long ((v.J c9).2), .ref (LA (40 + c9)), .ref (PI c9), .int (nI hh)])) := by have z9 := hP.elJ hc9; rw [show (zJ z c9 hh pf PD).jh c9 = nI hh from up1_eq] at z9; exact z9
  refine mm_put (v := .int 0) (ty := .int) hx hb hf_X4 (fun _ h9 => h9) tyX4 tyX4_ok nmX4 hown hK hG hS k66 rfl 4 (by decide) (tb_use hT tw_878) (fun _ h9 => h9) rfl (by decide +kernel) rfl rfl (Nat.le_of_ble_eq_true rfl) dX4_run_2 (fun H locs hG hS => ?_)
  have k67 : G (PI c9) = some (.inl (cy 2, 16, .inr (.inl pf))) := by have z9 := hP.pi c9 hc9; rw [show (zJ z c9 hh pf PD).pv c9 = pf from up1_eq] at z9; exact z9
  obtain ⟨G68, eG68⟩ : ∃ g, g = mm_set G (AD 5 c9) (.inr (5, [.int ((v.J c9).1), .long ((v.J c9).2), .ref (LA (40 + c9)), .ref (PI c9), .int 0])) := ⟨_, rfl⟩
  have hG : mm D vwCl A G68 H := by rw [eG68]; exact hG
  have k69 : G68 to = some (.inr (7, [.ref ro, .int (nI ln)])) := by rw [eG68]; exact mm_set_of hto (mm_ne_oo hto k66 (by decide))
  have k70 : G68 ro = some (.inl (cy 0, 64, .inl fo9)) := by rw [eG68]; exact mm_set_of hro (mm_ne_ao hro k66)
  have k71 : G68 se = some (.inr (7, [.ref rs, .int (nI sl)])) := by rw [eG68]; exact mm_set_of hse (mm_ne_oo hse k66 (by decide))
  have k72 : G68 rs = some (.inl (cy 0, 64, .inl sf)) := by rw [eG68]; exact mm_set_of hrs (mm_ne_ao hrs k66)
  have k73 : G68 (AD 5 c9) = some (.inr (5, [.int ((v.J c9).1), .long ((v.J c9).2), .ref (LA (40 + c9)), .ref (PI c9), .int 0])) := by rw [eG68]; exact mm_set_self
  have hP74 : EDP cy e0 tk G0 Bx G68 v (zJ z c9 0 pf PD) LA EA AD PI := EDP.jb hP hc9 k73 (by rw [eG68]; exact mm_set_of k67 (mm_ne_ao k67 k66)) (fun x e h1 n1 _ => by rw [eG68]; exact mm_set_of h1 n1)
  have hfj75 : ∀ (x : Nat) (e : va_E), G x = some e → x ≠ AD 5 c9 → x ≠ PI c9 → x ≠ se → x ≠ rs → (∀ c i, c < v.nS → i < v.nP c → x ≠ AD (20 + c) i) → G68 x = some e := fun x e z9 n1 n2 n3 n4 n5 => by rw [eG68]; exact mm_set_of (hfj x e z9 n1 n2 n3 n4 n5) n1
  refine lv_aload_n hx hb dX4_run_5 rfl (lv_at hl 3 rfl) ?_
  refine lv_iconst (v := 0) hx hb dX4_run_6 (by decide) ?_
  refine mm_putN (v := .int 0) (ty := .int) hx hb hf_X6 (fun _ h9 => h9) tyX6 tyX6_ok nmX6 hown hK hG hS k71 rfl 1 (by decide) (tb_use hT tw_201) (fun _ h9 => h9) rfl (by decide +kernel) rfl rfl (Nat.le_of_ble_eq_true rfl) dX4_run_7 (fun H locs hG hS => ?_)
  have k76 : G68 (PI c9) = some (.inl (cy 2, 16, .inr (.inl pf))) := by have z9 := hP74.pi c9 hc9; rw [show (zJ z c9 0 pf PD).pv c9 = pf from up1_eq] at z9; exact z9
  obtain ⟨G77, eG77⟩ : ∃ g, g = mm_set G68 se (.inr (7, [.ref rs, .int 0])) := ⟨_, rfl⟩
  have hG : mm D vwCl A G77 H := by rw [eG77]; exact hG
  have k78 : G77 to = some (.inr (7, [.ref ro, .int (nI ln)])) := by rw [eG77]; exact mm_set_of k69 (by first | assumption | omega)
  have k79 : G77 ro = some (.inl (cy 0, 64, .inl fo9)) := by rw [eG77]; exact mm_set_of k70 (mm_ne_ao k70 k71)
  have k80 : G77 se = some (.inr (7, [.ref rs, .int 0])) := by rw [eG77]; exact mm_set_self
  have k81 : G77 rs = some (.inl (cy 0, 64, .inl sf)) := by rw [eG77]; exact mm_set_of k72 (mm_ne_ao k72 k71)
  have hP82 : EDP cy e0 tk G0 Bx G77 v (zJ z c9 0 pf PD) LA EA AD PI := hP74.mvG (fun y => y = se) (fun y hy => by rw [hy]; exact hBs) apT.1 apT.2.1 apT.2.2.1 apT.2.2.2 (fun y hy => by rw [hy]; exact ⟨_, k80⟩) (fun x e h1 n1 => by rw [eG77]; exact mm_set_of h1 n1)
  have hfj83 : ∀ (x : Nat) (e : va_E), G x = some e → x ≠ AD 5 c9 → x ≠ PI c9 → x ≠ se → x ≠ rs → (∀ c i, c < v.nS → i < v.nP c → x ≠ AD (20 + c) i) → G77 x = some e := fun x e z9 n1 n2 n3 n4 n5 => by rw [eG77]; exact mm_set_of (hfj75 x e z9 n1 n2 n3 n4 n5) n3
  have k84 : G77 se = some (.inr (7, [.ref rs, .int (nI 0)])) := k80
  refine lv_iload_n hx hb dX4_run_10 rfl (lv_at hl 1 rfl) ?_
  refine lv_istore (lv' := [(4, .int (nI sp)), (0, .ref (AD 5 c9)), (1, .int (nI sp)), (2, .ref to), (3, .ref se)]) hx hb dX4_run_11 hl (by decide) rfl (fun ls hl => ?_)
  refine lv_iconst (v := 0) hx hb dX4_run_13 (by decide) ?_
  refine lv_istore (lv' := [(5, .int 0), (4, .int (nI sp)), (0, .ref (AD 5 c9)), (1, .int (nI sp)), (2, .ref to), (3, .ref se)]) hx hb dX4_run_14 hl (by decide) rfl (fun ls hl => ?_)
  refine lv_iconst (v := 0) hx hb dX4_run_16 (by decide) ?_
  refine lv_istore (lv' := [(6, .int 0), (5, .int 0), (4, .int (nI sp)), (0, .ref (AD 5 c9)), (1, .int (nI sp)), (2, .ref to), (3, .ref se)]) hx hb dX4_run_17 hl (by decide) rfl (fun ls hl => ?_)
  exact hloop N9 0 sp 0 0 pf PD 0 sf (by omega) hsp (by omega) (by omega) hR G77 k78 k79 k84 k81 hP82 hfj83 _ _ hG hS ls (lv_sub hl [3, 5, 6, 2, 1, 0] rfl)
