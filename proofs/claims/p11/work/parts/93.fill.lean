set_option maxHeartbeats 400000 in
set_option maxRecDepth 100000 in
theorem c_X9_fill (l : Launch) (D : va_G) (cy : Nat → ClassId) (A : Nat → Prop) (X : State → Prop) (hst : mk_St A X) (hXT : ∀ U : State, X U → TB U) (e0 : Nat) (tk : Nat → Nat) (hXE : ∀ U : State, X U → ES e0 tk A U) (mi : Nat) (hXL : ∀ U : State, X U → EL e0 mi A U) (ax adK adV : Nat → Nat) (hXX : ∀ U : State, X U → TX ax adK adV tk A U) (G : Nat → Option va_E) (o ow ed : Nat) (edp : Option Nat) (pl0 fa0 : Int32) (k ks ss vs m0 : Nat) (K0 : Nat → Nat) (S0 : Nat → Int32) (V0 : Nat → Int64) (tx tn9 : Nat) (ft : Nat → Int32) (LA : Nat → Nat) (na : Nat) (wa : Int32) (iu rs : Option Nat) (nv0 : Nat → Int64) (wf0 : Nat → Int32) (h0 : G o = some (.inr (10, [.ref k, .ref ow, va_rf edp, .int pl0, .int fa0]))) (hTB : TKB cy tk G k ks ss vs m0 K0 S0 V0) (htx : G tx = some (.inl (cy 0, 2000, .inl ft))) (htn : tn9 ≤ 2000) (hwf : G ow = some (.inl (cy 1, 3, .inl wf0))) (hed : G ed = some (.inr (3, [.ref (LA 0), .ref (LA 1), .ref (LA 2), .ref (LA 3), .ref (LA 4), .ref (LA 5), .ref na, .int 0, va_rf iu, .int wa, va_rf rs]))) (hna : G na = some (.inl (cy 2, 8, .inr (.inl nv0)))) (hls : ∀ i, i < 6 → G (LA i) = some (.inr (1, [.int 0, .ref e0, .int 0]))) (hla : ∀ i j, i < 6 → j < 6 → LA i = LA j → i = j) : Met l yX9_fill [.code yX9_fill cX9_fill 5 (some .int)] ({ frames := 11, cells := 1900, slots := 13677, locals := 330 }) (mk_Pre D vwCl (tyL cy) A X G [.ref o, .ref ed, .ref tx, .int (nI tn9)]) (va_Qi (fun (r : Int32) (G2 : Nat → Option va_E) => r = (q_fill (tkK ft tn9) (tkS ft tn9) (tkV ft tn9) (tkN ft tn9) EdV.nil (0, -1)).2.2 ∧ ∃ (LB EB : Nat → Nat) (AB : Nat → Nat → Nat) (PB : Nat → Nat) (wf2 : Nat → Int32) (na2 cap2 : Nat) (nv2 : Nat → Int64), G2 o = some (.inr (10, [.ref k, .ref ow, .ref ed, .int (nI ((q_fill (tkK ft tn9) (tkS ft tn9) (tkV ft tn9) (tkN ft tn9) EdV.nil (0, -1)).2).1), .int (((q_fill (tkK ft tn9) (tkS ft tn9) (tkV ft tn9) (tkN ft tn9) EdV.nil (0, -1)).2).2)])) ∧ TKB cy tk G2 k ks ss vs (tkN ft tn9) (tkK ft tn9) (tkS ft tn9) (tkV ft tn9) ∧ G2 ow = some (.inl (cy 1, 3, .inl wf2)) ∧ EDP cy e0 tk G (fun x => x = o ∨ x = ow ∨ x = k ∨ x = ks ∨ x = ss ∨ x = vs ∨ x = ed ∨ x = na ∨ ∃ i, i < 6 ∧ x = LA i) G2 (q_fill (tkK ft tn9) (tkS ft tn9) (tkV ft tn9) (tkN ft tn9) EdV.nil (0, -1)).1 PtV.nil LB EB AB PB ∧ (∀ i, i < 6 → LB i = LA i) ∧ G2 ed = some (.inr (3, [.ref (LA 0), .ref (LA 1), .ref (LA 2), .ref (LA 3), .ref (LA 4), .ref (LA 5), .ref na2, .int (nI (ntL (tkK ft tn9) (tkV ft tn9) (if (q_fill (tkK ft tn9) (tkS ft tn9) (tkV ft tn9) (tkN ft tn9) EdV.nil (0, -1)).2.2 < 0 then tkN ft tn9 else 0)).1), va_rf iu, .int wa, va_rf rs])) ∧ G2 na2 = some (.inl (cy 2, cap2, .inr (.inl nv2))) ∧ (ntL (tkK ft tn9) (tkV ft tn9) (if (q_fill (tkK ft tn9) (tkS ft tn9) (tkV ft tn9) (tkN ft tn9) EdV.nil (0, -1)).2.2 < 0 then tkN ft tn9 else 0)).1 ≤ cap2 ∧ cap2 ≤ 2048 ∧ (∀ i, i < (ntL (tkK ft tn9) (tkV ft tn9) (if (q_fill (tkK ft tn9) (tkS ft tn9) (tkV ft tn9) (tkN ft tn9) EdV.nil (0, -1)).2.2 < 0 then tkN ft tn9 else 0)).1 → nv2 i = (ntL (tkK ft tn9) (tkV ft tn9) (if (q_fill (tkK ft tn9) (tkS ft tn9) (tkV ft tn9) (tkN ft tn9) EdV.nil (0, -1)).2.2 < 0 then tkN ft tn9 else 0)).2 i) ∧ (na2 = na ∨ G na2 = none) ∧ (∀ i, i < (q_fill (tkK ft tn9) (tkS ft tn9) (tkV ft tn9) (tkN ft tn9) EdV.nil (0, -1)).1.nJ → PB i ≠ na2)) (mk_B D vwCl A) A) 1900 13677 A := by
  refine Met.ofW (cc := cX9_fill) (maxL := 5) (ret := (some .int)) (by decide) rfl ?_
  intro p e s m args below meth c s₁ B hml hv
  obtain ⟨rfl, hG, hK, hA, hX⟩ := hv
  have hx := B.exec
  have hb := B.bytes
  have hr := B.returns
  have hlocks := B.notSynchronized
  have hT := hXT s hX
  have hown : s.vm.findClass RX9 = some m.cls := findClass_of_methodNamed B.named
  have hf_X9 : ∀ w ∈ u_ws RX9 TX9 5, w.before ([.ref o, .ref ed, .ref tx, .int (nI tn9)] : List Value).toArray s = true := tb_list hT fX9
  have hf_X12 : ∀ w ∈ u_ws RX12 TX12 4, w.before ([.ref o, .ref ed, .ref tx, .int (nI tn9)] : List Value).toArray s = true := tb_list hT fX12
  have hS : va_S A s.heap s.heap [] := va_S.rf
  have hE := hXE s hX
  have hl := lv_entry ([.ref o, .ref ed, .ref tx, .int (nI tn9)]) (n := 5) (Nat.le_of_ble_eq_true rfl)
  rw [lg_entry_eq]
  generalize (lg_sl ([.ref o, .ref ed, .ref tx, .int (nI tn9)]) ++ List.replicate (5 - (lg_sl ([.ref o, .ref ed, .ref tx, .int (nI tn9)])).length) Slot.unset).toArray = ls at hl ⊢
  have hl : lv_has ls 5 [(0, .ref o), (1, .ref ed), (2, .ref tx), (3, .int (nI tn9))] := hl
  have hQ := hXX s hX
  obtain ⟨fa1, fa2, fa3, hk, hks, hss, hvs, -⟩ := id hTB
  have hL0 := hls 0 (by decide)
  have hL1 := hls 1 (by decide)
  have hL2 := hls 2 (by decide)
  have hL3 := hls 3 (by decide)
  have hL4 := hls 4 (by decide)
  have hL5 := hls 5 (by decide)
  obtain ⟨K, hKd⟩ : ∃ y, y = tkK ft tn9 := ⟨_, rfl⟩
  obtain ⟨S, hSd⟩ : ∃ y, y = tkS ft tn9 := ⟨_, rfl⟩
  obtain ⟨V, hVd⟩ : ∃ y, y = tkV ft tn9 := ⟨_, rfl⟩
  obtain ⟨tn, hNd⟩ : ∃ y, y = tkN ft tn9 := ⟨_, rfl⟩
  have hSn : ∀ p, ¬ S p < 0 := by rw [hSd]; exact fun p => tkS_ge htn p
  obtain ⟨RF, hR⟩ : ∃ y, q_fill K S V tn EdV.nil (0, -1) = y := ⟨_, rfl⟩
  obtain ⟨Lx, hLx⟩ : ∃ P : Nat → Prop, P = (fun x => x = o ∨ x = ow ∨ ∃ i, i < 6 ∧ x = LA i) := ⟨_, rfl⟩
  have hBo : Lx o := by rw [hLx]; exact Or.inl rfl
  have hBw : Lx ow := by rw [hLx]; exact Or.inr (Or.inl rfl)
  have hBl : ∀ i, i < 6 → Lx (LA i) := by rw [hLx]; exact fun i hi => Or.inr (Or.inr ⟨i, hi, rfl⟩)
  have nb_k : ¬ Lx k := by
    rw [hLx]
    rintro (z | z | ⟨i, hi, z⟩)
    · exact mm_ne_oo hk h0 (by decide) z
    · exact mm_ne_oa hk hwf z
    · exact mm_ne_oo hk (hls i hi) (by decide) z
  have nb_ks : ¬ Lx ks := by
    rw [hLx]
    rintro (z | z | ⟨i, hi, z⟩)
    · exact mm_ne_ao hks h0 z
    · exact mm_ne_n hks hwf (by decide) z
    · exact mm_ne_ao hks (hls i hi) z
  have nb_ss : ¬ Lx ss := by
    rw [hLx]
    rintro (z | z | ⟨i, hi, z⟩)
    · exact mm_ne_ao hss h0 z
    · exact mm_ne_n hss hwf (by decide) z
    · exact mm_ne_ao hss (hls i hi) z
  have nb_vs : ¬ Lx vs := by
    rw [hLx]
    rintro (z | z | ⟨i, hi, z⟩)
    · exact mm_ne_ao hvs h0 z
    · exact mm_ne_n hvs hwf (by decide) z
    · exact mm_ne_ao hvs (hls i hi) z
  have nb_ed : ¬ Lx ed := by
    rw [hLx]
    rintro (z | z | ⟨i, hi, z⟩)
    · exact mm_ne_oo hed h0 (by decide) z
    · exact mm_ne_oa hed hwf z
    · exact mm_ne_oo hed (hls i hi) (by decide) z
  have nb_na : ¬ Lx na := by
    rw [hLx]
    rintro (z | z | ⟨i, hi, z⟩)
    · exact mm_ne_ao hna h0 z
    · exact mm_ne_n hna hwf (by decide) z
    · exact mm_ne_ao hna (hls i hi) z
  have hloop : ∀ (n : Nat) (j : Nat) (qv : Nat × Int32) (vv : EdV) (LB EB : Nat → Nat) (AB : Nat → Nat → Nat) (PB : Nat → Nat) (wfv : Nat → Int32) (Gs : Nat → Option va_E) (f1 : Nat → Option Nat) (f2 : Nat → Int32) (f3 : Nat → Int64), (n + j = tn) → (q_fill K S V n vv qv = RF) → (qv.1 ≤ 1600 * j) → (qv.2 < 0 → BDv vv) → (∀ i, i < 6 → LB i = LA i) → (TKP tk tn K S V f1 f2 f3) → (∀ x e, G x = some e → x ≠ o → x ≠ k → x ≠ ks → x ≠ ss → x ≠ vs → Gs x = some e) → (∀ x e, G x = some e → ∃ e2, Gs x = some e2) → (Gs k = some (.inr (13, [.ref ks, .ref ss, .ref vs, .int (nI tn)]))) → (Gs ks = some (.inl (cy 5, 2001, .inr (.inr (.inr (.inr f1)))))) → (Gs ss = some (.inl (cy 1, 2001, .inl f2))) → (Gs vs = some (.inl (cy 2, 2001, .inr (.inl f3)))) → (Gs ed = some (.inr (3, [.ref (LA 0), .ref (LA 1), .ref (LA 2), .ref (LA 3), .ref (LA 4), .ref (LA 5), .ref na, .int 0, va_rf iu, .int wa, va_rf rs]))) → (Gs na = some (.inl (cy 2, 8, .inr (.inl nv0)))) → ∀ (Gv : Nat → Option va_E), (Gv o = some (.inr (10, [.ref k, .ref ow, .ref ed, .int (nI qv.1), .int qv.2]))) → (Gv ow = some (.inl (cy 1, 3, .inl wfv))) → (EDP cy e0 tk Gs Lx Gv vv PtV.nil LB EB AB PB) → ∀ (H : Heap) (locs : List Loc), mm D vwCl A Gv H → va_S A s.heap H locs → ∀ ls : Array Slot, lv_has ls 5 [(0, .ref o), (1, .ref ed), (2, .ref tx), (3, .int (nI tn9)), (4, .int (nI j))] → W p l e (headSpec [.code yX9_fill cX9_fill 5 (some .int)] ({ frames := 11, cells := 1900, slots := 13677, locals := 330 })).room s m ([.ref o, .ref ed, .ref tx, .int (nI tn9)] : List Value).toArray below meth c H locs (coC vv) (coS vv) (MQ below (va_Qi (fun (r : Int32) (G2 : Nat → Option va_E) => r = (q_fill (tkK ft tn9) (tkS ft tn9) (tkV ft tn9) (tkN ft tn9) EdV.nil (0, -1)).2.2 ∧ ∃ (LB EB : Nat → Nat) (AB : Nat → Nat → Nat) (PB : Nat → Nat) (wf2 : Nat → Int32) (na2 cap2 : Nat) (nv2 : Nat → Int64), G2 o = some (.inr (10, [.ref k, .ref ow, .ref ed, .int (nI ((q_fill (tkK ft tn9) (tkS ft tn9) (tkV ft tn9) (tkN ft tn9) EdV.nil (0, -1)).2).1), .int (((q_fill (tkK ft tn9) (tkS ft tn9) (tkV ft tn9) (tkN ft tn9) EdV.nil (0, -1)).2).2)])) ∧ TKB cy tk G2 k ks ss vs (tkN ft tn9) (tkK ft tn9) (tkS ft tn9) (tkV ft tn9) ∧ G2 ow = some (.inl (cy 1, 3, .inl wf2)) ∧ EDP cy e0 tk G (fun x => x = o ∨ x = ow ∨ x = k ∨ x = ks ∨ x = ss ∨ x = vs ∨ x = ed ∨ x = na ∨ ∃ i, i < 6 ∧ x = LA i) G2 (q_fill (tkK ft tn9) (tkS ft tn9) (tkV ft tn9) (tkN ft tn9) EdV.nil (0, -1)).1 PtV.nil LB EB AB PB ∧ (∀ i, i < 6 → LB i = LA i) ∧ G2 ed = some (.inr (3, [.ref (LA 0), .ref (LA 1), .ref (LA 2), .ref (LA 3), .ref (LA 4), .ref (LA 5), .ref na2, .int (nI (ntL (tkK ft tn9) (tkV ft tn9) (if (q_fill (tkK ft tn9) (tkS ft tn9) (tkV ft tn9) (tkN ft tn9) EdV.nil (0, -1)).2.2 < 0 then tkN ft tn9 else 0)).1), va_rf iu, .int wa, va_rf rs])) ∧ G2 na2 = some (.inl (cy 2, cap2, .inr (.inl nv2))) ∧ (ntL (tkK ft tn9) (tkV ft tn9) (if (q_fill (tkK ft tn9) (tkS ft tn9) (tkV ft tn9) (tkN ft tn9) EdV.nil (0, -1)).2.2 < 0 then tkN ft tn9 else 0)).1 ≤ cap2 ∧ cap2 ≤ 2048 ∧ (∀ i, i < (ntL (tkK ft tn9) (tkV ft tn9) (if (q_fill (tkK ft tn9) (tkS ft tn9) (tkV ft tn9) (tkN ft tn9) EdV.nil (0, -1)).2.2 < 0 then tkN ft tn9 else 0)).1 → nv2 i = (ntL (tkK ft tn9) (tkV ft tn9) (if (q_fill (tkK ft tn9) (tkS ft tn9) (tkV ft tn9) (tkN ft tn9) EdV.nil (0, -1)).2.2 < 0 then tkN ft tn9 else 0)).2 i) ∧ (na2 = na ∨ G na2 = none) ∧ (∀ i, i < (q_fill (tkK ft tn9) (tkS ft tn9) (tkV ft tn9) (tkN ft tn9) EdV.nil (0, -1)).1.nJ → PB i ≠ na2)) (mk_B D vwCl A) A) ([.ref o, .ref ed, .ref tx, .int (nI tn9)] : List Value).toArray s 1900 13677 A) (F0 m 27 ls []) := by
    intro n
    induction n with
    | zero =>
      intro j qv vv LB EB AB PB wfv Gs f1 f2 f3 hjn hq hpv hbd hLB hTP hGs hGe s_k s_ks s_ss s_vs s_ed s_na Gv v_o v_ow hP H locs hG hS ls hl
      have v_k : Gv k = some (.inr (13, [.ref ks, .ref ss, .ref vs, .int (nI tn)])) := hP.L.fr _ _ s_k nb_k
      have v_ks : Gv ks = some (.inl (cy 5, 2001, .inr (.inr (.inr (.inr f1))))) := hP.L.fr _ _ s_ks nb_ks
      have v_ss : Gv ss = some (.inl (cy 1, 2001, .inl f2)) := hP.L.fr _ _ s_ss nb_ss
      have v_vs : Gv vs = some (.inl (cy 2, 2001, .inr (.inl f3))) := hP.L.fr _ _ s_vs nb_vs
      have v_ed : Gv ed = some (.inr (3, [.ref (LA 0), .ref (LA 1), .ref (LA 2), .ref (LA 3), .ref (LA 4), .ref (LA 5), .ref na, .int 0, va_rf iu, .int wa, va_rf rs])) := hP.L.fr _ _ s_ed nb_ed
      have v_na : Gv na = some (.inl (cy 2, 8, .inr (.inl nv0))) := hP.L.fr _ _ s_na nb_na
      have htn1 := hTP.1
      have hcC := coC_le (v := vv) hP.b
      have hcS := coS_le (v := vv) hP.b
      refine lv_iload hx hb dX9_fill_27 (lv_at hl 4 rfl) ?_
      refine lv_aload_n hx hb dX9_fill_29 rfl (lv_at hl 0 rfl) ?_
      refine mm_get (v := .ref k) hx hb hf_X9 (fun _ h9 => h9) hown hK hG v_o rfl 0 (by decide) (tb_use hT tw_177) (fun _ h9 => h9) rfl dX9_fill_30 ?_
      refine mm_getN (v := .int (nI tn)) hx hb hf_X12 (fun _ h9 => h9) hown hK hG v_k rfl 3 (by decide) (tb_use hT tw_164) (fun _ h9 => h9) rfl dX9_fill_33 ?_
      refine lv_icmp_ge (tgt := 153) hx hb dX9_fill_36 (by decide) (fun c_36 => ?_) (fun c_36 => ?_)
      · skip
        refine lv_aload_n hx hb dX9_fill_153 rfl (lv_at hl 0 rfl) ?_
        refine va_callv (va_runV (As := []) (rest := []) ⟨hx, hb, hml, hown, (fun _ h9 => absurd h9 List.not_mem_nil : ∀ w ∈ ([] : List Cond), w.before _ s = true)⟩ (c_X9_noteNames l D cy A X hst hXT e0 tk hXE mi hXL Gv o ow ed qv k ks ss vs tn K S V f1 f2 f3 (LA 0) (LA 1) (LA 2) (LA 3) (LA 4) (LA 5) na wa iu rs nv0 v_o v_k v_ks v_ss v_vs hTP v_ed v_na) (tb_cw (C := RX9) 0 hT tw_972 tw_106 tw_969 tw_971 tw_31 rfl rfl hq_X9_noteNames ⟨Nat.le_of_ble_eq_true rfl, Nat.le_of_ble_eq_true rfl⟩) (mk_preC hst hG hK hA hX hS vc_10 v_o) rfl rfl hl.1 rfl (lv_room (Nat.le_of_ble_eq_true rfl)) dX9_fill_154 ⟨(by show coC vv + 8 ≤ 1900; omega), (by show coS vv + 4080 ≤ 13677; omega)⟩) hS (fun q _ h => h) (fun q h => h) (fun  G21 t H locs ht hvm hw hB hz1 hk1 hS => ?_)
        have hG : mm D vwCl A G21 H := by rw [← ht]; exact hB
        clear hB hz1 hk1 hvm ht
        obtain ⟨na2, cap2, nv2, n_1, n_2, n_3, n_4, n_5, n_6, n_7, n_f⟩ := hw
        have h_1 : G21 o = some (.inr (10, [.ref k, .ref ow, .ref ed, .int (nI qv.1), .int qv.2])) := n_f _ _ v_o (mm_ne_oo v_o v_ed (by decide)) (mm_ne_oa v_o v_na)
        refine lv_aload_n hx hb dX9_fill_157 rfl (lv_at hl 0 rfl) ?_
        refine mm_get (v := .int qv.2) hx hb hf_X9 (fun _ h9 => h9) hown hK hG h_1 rfl 4 (by decide) (tb_use hT tw_181) (fun _ h9 => h9) rfl dX9_fill_158 ?_
        have hz : RF = (vv, qv) := by
          rw [← hq]
          first | rfl | (rw [show n = 0 by omega]; rfl)
        have hb1 : ∀ x, Gs x = none → G x = none := fun x hx9 => by
          cases hz9 : G x with
          | none => rfl
          | some e => obtain ⟨e2, h2⟩ := hGe x e hz9; rw [hx9] at h2; cases h2
        have hsub : ∀ x, Lx x → (fun x => x = o ∨ x = ow ∨ x = k ∨ x = ks ∨ x = ss ∨ x = vs ∨ x = ed ∨ x = na ∨ ∃ i, i < 6 ∧ x = LA i) x := by
          intro x z
          rw [hLx] at z
          rcases z with z | z | z
          · exact Or.inl z
          · exact Or.inr (Or.inl z)
          · exact Or.inr (Or.inr (Or.inr (Or.inr (Or.inr (Or.inr (Or.inr (Or.inr z)))))))
        have hb2 : ∀ i, lvV vv i → G (LB i) = none ∨ (fun x => x = o ∨ x = ow ∨ x = k ∨ x = ks ∨ x = ss ∨ x = vs ∨ x = ed ∨ x = na ∨ ∃ i, i < 6 ∧ x = LA i) (LB i) := fun i hi => (hP.L.fl i hi).elim (fun z => Or.inl (hb1 _ z)) (fun z => Or.inr (hsub _ z))
        have hb3 : ∀ x e, G x = some e → ∃ e2, Gv x = some e2 := fun x e h1 => by obtain ⟨e2, h2⟩ := hGe x e h1; exact hP.L.al x e2 h2
        have hb4 : ∀ x e, G x = some e → ¬ (fun x => x = o ∨ x = ow ∨ x = k ∨ x = ks ∨ x = ss ∨ x = vs ∨ x = ed ∨ x = na ∨ ∃ i, i < 6 ∧ x = LA i) x → Gv x = some e := fun x e h1 nb => by
          have z9 := hGs x e h1 (fun z => nb (Or.inl z)) (fun z => nb (Or.inr (Or.inr (Or.inl z)))) (fun z => nb (Or.inr (Or.inr (Or.inr (Or.inl z))))) (fun z => nb (Or.inr (Or.inr (Or.inr (Or.inr (Or.inl z)))))) (fun z => nb (Or.inr (Or.inr (Or.inr (Or.inr (Or.inr (Or.inl z)))))))
          exact hP.L.fr x e z9 (fun z => nb (hsub x z))
        have hP1 : EDP cy e0 tk G (fun x => x = o ∨ x = ow ∨ x = k ∨ x = ks ∨ x = ss ∨ x = vs ∨ x = ed ∨ x = na ∨ ∃ i, i < 6 ∧ x = LA i) Gv vv PtV.nil LB EB AB PB := EDP.base hP hb1 hb2 hb3 hb4
        obtain ⟨a1, a2, a3, a4⟩ := hP.oW (Or.inr rfl) v_ed
        obtain ⟨b1, b2, b3, b4⟩ := hP.nW v_na (by decide)
        have hP3 : EDP cy e0 tk G (fun x => x = o ∨ x = ow ∨ x = k ∨ x = ks ∨ x = ss ∨ x = vs ∨ x = ed ∨ x = na ∨ ∃ i, i < 6 ∧ x = LA i) G21 vv PtV.nil LB EB AB PB := hP1.mvG (fun x => x = ed ∨ x = na) (fun x hx9 => by rcases hx9 with z | z; exact Or.inr (Or.inr (Or.inr (Or.inr (Or.inr (Or.inr (Or.inl z)))))); exact Or.inr (Or.inr (Or.inr (Or.inr (Or.inr (Or.inr (Or.inr (Or.inl z)))))))) (fun i hi z => z.elim (a1 i hi) (b1 i hi)) (fun i hi n z => z.elim (a2 i hi n) (b2 i hi n)) (fun i j hi hj z => z.elim (a3 i j hi hj) (b3 i j hi hj)) (fun i hi z => z.elim (a4 i hi) (b4 i hi)) (fun x hx9 => by rcases hx9 with z | z; exact ⟨_, by rw [z]; exact n_1⟩; rw [z]; exact n_7) (fun x e h1 nb => n_f x e h1 (fun z => nb (Or.inl z)) (fun z => nb (Or.inr z)))
        have hTB2 : TKB cy tk G21 k ks ss vs tn K S V := ⟨f1, f2, f3, n_f _ _ v_k (mm_ne_oo v_k v_ed (by decide)) (mm_ne_oa v_k v_na), n_f _ _ v_ks (mm_ne_ao v_ks v_ed) (mm_ne_n v_ks v_na (by decide)), n_f _ _ v_ss (mm_ne_ao v_ss v_ed) (mm_ne_n v_ss v_na (by decide)), n_f _ _ v_vs (mm_ne_ao v_vs v_ed) (mm_ne_n v_vs v_na (by decide)), hTP.2.2⟩
        have h_w : G21 ow = some (.inl (cy 1, 3, .inl wfv)) := n_f _ _ v_ow (mm_ne_ao v_ow v_ed) (mm_ne_n v_ow v_na (by decide))
        have hpn9 : ∀ i, i < vv.nJ → PB i ≠ na2 := fun i hi z => by rcases n_6 with z1 | z1; exact b4 i hi (by rw [z, z1]); have z3 := hP.pi i hi; rw [z, z1] at z3; cases z3
        have hna9 : na2 = na ∨ G na2 = none := by
          rcases n_6 with z | z
          · exact Or.inl z
          · refine Or.inr ?_
            cases hz9 : G na2 with
            | none => rfl
            | some e => obtain ⟨e2, h2⟩ := hGe _ e hz9; obtain ⟨e3, h3⟩ := hP.L.al _ e2 h2; rw [z] at h3; cases h3
        refine W.widen (k := 1900) (n := 13677) (by omega) (by omega) ?_
        exact W.iret (v := qv.2) hx hb hr (fun t ht hW => ⟨⟨_, _, rfl, (by simp only [← hKd, ← hSd, ← hVd, ← hNd, hR, hz]; exact ⟨(by first | trivial | rfl), LB, EB, AB, PB, wfv, na2, cap2, nv2, h_1, hTB2, h_w, hP3, hLB, n_1, n_2, n_3, n_4, n_5, hna9, hpn9⟩), mk_end hG ht⟩, hS.F ht⟩) hS.2.2 dX9_fill_161
      · skip
        exact absurd (by rw [show j = tn by omega]; exact Int32.le_refl _) c_36
    | succ n ih =>
      intro j qv vv LB EB AB PB wfv Gs f1 f2 f3 hjn hq hpv hbd hLB hTP hGs hGe s_k s_ks s_ss s_vs s_ed s_na Gv v_o v_ow hP H locs hG hS ls hl
      have v_k : Gv k = some (.inr (13, [.ref ks, .ref ss, .ref vs, .int (nI tn)])) := hP.L.fr _ _ s_k nb_k
      have v_ks : Gv ks = some (.inl (cy 5, 2001, .inr (.inr (.inr (.inr f1))))) := hP.L.fr _ _ s_ks nb_ks
      have v_ss : Gv ss = some (.inl (cy 1, 2001, .inl f2)) := hP.L.fr _ _ s_ss nb_ss
      have v_vs : Gv vs = some (.inl (cy 2, 2001, .inr (.inl f3))) := hP.L.fr _ _ s_vs nb_vs
      have v_ed : Gv ed = some (.inr (3, [.ref (LA 0), .ref (LA 1), .ref (LA 2), .ref (LA 3), .ref (LA 4), .ref (LA 5), .ref na, .int 0, va_rf iu, .int wa, va_rf rs])) := hP.L.fr _ _ s_ed nb_ed
      have v_na : Gv na = some (.inl (cy 2, 8, .inr (.inl nv0))) := hP.L.fr _ _ s_na nb_na
      have htn1 := hTP.1
      have hcC := coC_le (v := vv) hP.b
      have hcS := coS_le (v := vv) hP.b
      refine lv_iload hx hb dX9_fill_27 (lv_at hl 4 rfl) ?_
      refine lv_aload_n hx hb dX9_fill_29 rfl (lv_at hl 0 rfl) ?_
      refine mm_get (v := .ref k) hx hb hf_X9 (fun _ h9 => h9) hown hK hG v_o rfl 0 (by decide) (tb_use hT tw_177) (fun _ h9 => h9) rfl dX9_fill_30 ?_
      refine mm_getN (v := .int (nI tn)) hx hb hf_X12 (fun _ h9 => h9) hown hK hG v_k rfl 3 (by decide) (tb_use hT tw_164) (fun _ h9 => h9) rfl dX9_fill_33 ?_
      refine lv_icmp_ge (tgt := 153) hx hb dX9_fill_36 (by decide) (fun c_36 => ?_) (fun c_36 => ?_)
      · skip
        exact absurd c_36 (nI_ge (by omega) (by omega))
      · skip
        refine lv_aload_n hx hb dX9_fill_39 rfl (lv_at hl 0 rfl) ?_
        refine mm_get (v := .int qv.2) hx hb hf_X9 (fun _ h9 => h9) hown hK hG v_o rfl 4 (by decide) (tb_use hT tw_181) (fun _ h9 => h9) rfl dX9_fill_40 ?_
        refine lv_if_ge (tgt := 153) hx hb dX9_fill_43 (by decide) (fun c_43 => ?_) (fun c_43 => ?_)
        · skip
          refine lv_aload_n hx hb dX9_fill_153 rfl (lv_at hl 0 rfl) ?_
          refine va_callv (va_runV (As := []) (rest := []) ⟨hx, hb, hml, hown, (fun _ h9 => absurd h9 List.not_mem_nil : ∀ w ∈ ([] : List Cond), w.before _ s = true)⟩ (c_X9_noteNames l D cy A X hst hXT e0 tk hXE mi hXL Gv o ow ed qv k ks ss vs tn K S V f1 f2 f3 (LA 0) (LA 1) (LA 2) (LA 3) (LA 4) (LA 5) na wa iu rs nv0 v_o v_k v_ks v_ss v_vs hTP v_ed v_na) (tb_cw (C := RX9) 0 hT tw_972 tw_106 tw_969 tw_971 tw_31 rfl rfl hq_X9_noteNames ⟨Nat.le_of_ble_eq_true rfl, Nat.le_of_ble_eq_true rfl⟩) (mk_preC hst hG hK hA hX hS vc_10 v_o) rfl rfl hl.1 rfl (lv_room (Nat.le_of_ble_eq_true rfl)) dX9_fill_154 ⟨(by show coC vv + 8 ≤ 1900; omega), (by show coS vv + 4080 ≤ 13677; omega)⟩) hS (fun q _ h => h) (fun q h => h) (fun  G22 t H locs ht hvm hw hB hz1 hk1 hS => ?_)
          have hG : mm D vwCl A G22 H := by rw [← ht]; exact hB
          clear hB hz1 hk1 hvm ht
          obtain ⟨na2, cap2, nv2, n_1, n_2, n_3, n_4, n_5, n_6, n_7, n_f⟩ := hw
          have h_1 : G22 o = some (.inr (10, [.ref k, .ref ow, .ref ed, .int (nI qv.1), .int qv.2])) := n_f _ _ v_o (mm_ne_oo v_o v_ed (by decide)) (mm_ne_oa v_o v_na)
          refine lv_aload_n hx hb dX9_fill_157 rfl (lv_at hl 0 rfl) ?_
          refine mm_get (v := .int qv.2) hx hb hf_X9 (fun _ h9 => h9) hown hK hG h_1 rfl 4 (by decide) (tb_use hT tw_181) (fun _ h9 => h9) rfl dX9_fill_158 ?_
          have hz : RF = (vv, qv) := by
            rw [← hq]
            first | rfl | rw [q_fill, if_neg (fun z => absurd z.1 (Int32.not_lt.mpr c_43))]
          have hb1 : ∀ x, Gs x = none → G x = none := fun x hx9 => by
            cases hz9 : G x with
            | none => rfl
            | some e => obtain ⟨e2, h2⟩ := hGe x e hz9; rw [hx9] at h2; cases h2
          have hsub : ∀ x, Lx x → (fun x => x = o ∨ x = ow ∨ x = k ∨ x = ks ∨ x = ss ∨ x = vs ∨ x = ed ∨ x = na ∨ ∃ i, i < 6 ∧ x = LA i) x := by
            intro x z
            rw [hLx] at z
            rcases z with z | z | z
            · exact Or.inl z
            · exact Or.inr (Or.inl z)
            · exact Or.inr (Or.inr (Or.inr (Or.inr (Or.inr (Or.inr (Or.inr (Or.inr z)))))))
          have hb2 : ∀ i, lvV vv i → G (LB i) = none ∨ (fun x => x = o ∨ x = ow ∨ x = k ∨ x = ks ∨ x = ss ∨ x = vs ∨ x = ed ∨ x = na ∨ ∃ i, i < 6 ∧ x = LA i) (LB i) := fun i hi => (hP.L.fl i hi).elim (fun z => Or.inl (hb1 _ z)) (fun z => Or.inr (hsub _ z))
          have hb3 : ∀ x e, G x = some e → ∃ e2, Gv x = some e2 := fun x e h1 => by obtain ⟨e2, h2⟩ := hGe x e h1; exact hP.L.al x e2 h2
          have hb4 : ∀ x e, G x = some e → ¬ (fun x => x = o ∨ x = ow ∨ x = k ∨ x = ks ∨ x = ss ∨ x = vs ∨ x = ed ∨ x = na ∨ ∃ i, i < 6 ∧ x = LA i) x → Gv x = some e := fun x e h1 nb => by
            have z9 := hGs x e h1 (fun z => nb (Or.inl z)) (fun z => nb (Or.inr (Or.inr (Or.inl z)))) (fun z => nb (Or.inr (Or.inr (Or.inr (Or.inl z))))) (fun z => nb (Or.inr (Or.inr (Or.inr (Or.inr (Or.inl z)))))) (fun z => nb (Or.inr (Or.inr (Or.inr (Or.inr (Or.inr (Or.inl z)))))))
            exact hP.L.fr x e z9 (fun z => nb (hsub x z))
          have hP1 : EDP cy e0 tk G (fun x => x = o ∨ x = ow ∨ x = k ∨ x = ks ∨ x = ss ∨ x = vs ∨ x = ed ∨ x = na ∨ ∃ i, i < 6 ∧ x = LA i) Gv vv PtV.nil LB EB AB PB := EDP.base hP hb1 hb2 hb3 hb4
          obtain ⟨a1, a2, a3, a4⟩ := hP.oW (Or.inr rfl) v_ed
          obtain ⟨b1, b2, b3, b4⟩ := hP.nW v_na (by decide)
          have hP3 : EDP cy e0 tk G (fun x => x = o ∨ x = ow ∨ x = k ∨ x = ks ∨ x = ss ∨ x = vs ∨ x = ed ∨ x = na ∨ ∃ i, i < 6 ∧ x = LA i) G22 vv PtV.nil LB EB AB PB := hP1.mvG (fun x => x = ed ∨ x = na) (fun x hx9 => by rcases hx9 with z | z; exact Or.inr (Or.inr (Or.inr (Or.inr (Or.inr (Or.inr (Or.inl z)))))); exact Or.inr (Or.inr (Or.inr (Or.inr (Or.inr (Or.inr (Or.inr (Or.inl z)))))))) (fun i hi z => z.elim (a1 i hi) (b1 i hi)) (fun i hi n z => z.elim (a2 i hi n) (b2 i hi n)) (fun i j hi hj z => z.elim (a3 i j hi hj) (b3 i j hi hj)) (fun i hi z => z.elim (a4 i hi) (b4 i hi)) (fun x hx9 => by rcases hx9 with z | z; exact ⟨_, by rw [z]; exact n_1⟩; rw [z]; exact n_7) (fun x e h1 nb => n_f x e h1 (fun z => nb (Or.inl z)) (fun z => nb (Or.inr z)))
          have hTB2 : TKB cy tk G22 k ks ss vs tn K S V := ⟨f1, f2, f3, n_f _ _ v_k (mm_ne_oo v_k v_ed (by decide)) (mm_ne_oa v_k v_na), n_f _ _ v_ks (mm_ne_ao v_ks v_ed) (mm_ne_n v_ks v_na (by decide)), n_f _ _ v_ss (mm_ne_ao v_ss v_ed) (mm_ne_n v_ss v_na (by decide)), n_f _ _ v_vs (mm_ne_ao v_vs v_ed) (mm_ne_n v_vs v_na (by decide)), hTP.2.2⟩
          have h_w : G22 ow = some (.inl (cy 1, 3, .inl wfv)) := n_f _ _ v_ow (mm_ne_ao v_ow v_ed) (mm_ne_n v_ow v_na (by decide))
          have hpn9 : ∀ i, i < vv.nJ → PB i ≠ na2 := fun i hi z => by rcases n_6 with z1 | z1; exact b4 i hi (by rw [z, z1]); have z3 := hP.pi i hi; rw [z, z1] at z3; cases z3
          have hna9 : na2 = na ∨ G na2 = none := by
            rcases n_6 with z | z
            · exact Or.inl z
            · refine Or.inr ?_
              cases hz9 : G na2 with
              | none => rfl
              | some e => obtain ⟨e2, h2⟩ := hGe _ e hz9; obtain ⟨e3, h3⟩ := hP.L.al _ e2 h2; rw [z] at h3; cases h3
          refine W.widen (k := 1900) (n := 13677) (by omega) (by omega) ?_
          exact W.iret (v := qv.2) hx hb hr (fun t ht hW => ⟨⟨_, _, rfl, (by simp only [← hKd, ← hSd, ← hVd, ← hNd, hR, hz]; exact ⟨(by first | trivial | rfl), LB, EB, AB, PB, wfv, na2, cap2, nv2, h_1, hTB2, h_w, hP3, hLB, n_1, n_2, n_3, n_4, n_5, hna9, hpn9⟩), mk_end hG ht⟩, hS.F ht⟩) hS.2.2 dX9_fill_161
        · skip
          refine lv_aload_n hx hb dX9_fill_46 rfl (lv_at hl 0 rfl) ?_
          refine va_gets (v := .ref (tk 2)) hx hb (show va_Z "DescribeText$Token" "END" "LDescribeText$Token;" (.ref (tk 2)) A s s.heap from (hE.2.1 2 (by decide)).1) hS hown (tb_use hT tw_433) (fun _ h9 => h9) dX9_fill_47 ?_
          refine va_calli (va_runV (As := [.ref (tk 2)]) (rest := []) ⟨hx, hb, hml, hown, (fun _ h9 => absurd h9 List.not_mem_nil : ∀ w ∈ ([] : List Cond), w.before _ s = true)⟩ (c_X9_sees l D cy A X hst hXT e0 tk hXE Gv o ow ed qv k ks ss vs tn K S V f1 f2 f3 2 v_o v_k v_ks v_ss v_vs hTP (by first | omega | (simp only []; omega)) (by decide)) (tb_cw (C := RX9) 1 hT tw_437 tw_106 tw_434 tw_436 tw_6 rfl rfl hq_X9_sees ⟨Nat.le_of_ble_eq_true rfl, Nat.le_of_ble_eq_true rfl⟩) (mk_preC hst hG hK hA hX hS vc_10 v_o) rfl rfl hl.1 rfl (lv_room (Nat.le_of_ble_eq_true rfl)) dX9_fill_50 ⟨(by show coC vv + 0 ≤ 1900; omega), (by show coS vv + 0 ≤ 13677; omega)⟩) hS (fun q _ h => h) (fun q h => h) (fun r23 G24 t H locs ht hvm hw hB hz1 hk1 hS => ?_)
          have hG : mm D vwCl A G24 H := by rw [← ht]; exact hB
          clear hB hz1 hk1 hvm ht
          obtain ⟨er23, hw⟩ := hw
          rw [hw] at hG
          refine lv_if_ne (tgt := 153) hx hb dX9_fill_53 (by decide) (fun c_53 => ?_) (fun c_53 => ?_)
          · skip
            refine lv_aload_n hx hb dX9_fill_153 rfl (lv_at hl 0 rfl) ?_
            refine va_callv (va_runV (As := []) (rest := []) ⟨hx, hb, hml, hown, (fun _ h9 => absurd h9 List.not_mem_nil : ∀ w ∈ ([] : List Cond), w.before _ s = true)⟩ (c_X9_noteNames l D cy A X hst hXT e0 tk hXE mi hXL Gv o ow ed qv k ks ss vs tn K S V f1 f2 f3 (LA 0) (LA 1) (LA 2) (LA 3) (LA 4) (LA 5) na wa iu rs nv0 v_o v_k v_ks v_ss v_vs hTP v_ed v_na) (tb_cw (C := RX9) 0 hT tw_972 tw_106 tw_969 tw_971 tw_31 rfl rfl hq_X9_noteNames ⟨Nat.le_of_ble_eq_true rfl, Nat.le_of_ble_eq_true rfl⟩) (mk_preC hst hG hK hA hX hS vc_10 v_o) rfl rfl hl.1 rfl (lv_room (Nat.le_of_ble_eq_true rfl)) dX9_fill_154 ⟨(by show coC vv + 8 ≤ 1900; omega), (by show coS vv + 4080 ≤ 13677; omega)⟩) hS (fun q _ h => h) (fun q h => h) (fun  G25 t H locs ht hvm hw hB hz1 hk1 hS => ?_)
            have hG : mm D vwCl A G25 H := by rw [← ht]; exact hB
            clear hB hz1 hk1 hvm ht
            obtain ⟨na2, cap2, nv2, n_1, n_2, n_3, n_4, n_5, n_6, n_7, n_f⟩ := hw
            have h_1 : G25 o = some (.inr (10, [.ref k, .ref ow, .ref ed, .int (nI qv.1), .int qv.2])) := n_f _ _ v_o (mm_ne_oo v_o v_ed (by decide)) (mm_ne_oa v_o v_na)
            refine lv_aload_n hx hb dX9_fill_157 rfl (lv_at hl 0 rfl) ?_
            refine mm_get (v := .int qv.2) hx hb hf_X9 (fun _ h9 => h9) hown hK hG h_1 rfl 4 (by decide) (tb_use hT tw_181) (fun _ h9 => h9) rfl dX9_fill_158 ?_
            have hz : RF = (vv, qv) := by
              rw [← hq]
              have hse : se K qv.1 qv.2 2 = true := by rw [er23] at c_53; revert c_53; cases se K qv.1 qv.2 2 <;> simp [b2i]
              first | rfl | rw [q_fill, if_neg (fun z => z.2 (se_t hse).2)]
            have hb1 : ∀ x, Gs x = none → G x = none := fun x hx9 => by
              cases hz9 : G x with
              | none => rfl
              | some e => obtain ⟨e2, h2⟩ := hGe x e hz9; rw [hx9] at h2; cases h2
            have hsub : ∀ x, Lx x → (fun x => x = o ∨ x = ow ∨ x = k ∨ x = ks ∨ x = ss ∨ x = vs ∨ x = ed ∨ x = na ∨ ∃ i, i < 6 ∧ x = LA i) x := by
              intro x z
              rw [hLx] at z
              rcases z with z | z | z
              · exact Or.inl z
              · exact Or.inr (Or.inl z)
              · exact Or.inr (Or.inr (Or.inr (Or.inr (Or.inr (Or.inr (Or.inr (Or.inr z)))))))
            have hb2 : ∀ i, lvV vv i → G (LB i) = none ∨ (fun x => x = o ∨ x = ow ∨ x = k ∨ x = ks ∨ x = ss ∨ x = vs ∨ x = ed ∨ x = na ∨ ∃ i, i < 6 ∧ x = LA i) (LB i) := fun i hi => (hP.L.fl i hi).elim (fun z => Or.inl (hb1 _ z)) (fun z => Or.inr (hsub _ z))
            have hb3 : ∀ x e, G x = some e → ∃ e2, Gv x = some e2 := fun x e h1 => by obtain ⟨e2, h2⟩ := hGe x e h1; exact hP.L.al x e2 h2
            have hb4 : ∀ x e, G x = some e → ¬ (fun x => x = o ∨ x = ow ∨ x = k ∨ x = ks ∨ x = ss ∨ x = vs ∨ x = ed ∨ x = na ∨ ∃ i, i < 6 ∧ x = LA i) x → Gv x = some e := fun x e h1 nb => by
              have z9 := hGs x e h1 (fun z => nb (Or.inl z)) (fun z => nb (Or.inr (Or.inr (Or.inl z)))) (fun z => nb (Or.inr (Or.inr (Or.inr (Or.inl z))))) (fun z => nb (Or.inr (Or.inr (Or.inr (Or.inr (Or.inl z)))))) (fun z => nb (Or.inr (Or.inr (Or.inr (Or.inr (Or.inr (Or.inl z)))))))
              exact hP.L.fr x e z9 (fun z => nb (hsub x z))
            have hP1 : EDP cy e0 tk G (fun x => x = o ∨ x = ow ∨ x = k ∨ x = ks ∨ x = ss ∨ x = vs ∨ x = ed ∨ x = na ∨ ∃ i, i < 6 ∧ x = LA i) Gv vv PtV.nil LB EB AB PB := EDP.base hP hb1 hb2 hb3 hb4
            obtain ⟨a1, a2, a3, a4⟩ := hP.oW (Or.inr rfl) v_ed
            obtain ⟨b1, b2, b3, b4⟩ := hP.nW v_na (by decide)
            have hP3 : EDP cy e0 tk G (fun x => x = o ∨ x = ow ∨ x = k ∨ x = ks ∨ x = ss ∨ x = vs ∨ x = ed ∨ x = na ∨ ∃ i, i < 6 ∧ x = LA i) G25 vv PtV.nil LB EB AB PB := hP1.mvG (fun x => x = ed ∨ x = na) (fun x hx9 => by rcases hx9 with z | z; exact Or.inr (Or.inr (Or.inr (Or.inr (Or.inr (Or.inr (Or.inl z)))))); exact Or.inr (Or.inr (Or.inr (Or.inr (Or.inr (Or.inr (Or.inr (Or.inl z)))))))) (fun i hi z => z.elim (a1 i hi) (b1 i hi)) (fun i hi n z => z.elim (a2 i hi n) (b2 i hi n)) (fun i j hi hj z => z.elim (a3 i j hi hj) (b3 i j hi hj)) (fun i hi z => z.elim (a4 i hi) (b4 i hi)) (fun x hx9 => by rcases hx9 with z | z; exact ⟨_, by rw [z]; exact n_1⟩; rw [z]; exact n_7) (fun x e h1 nb => n_f x e h1 (fun z => nb (Or.inl z)) (fun z => nb (Or.inr z)))
            have hTB2 : TKB cy tk G25 k ks ss vs tn K S V := ⟨f1, f2, f3, n_f _ _ v_k (mm_ne_oo v_k v_ed (by decide)) (mm_ne_oa v_k v_na), n_f _ _ v_ks (mm_ne_ao v_ks v_ed) (mm_ne_n v_ks v_na (by decide)), n_f _ _ v_ss (mm_ne_ao v_ss v_ed) (mm_ne_n v_ss v_na (by decide)), n_f _ _ v_vs (mm_ne_ao v_vs v_ed) (mm_ne_n v_vs v_na (by decide)), hTP.2.2⟩
            have h_w : G25 ow = some (.inl (cy 1, 3, .inl wfv)) := n_f _ _ v_ow (mm_ne_ao v_ow v_ed) (mm_ne_n v_ow v_na (by decide))
            have hpn9 : ∀ i, i < vv.nJ → PB i ≠ na2 := fun i hi z => by rcases n_6 with z1 | z1; exact b4 i hi (by rw [z, z1]); have z3 := hP.pi i hi; rw [z, z1] at z3; cases z3
            have hna9 : na2 = na ∨ G na2 = none := by
              rcases n_6 with z | z
              · exact Or.inl z
              · refine Or.inr ?_
                cases hz9 : G na2 with
                | none => rfl
                | some e => obtain ⟨e2, h2⟩ := hGe _ e hz9; obtain ⟨e3, h3⟩ := hP.L.al _ e2 h2; rw [z] at h3; cases h3
            refine W.widen (k := 1900) (n := 13677) (by omega) (by omega) ?_
            exact W.iret (v := qv.2) hx hb hr (fun t ht hW => ⟨⟨_, _, rfl, (by simp only [← hKd, ← hSd, ← hVd, ← hNd, hR, hz]; exact ⟨(by first | trivial | rfl), LB, EB, AB, PB, wfv, na2, cap2, nv2, h_1, hTB2, h_w, hP3, hLB, n_1, n_2, n_3, n_4, n_5, hna9, hpn9⟩), mk_end hG ht⟩, hS.F ht⟩) hS.2.2 dX9_fill_161
          · skip
            have hq0 : qv.2 < 0 := Int32.not_le.mp c_43
            have hse : se K qv.1 qv.2 2 = false := by rw [er23] at c_53; revert c_53; cases se K qv.1 qv.2 2 <;> simp [b2i]
            have hk2 : K qv.1 ≠ 2 := fun z => by rw [se, z, decide_eq_true hq0] at hse; cases hse
            have hti : K qv.1 < 35 := (hTP.2.1 qv.1).1
            refine va_gets (v := .ref (ax 1)) hx hb hQ.2.2.2.2.1 hS hown (tb_use hT tw_442) (fun _ h9 => h9) dX9_fill_56 ?_
            refine lv_aload_n hx hb dX9_fill_59 rfl (lv_at hl 0 rfl) ?_
            refine mm_get (v := .ref k) hx hb hf_X9 (fun _ h9 => h9) hown hK hG v_o rfl 0 (by decide) (tb_use hT tw_177) (fun _ h9 => h9) rfl dX9_fill_60 ?_
            refine lv_aload_n hx hb dX9_fill_63 rfl (lv_at hl 0 rfl) ?_
            refine mm_get (v := .int (nI qv.1)) hx hb hf_X9 (fun _ h9 => h9) hown hK hG v_o rfl 3 (by decide) (tb_use hT tw_180) (fun _ h9 => h9) rfl dX9_fill_64 ?_
            refine va_callq (va_runV (As := [.int (nI qv.1)]) (rest := [.ref (ax 1)]) ⟨hx, hb, hml, hown, (fun _ h9 => absurd h9 List.not_mem_nil : ∀ w ∈ ([] : List Cond), w.before _ s = true)⟩ (c_X12_kind l D cy A X hst hXT e0 tk hXE Gv k ks ss vs tn K S V f1 f2 f3 qv.1 v_k v_ks v_ss v_vs hTP (by first | omega | (simp only []; omega))) (tb_cw (C := RX12) 1 hT tw_441 tw_107 tw_438 tw_439 tw_440 rfl rfl hq_X12_kind ⟨Nat.le_of_ble_eq_true rfl, Nat.le_of_ble_eq_true rfl⟩) (mk_preC hst hG hK hA hX hS vc_13 v_k) rfl rfl hl.1 rfl (lv_room (Nat.le_of_ble_eq_true rfl)) dX9_fill_67 ⟨(by show coC vv + 0 ≤ 1900; omega), (by show coS vv + 0 ≤ 13677; omega)⟩) hS (fun q _ h => h) (fun q h => h) (fun r26 G27 t H locs ht hvm hw hB hz1 hk1 hS => ?_)
            have hG : mm D vwCl A G27 H := by rw [← ht]; exact hB
            clear hB hz1 hk1 hvm ht
            obtain ⟨rfl, hw⟩ := hw
            rw [hw] at hG
            refine va_calli (va_runU (As := []) (rest := [.ref (ax 1)]) ⟨hx, hb, hml, hown, (fun _ h9 => absurd h9 List.not_mem_nil : ∀ w ∈ ([] : List Cond), w.before _ s = true)⟩ (c_ordinal l D cy A X hst hXT e0 tk hXE Gv (K qv.1) hti) (tb_cU (C := RX11) 0 hT tw_449 tw_115 tw_444 tw_448 tw_447 tw_445 rfl rfl rfl (by decide +kernel) ⟨Nat.le_of_ble_eq_true rfl, Nat.le_of_ble_eq_true rfl⟩) (mk_preT hst hG hK hA hX hS hE hti) rfl rfl hl.1 rfl (lv_room (Nat.le_of_ble_eq_true rfl)) dX9_fill_70 ⟨(by show coC vv + 0 ≤ 1900; omega), (by show coS vv + 0 ≤ 13677; omega)⟩) hS (fun q _ h => h) (fun q h => h) (fun r28 G29 t H locs ht hvm hw hB hz1 hk1 hS => ?_)
            have hG : mm D vwCl A G29 H := by rw [← ht]; exact hB
            clear hB hz1 hk1 hvm ht
            obtain ⟨rfl, hw⟩ := hw
            rw [hw] at hG
            refine va_ti (v := .int (swL.getD (K qv.1) 0)) hx hb hQ.2.2.2.2.2.1 hS (nI_in (c := K qv.1) (N := 35) hti (by decide)) (by rw [nI_clamp (n := (K qv.1)) (by omega)]) dX9_fill_73 ?_
            by_cases sw_74 : (swL.getD (K qv.1) 0).toInt < 1 ∨ 5 < (swL.getD (K qv.1) 0).toInt
            · skip
              refine lv_tableOut (tgt := 143) hx hb dX9_fill_74 sw_74 (by decide) ?_
              refine lv_aload_n hx hb dX9_fill_143 rfl (lv_at hl 0 rfl) ?_
              refine va_callv (va_runV (As := []) (rest := []) ⟨hx, hb, hml, hown, (fun _ h9 => absurd h9 List.not_mem_nil : ∀ w ∈ ([] : List Cond), w.before _ s = true)⟩ (c_X9_fail l D cy A X hst hXT e0 tk hXE Gv o ow ed qv k ks ss vs tn K S V f1 f2 f3 v_o v_k v_ks v_ss v_vs hTP (by omega)) (tb_cw (C := RX9) 0 hT tw_465 tw_106 tw_462 tw_464 tw_9 rfl rfl hq_X9_fail ⟨Nat.le_of_ble_eq_true rfl, Nat.le_of_ble_eq_true rfl⟩) (mk_preC hst hG hK hA hX hS vc_10 v_o) rfl rfl hl.1 rfl (lv_room (Nat.le_of_ble_eq_true rfl)) dX9_fill_144 ⟨(by show coC vv + 0 ≤ 1900; omega), (by show coS vv + 0 ≤ 13677; omega)⟩) hS (fun q _ h => h) (fun q h => h) (fun  G30 t H locs ht hvm hw hB hz1 hk1 hS => ?_)
              have hG : mm D vwCl A G30 H := by rw [← ht]; exact hB
              clear hB hz1 hk1 hvm ht
              have h_1 : G30 o = some (.inr (10, [.ref k, .ref ow, .ref ed, .int (nI (qv.1, fl S qv.1 qv.2).1), .int ((qv.1, fl S qv.1 qv.2).2)])) := by rw [hw]; exact mm_set_self
              have h_w : G30 ow = some (.inl (cy 1, 3, .inl wfv)) := by rw [hw]; exact mm_set_of v_ow (mm_ne_ao v_ow v_o)
              have hP2 : EDP cy e0 tk Gs Lx G30 vv PtV.nil LB EB AB PB := EDP.mvo hP hBo v_o h_1 (fun x e h0 n1 => by rw [hw]; exact mm_set_of h0 n1)
              have k31 : G30 k = some (.inr (13, [.ref ks, .ref ss, .ref vs, .int (nI tn)])) := hP2.L.fr _ _ s_k nb_k
              have k32 : G30 ks = some (.inl (cy 5, 2001, .inr (.inr (.inr (.inr f1))))) := hP2.L.fr _ _ s_ks nb_ks
              have k33 : G30 ss = some (.inl (cy 1, 2001, .inl f2)) := hP2.L.fr _ _ s_ss nb_ss
              have k34 : G30 vs = some (.inl (cy 2, 2001, .inr (.inl f3))) := hP2.L.fr _ _ s_vs nb_vs
              have k35 : G30 ed = some (.inr (3, [.ref (LA 0), .ref (LA 1), .ref (LA 2), .ref (LA 3), .ref (LA 4), .ref (LA 5), .ref na, .int 0, va_rf iu, .int wa, va_rf rs])) := hP2.L.fr _ _ s_ed nb_ed
              have k36 : G30 na = some (.inl (cy 2, 8, .inr (.inl nv0))) := hP2.L.fr _ _ s_na nb_na
              obtain ⟨x37, ex37⟩ : ∃ y : Int32, y = (nI j) + 1 := ⟨_, rfl⟩
              refine lv_iinc (v := x37) (lv' := [(4, .int x37), (0, .ref o), (1, .ref ed), (2, .ref tx), (3, .int (nI tn9))]) hx hb dX9_fill_147 hl (k := 4) rfl (by rw [ex37]; rfl) (by decide) rfl (fun ls hl => ?_)
              refine lv_goto (tgt := 27) hx hb dX9_fill_150 (by decide) ?_
              rw [show x37 = nI (j + 1) by rw [ex37]; exact (nI_succ j).symm] at hl
              have hnk : ∀ i, i < 5 → swL.getD (K qv.1) 0 ≠ nI (i + 1) := by
                intro i hi z
                rw [z, nI_toInt (by omega)] at sw_74
                omega
              have hn0 : ¬ K qv.1 = 11 := fun z => hnk 0 (by decide) ((sw_ok _ hti).1.2 z)
              have hn1 : ¬ K qv.1 = 16 := fun z => hnk 1 (by decide) ((sw_ok _ hti).2.1.2 z)
              have hn2 : ¬ K qv.1 = 22 := fun z => hnk 2 (by decide) ((sw_ok _ hti).2.2.1.2 z)
              have hn3 : ¬ K qv.1 = 23 := fun z => hnk 3 (by decide) ((sw_ok _ hti).2.2.2.1.2 z)
              have hn4 : ¬ K qv.1 = 24 := fun z => hnk 4 (by decide) ((sw_ok _ hti).2.2.2.2.2 z)
              have hst9 : q_stm K S V vv qv = (vv, (qv.1, fl S qv.1 qv.2)) := by rw [q_stm, if_neg hn0, if_neg hn1, if_neg hn2, if_neg hn3, if_neg hn4]
              have hq2 : q_fill K S V n vv (qv.1, fl S qv.1 qv.2) = RF := by rw [← hq, q_fill, if_pos ⟨hq0, hk2⟩, hst9]
              have hb2 := @q_stm_b K S V hSn vv qv (hbd hq0)
              rw [hst9] at hb2
              have hle := @q_stm_le K S V vv qv
              rw [hst9] at hle
              refine W.widen (k := coC vv) (n := coS vv) (by omega) (by omega) ?_
              exact ih (j + 1) (qv.1, fl S qv.1 qv.2) vv LB EB AB PB wfv Gs f1 f2 f3 (by omega) hq2 (by simp only [] at hle; omega) hb2.2 hLB hTP hGs hGe s_k s_ks s_ss s_vs s_ed s_na G30 h_1 h_w hP2 _ _ hG hS ls (lv_sub hl [1, 2, 3, 4, 0] rfl)
            · skip
              have hlo : ¬ (swL.getD (K qv.1) 0).toInt < 1 := fun z => sw_74 (Or.inl z)
              have hhi : ¬ 5 < (swL.getD (K qv.1) 0).toInt := fun z => sw_74 (Or.inr z)
              have hcs : (swL.getD (K qv.1) 0).toInt = 1 ∨ (swL.getD (K qv.1) 0).toInt = 2 ∨ (swL.getD (K qv.1) 0).toInt = 3 ∨ (swL.getD (K qv.1) 0).toInt = 4 ∨ (swL.getD (K qv.1) 0).toInt = 5 := by omega
              rcases hcs with sw_74 | sw_74 | sw_74 | sw_74 | sw_74
              · skip
                refine lv_tableIn (tgt := 108) hx hb dX9_fill_74 hlo hhi (off := 34) (by rw [sw_74]; rfl) (by decide) ?_
                refine lv_aload_n hx hb dX9_fill_108 rfl (lv_at hl 0 rfl) ?_
                have hbv := hbd hq0
                unfold BDv at hbv
                have hls2 : LiS cy e0 Gv (LA 0) (EB 0) vv.nC (AB 0) := by have z := hP.ls (k := 0) (by decide); rw [hLB 0 (by decide)] at z; exact z
                have hg9 := gco_le22 vv.nC (by omega)
                refine va_callv (va_runV (As := []) (rest := []) ⟨hx, hb, hml, hown, (fun _ h9 => absurd h9 List.not_mem_nil : ∀ w ∈ ([] : List Cond), w.before _ s = true)⟩ (c_X9_takeCoding l D cy A X hst hXT e0 tk hXE mi hXL Gv o ow ed qv k ks ss vs tn K S V f1 f2 f3 (LA 0) (LA 1) (LA 2) (LA 3) (LA 4) (LA 5) na 0 wa iu rs (EB 0) vv.nC (AB 0) v_o v_k v_ks v_ss v_vs hTP (by omega) v_ed hls2 (hP.lt (k := 0) (by decide)) (by omega)) (tb_cw (C := RX9) 0 hT tw_453 tw_106 tw_450 tw_452 tw_7 rfl rfl hq_X9_takeCoding ⟨Nat.le_of_ble_eq_true rfl, Nat.le_of_ble_eq_true rfl⟩) (mk_preC hst hG hK hA hX hS vc_10 v_o) rfl rfl hl.1 rfl (lv_room (Nat.le_of_ble_eq_true rfl)) dX9_fill_109 ⟨(by show coC vv + 21 ≤ 1900; omega), (by show coS vv + (68 + gco vv.nC) ≤ 13677; omega)⟩) hS (fun q _ h => h) (fun q h => h) (fun  G38 t H locs ht hvm hw hB hz1 hk1 hS => ?_)
                have hG : mm D vwCl A G38 H := by rw [← ht]; exact hB
                clear hB hz1 hk1 hvm ht
                obtain ⟨y39, ey39⟩ : ∃ y, y = q_cod K S V vv.nC qv := ⟨_, rfl⟩
                rw [← ey39] at hw
                obtain ⟨ca, rl, ra, fR, ec2, hcaN, hrlN, hraN, h_1, hl2, hec2, hca2, hLr, hEn, hNw, hne, hf9⟩ := hw
                have hP2 := EDP.cod hP rfl (by omega) hBo v_o h_1 (x := y39.2) hcaN hrlN hraN (by rw [hLB 0 (by decide)]; exact hl2) hec2 hca2 hLr hEn hNw hne (fun x e h0 n1 n2 n3 => hf9 x e h0 n1 (by rw [← hLB 0 (by decide)]; exact n2) n3)
                have h_w : G38 ow = some (.inl (cy 1, 3, .inl wfv)) := hf9 _ _ v_ow (mm_ne_ao v_ow v_o) (Ne.symm (LiS.nal hls2 v_ow)) (fun h1 => LiS.nar hls2 h1 v_ow (by intro gv9 z; have z2 := (Prod.mk.inj (Prod.mk.inj (Sum.inl.inj z)).2).2; cases z2))
                have k40 : G38 k = some (.inr (13, [.ref ks, .ref ss, .ref vs, .int (nI tn)])) := hP2.L.fr _ _ s_k nb_k
                have k41 : G38 ks = some (.inl (cy 5, 2001, .inr (.inr (.inr (.inr f1))))) := hP2.L.fr _ _ s_ks nb_ks
                have k42 : G38 ss = some (.inl (cy 1, 2001, .inl f2)) := hP2.L.fr _ _ s_ss nb_ss
                have k43 : G38 vs = some (.inl (cy 2, 2001, .inr (.inl f3))) := hP2.L.fr _ _ s_vs nb_vs
                have k44 : G38 ed = some (.inr (3, [.ref (LA 0), .ref (LA 1), .ref (LA 2), .ref (LA 3), .ref (LA 4), .ref (LA 5), .ref na, .int 0, va_rf iu, .int wa, va_rf rs])) := hP2.L.fr _ _ s_ed nb_ed
                have k45 : G38 na = some (.inl (cy 2, 8, .inr (.inl nv0))) := hP2.L.fr _ _ s_na nb_na
                refine lv_goto (tgt := 147) hx hb dX9_fill_112 (by decide) ?_
                obtain ⟨x46, ex46⟩ : ∃ y : Int32, y = (nI j) + 1 := ⟨_, rfl⟩
                refine lv_iinc (v := x46) (lv' := [(4, .int x46), (0, .ref o), (1, .ref ed), (2, .ref tx), (3, .int (nI tn9))]) hx hb dX9_fill_147 hl (k := 4) rfl (by rw [ex46]; rfl) (by decide) rfl (fun ls hl => ?_)
                refine lv_goto (tgt := 27) hx hb dX9_fill_150 (by decide) ?_
                rw [show x46 = nI (j + 1) by rw [ex46]; exact (nI_succ j).symm] at hl
                have hkk : K qv.1 = 11 := (sw_ok _ hti).1.1 (i32_of (n := 1) (by decide) sw_74)
                have hst9 : q_stm K S V vv qv = ((vv.addC y39.2), y39.1) := by rw [q_stm, if_pos hkk, ← ey39]
                have hq2 : q_fill K S V n (vv.addC y39.2) y39.1 = RF := by rw [← hq, q_fill, if_pos ⟨hq0, hk2⟩, hst9]
                have hb2 := @q_stm_b K S V hSn vv qv (hbd hq0)
                rw [hst9] at hb2
                have hle := @q_stm_le K S V vv qv
                rw [hst9] at hle
                have hco := @co_C vv y39.2
                refine W.widen (k := coC (vv.addC y39.2)) (n := coS (vv.addC y39.2)) (by omega) (by omega) ?_
                exact ih (j + 1) y39.1 (vv.addC y39.2) (up1 LB (6 + vv.nC) rl) _ _ PB wfv Gs f1 f2 f3 (by omega) hq2 (by simp only [] at hle; omega) hb2.2 (fun i hi => by rw [up1_ne (by omega)]; exact hLB i hi) hTP hGs hGe s_k s_ks s_ss s_vs s_ed s_na G38 h_1 h_w hP2 _ _ hG hS ls (lv_sub hl [1, 2, 3, 4, 0] rfl)
              · skip
                refine lv_tableIn (tgt := 115) hx hb dX9_fill_74 hlo hhi (off := 41) (by rw [sw_74]; rfl) (by decide) ?_
                refine lv_aload_n hx hb dX9_fill_115 rfl (lv_at hl 0 rfl) ?_
                have hbv := hbd hq0
                unfold BDv at hbv
                have hlb := @q_lay_b K S V hSn vv qv (by omega)
                refine va_callv (va_runV (As := []) (rest := []) ⟨hx, hb, hml, hown, (fun _ h9 => absurd h9 List.not_mem_nil : ∀ w ∈ ([] : List Cond), w.before _ s = true)⟩ (c_X9_takeLayer l D cy A X hst hXT e0 tk hXE mi hXL Gv o ow ed qv k ks ss vs tn K S V f1 f2 f3 (LA 0) (LA 1) (LA 2) (LA 3) (LA 4) (LA 5) na 0 wa iu rs Gs Lx vv LB EB AB PB v_o v_k v_ks v_ss v_vs hTP (by omega) v_ed hP ⟨hLB 0 (by decide), hLB 1 (by decide), hLB 2 (by decide), hLB 3 (by decide), hLB 4 (by decide), hLB 5 (by decide)⟩ hBo hSn ⟨by omega, by omega⟩) (tb_cw (C := RX9) 0 hT tw_678 tw_106 tw_675 tw_677 tw_22 rfl rfl hq_X9_takeLayer ⟨Nat.le_of_ble_eq_true rfl, Nat.le_of_ble_eq_true rfl⟩) (mk_preC hst hG hK hA hX hS vc_10 v_o) rfl rfl hl.1 rfl (lv_room (Nat.le_of_ble_eq_true rfl)) dX9_fill_116 ⟨(by show coC vv + (2 + 21 * ((q_lay K S V vv qv).1.nS - vv.nS)) ≤ 1900; omega), (by show coS vv + (28 + 176 * ((q_lay K S V vv qv).1.nS - vv.nS)) ≤ 13677; omega)⟩) hS (fun q _ h => h) (fun q h => h) (fun  G47 t H locs ht hvm hw hB hz1 hk1 hS => ?_)
                have hG : mm D vwCl A G47 H := by rw [← ht]; exact hB
                clear hB hz1 hk1 hvm ht
                obtain ⟨y48, ey48⟩ : ∃ y, y = q_lay K S V vv qv := ⟨_, rfl⟩
                rw [← ey48] at hw
                obtain ⟨LC, EC, AC, h_1, hP2, hLk, hf9⟩ := hw
                have h_w : G47 ow = some (.inl (cy 1, 3, .inl wfv)) := hf9 _ _ v_ow (by
                  have z1 := hP.ls (k := 1) (by decide)
                  have z2 := hP.ls (k := 2) (by decide)
                  rintro (z | z | ⟨h1, z⟩ | z | ⟨h1, z⟩)
                  · exact mm_ne_ao v_ow v_o z
                  · exact LiS.nal z1 v_ow (by rw [hLB 1 (by decide)]; exact z.symm)
                  · exact LiS.nar z1 h1 v_ow (by intro gv9 z; have z2 := (Prod.mk.inj (Prod.mk.inj (Sum.inl.inj z)).2).2; cases z2) z
                  · exact LiS.nal z2 v_ow (by rw [hLB 2 (by decide)]; exact z.symm)
                  · exact LiS.nar z2 h1 v_ow (by intro gv9 z; have z2 := (Prod.mk.inj (Prod.mk.inj (Sum.inl.inj z)).2).2; cases z2) z)
                have k49 : G47 k = some (.inr (13, [.ref ks, .ref ss, .ref vs, .int (nI tn)])) := hP2.L.fr _ _ s_k nb_k
                have k50 : G47 ks = some (.inl (cy 5, 2001, .inr (.inr (.inr (.inr f1))))) := hP2.L.fr _ _ s_ks nb_ks
                have k51 : G47 ss = some (.inl (cy 1, 2001, .inl f2)) := hP2.L.fr _ _ s_ss nb_ss
                have k52 : G47 vs = some (.inl (cy 2, 2001, .inr (.inl f3))) := hP2.L.fr _ _ s_vs nb_vs
                have k53 : G47 ed = some (.inr (3, [.ref (LA 0), .ref (LA 1), .ref (LA 2), .ref (LA 3), .ref (LA 4), .ref (LA 5), .ref na, .int 0, va_rf iu, .int wa, va_rf rs])) := hP2.L.fr _ _ s_ed nb_ed
                have k54 : G47 na = some (.inl (cy 2, 8, .inr (.inl nv0))) := hP2.L.fr _ _ s_na nb_na
                refine lv_goto (tgt := 147) hx hb dX9_fill_119 (by decide) ?_
                obtain ⟨x55, ex55⟩ : ∃ y : Int32, y = (nI j) + 1 := ⟨_, rfl⟩
                refine lv_iinc (v := x55) (lv' := [(4, .int x55), (0, .ref o), (1, .ref ed), (2, .ref tx), (3, .int (nI tn9))]) hx hb dX9_fill_147 hl (k := 4) rfl (by rw [ex55]; rfl) (by decide) rfl (fun ls hl => ?_)
                refine lv_goto (tgt := 27) hx hb dX9_fill_150 (by decide) ?_
                rw [show x55 = nI (j + 1) by rw [ex55]; exact (nI_succ j).symm] at hl
                have hkk : K qv.1 = 16 := (sw_ok _ hti).2.1.1 (i32_of (n := 2) (by decide) sw_74)
                have hst9 : q_stm K S V vv qv = (y48.1, y48.2) := by rw [q_stm, if_neg (by rw [hkk]; decide), if_pos hkk, ← ey48]
                have hq2 : q_fill K S V n y48.1 y48.2 = RF := by rw [← hq, q_fill, if_pos ⟨hq0, hk2⟩, hst9]
                have hb2 := @q_stm_b K S V hSn vv qv (hbd hq0)
                rw [hst9] at hb2
                have hle := @q_stm_le K S V vv qv
                rw [hst9] at hle
                have hco := @co_L K S V vv qv
                rw [← ey48] at hco
                refine W.widen (k := coC y48.1) (n := coS y48.1) (by rw [← ey48]; omega) (by rw [← ey48]; omega) ?_
                exact ih (j + 1) y48.2 y48.1 LC EC AC PB wfv Gs f1 f2 f3 (by omega) hq2 (by simp only [] at hle; omega) hb2.2 (fun i hi => by rw [hLk i hi]; exact hLB i hi) hTP hGs hGe s_k s_ks s_ss s_vs s_ed s_na G47 h_1 h_w hP2 _ _ hG hS ls (lv_sub hl [1, 2, 3, 4, 0] rfl)
              · skip
                refine lv_tableIn (tgt := 122) hx hb dX9_fill_74 hlo hhi (off := 48) (by rw [sw_74]; rfl) (by decide) ?_
                refine lv_aload_n hx hb dX9_fill_122 rfl (lv_at hl 0 rfl) ?_
                have hbv := hbd hq0
                unfold BDv at hbv
                have hls2 : LiS cy e0 Gv (LA 3) (EB 3) vv.nE (AB 3) := by have z := hP.ls (k := 3) (by decide); rw [hLB 3 (by decide)] at z; exact z
                have hg9 := gco_le22 vv.nE (by omega)
                refine va_callv (va_runV (As := []) (rest := []) ⟨hx, hb, hml, hown, (fun _ h9 => absurd h9 List.not_mem_nil : ∀ w ∈ ([] : List Cond), w.before _ s = true)⟩ (c_X9_takeCode l D cy A X hst hXT e0 tk hXE mi hXL Gv o ow ed qv k ks ss vs tn K S V f1 f2 f3 (LA 0) (LA 1) (LA 2) (LA 3) (LA 4) (LA 5) na 0 wa iu rs (EB 3) vv.nE (AB 3) v_o v_k v_ks v_ss v_vs hTP (by omega) v_ed hls2 (hP.lt (k := 3) (by decide)) (by omega)) (tb_cw (C := RX9) 0 hT tw_853 tw_106 tw_850 tw_852 tw_25 rfl rfl hq_X9_takeCode ⟨Nat.le_of_ble_eq_true rfl, Nat.le_of_ble_eq_true rfl⟩) (mk_preC hst hG hK hA hX hS vc_10 v_o) rfl rfl hl.1 rfl (lv_room (Nat.le_of_ble_eq_true rfl)) dX9_fill_123 ⟨(by show coC vv + 2 ≤ 1900; omega), (by show coS vv + (5 + gco vv.nE) ≤ 13677; omega)⟩) hS (fun q _ h => h) (fun q h => h) (fun  G56 t H locs ht hvm hw hB hz1 hk1 hS => ?_)
                have hG : mm D vwCl A G56 H := by rw [← ht]; exact hB
                clear hB hz1 hk1 hvm ht
                obtain ⟨y57, ey57⟩ : ∃ y, y = q_code K S V vv.nE qv := ⟨_, rfl⟩
                rw [← ey57] at hw
                obtain ⟨en, ec2, henN, h_1, hl2, hec2, hen2, hf9⟩ := hw
                have hP2 := EDP.code hP rfl (by omega) hBo v_o h_1 (x := y57.2) henN (by rw [hLB 3 (by decide)]; exact hl2) hec2 hen2 (fun x e h0 n1 n2 n3 => hf9 x e h0 n1 (by rw [← hLB 3 (by decide)]; exact n2) n3)
                have h_w : G56 ow = some (.inl (cy 1, 3, .inl wfv)) := hf9 _ _ v_ow (mm_ne_ao v_ow v_o) (Ne.symm (LiS.nal hls2 v_ow)) (fun h1 => LiS.nar hls2 h1 v_ow (by intro gv9 z; have z2 := (Prod.mk.inj (Prod.mk.inj (Sum.inl.inj z)).2).2; cases z2))
                have k58 : G56 k = some (.inr (13, [.ref ks, .ref ss, .ref vs, .int (nI tn)])) := hP2.L.fr _ _ s_k nb_k
                have k59 : G56 ks = some (.inl (cy 5, 2001, .inr (.inr (.inr (.inr f1))))) := hP2.L.fr _ _ s_ks nb_ks
                have k60 : G56 ss = some (.inl (cy 1, 2001, .inl f2)) := hP2.L.fr _ _ s_ss nb_ss
                have k61 : G56 vs = some (.inl (cy 2, 2001, .inr (.inl f3))) := hP2.L.fr _ _ s_vs nb_vs
                have k62 : G56 ed = some (.inr (3, [.ref (LA 0), .ref (LA 1), .ref (LA 2), .ref (LA 3), .ref (LA 4), .ref (LA 5), .ref na, .int 0, va_rf iu, .int wa, va_rf rs])) := hP2.L.fr _ _ s_ed nb_ed
                have k63 : G56 na = some (.inl (cy 2, 8, .inr (.inl nv0))) := hP2.L.fr _ _ s_na nb_na
                refine lv_goto (tgt := 147) hx hb dX9_fill_126 (by decide) ?_
                obtain ⟨x64, ex64⟩ : ∃ y : Int32, y = (nI j) + 1 := ⟨_, rfl⟩
                refine lv_iinc (v := x64) (lv' := [(4, .int x64), (0, .ref o), (1, .ref ed), (2, .ref tx), (3, .int (nI tn9))]) hx hb dX9_fill_147 hl (k := 4) rfl (by rw [ex64]; rfl) (by decide) rfl (fun ls hl => ?_)
                refine lv_goto (tgt := 27) hx hb dX9_fill_150 (by decide) ?_
                rw [show x64 = nI (j + 1) by rw [ex64]; exact (nI_succ j).symm] at hl
                have hkk : K qv.1 = 22 := (sw_ok _ hti).2.2.1.1 (i32_of (n := 3) (by decide) sw_74)
                have hst9 : q_stm K S V vv qv = ((vv.addE y57.2), y57.1) := by rw [q_stm, if_neg (by rw [hkk]; decide), if_neg (by rw [hkk]; decide), if_pos hkk, ← ey57]
                have hq2 : q_fill K S V n (vv.addE y57.2) y57.1 = RF := by rw [← hq, q_fill, if_pos ⟨hq0, hk2⟩, hst9]
                have hb2 := @q_stm_b K S V hSn vv qv (hbd hq0)
                rw [hst9] at hb2
                have hle := @q_stm_le K S V vv qv
                rw [hst9] at hle
                have hco := @co_E vv y57.2
                refine W.widen (k := coC (vv.addE y57.2)) (n := coS (vv.addE y57.2)) (by omega) (by omega) ?_
                exact ih (j + 1) y57.1 (vv.addE y57.2) LB _ _ PB wfv Gs f1 f2 f3 (by omega) hq2 (by simp only [] at hle; omega) hb2.2 hLB hTP hGs hGe s_k s_ks s_ss s_vs s_ed s_na G56 h_1 h_w hP2 _ _ hG hS ls (lv_sub hl [1, 2, 3, 4, 0] rfl)
              · skip
                refine lv_tableIn (tgt := 129) hx hb dX9_fill_74 hlo hhi (off := 55) (by rw [sw_74]; rfl) (by decide) ?_
                refine lv_aload_n hx hb dX9_fill_129 rfl (lv_at hl 0 rfl) ?_
                have hbv := hbd hq0
                unfold BDv at hbv
                have hls2 : LiS cy e0 Gv (LA 4) (EB 4) vv.nV (AB 4) := by have z := hP.ls (k := 4) (by decide); rw [hLB 4 (by decide)] at z; exact z
                have hg9 := gco_le22 vv.nV (by omega)
                refine va_callv (va_runV (As := []) (rest := []) ⟨hx, hb, hml, hown, (fun _ h9 => absurd h9 List.not_mem_nil : ∀ w ∈ ([] : List Cond), w.before _ s = true)⟩ (c_X9_takeVariant l D cy A X hst hXT e0 tk hXE mi hXL Gv o ow ed qv k ks ss vs tn K S V f1 f2 f3 (LA 0) (LA 1) (LA 2) (LA 3) (LA 4) (LA 5) na 0 wa iu rs (EB 4) vv.nV (AB 4) v_o v_k v_ks v_ss v_vs hTP (by omega) v_ed hls2 (hP.lt (k := 4) (by decide)) (by omega)) (tb_cw (C := RX9) 0 hT tw_857 tw_106 tw_854 tw_856 tw_26 rfl rfl hq_X9_takeVariant ⟨Nat.le_of_ble_eq_true rfl, Nat.le_of_ble_eq_true rfl⟩) (mk_preC hst hG hK hA hX hS vc_10 v_o) rfl rfl hl.1 rfl (lv_room (Nat.le_of_ble_eq_true rfl)) dX9_fill_130 ⟨(by show coC vv + 2 ≤ 1900; omega), (by show coS vv + (5 + gco vv.nV) ≤ 13677; omega)⟩) hS (fun q _ h => h) (fun q h => h) (fun  G65 t H locs ht hvm hw hB hz1 hk1 hS => ?_)
                have hG : mm D vwCl A G65 H := by rw [← ht]; exact hB
                clear hB hz1 hk1 hvm ht
                obtain ⟨y66, ey66⟩ : ∃ y, y = q_vari K S V vv.nV qv := ⟨_, rfl⟩
                rw [← ey66] at hw
                obtain ⟨en, ec2, henN, h_1, hl2, hec2, hen2, hf9⟩ := hw
                have hP2 := EDP.vari hP rfl (by omega) hBo v_o h_1 (x := y66.2) henN (by rw [hLB 4 (by decide)]; exact hl2) hec2 hen2 (fun x e h0 n1 n2 n3 => hf9 x e h0 n1 (by rw [← hLB 4 (by decide)]; exact n2) n3)
                have h_w : G65 ow = some (.inl (cy 1, 3, .inl wfv)) := hf9 _ _ v_ow (mm_ne_ao v_ow v_o) (Ne.symm (LiS.nal hls2 v_ow)) (fun h1 => LiS.nar hls2 h1 v_ow (by intro gv9 z; have z2 := (Prod.mk.inj (Prod.mk.inj (Sum.inl.inj z)).2).2; cases z2))
                have k67 : G65 k = some (.inr (13, [.ref ks, .ref ss, .ref vs, .int (nI tn)])) := hP2.L.fr _ _ s_k nb_k
                have k68 : G65 ks = some (.inl (cy 5, 2001, .inr (.inr (.inr (.inr f1))))) := hP2.L.fr _ _ s_ks nb_ks
                have k69 : G65 ss = some (.inl (cy 1, 2001, .inl f2)) := hP2.L.fr _ _ s_ss nb_ss
                have k70 : G65 vs = some (.inl (cy 2, 2001, .inr (.inl f3))) := hP2.L.fr _ _ s_vs nb_vs
                have k71 : G65 ed = some (.inr (3, [.ref (LA 0), .ref (LA 1), .ref (LA 2), .ref (LA 3), .ref (LA 4), .ref (LA 5), .ref na, .int 0, va_rf iu, .int wa, va_rf rs])) := hP2.L.fr _ _ s_ed nb_ed
                have k72 : G65 na = some (.inl (cy 2, 8, .inr (.inl nv0))) := hP2.L.fr _ _ s_na nb_na
                refine lv_goto (tgt := 147) hx hb dX9_fill_133 (by decide) ?_
                obtain ⟨x73, ex73⟩ : ∃ y : Int32, y = (nI j) + 1 := ⟨_, rfl⟩
                refine lv_iinc (v := x73) (lv' := [(4, .int x73), (0, .ref o), (1, .ref ed), (2, .ref tx), (3, .int (nI tn9))]) hx hb dX9_fill_147 hl (k := 4) rfl (by rw [ex73]; rfl) (by decide) rfl (fun ls hl => ?_)
                refine lv_goto (tgt := 27) hx hb dX9_fill_150 (by decide) ?_
                rw [show x73 = nI (j + 1) by rw [ex73]; exact (nI_succ j).symm] at hl
                have hkk : K qv.1 = 23 := (sw_ok _ hti).2.2.2.1.1 (i32_of (n := 4) (by decide) sw_74)
                have hst9 : q_stm K S V vv qv = ((vv.addV y66.2), y66.1) := by rw [q_stm, if_neg (by rw [hkk]; decide), if_neg (by rw [hkk]; decide), if_neg (by rw [hkk]; decide), if_pos hkk, ← ey66]
                have hq2 : q_fill K S V n (vv.addV y66.2) y66.1 = RF := by rw [← hq, q_fill, if_pos ⟨hq0, hk2⟩, hst9]
                have hb2 := @q_stm_b K S V hSn vv qv (hbd hq0)
                rw [hst9] at hb2
                have hle := @q_stm_le K S V vv qv
                rw [hst9] at hle
                have hco := @co_V vv y66.2
                refine W.widen (k := coC (vv.addV y66.2)) (n := coS (vv.addV y66.2)) (by omega) (by omega) ?_
                exact ih (j + 1) y66.1 (vv.addV y66.2) LB _ _ PB wfv Gs f1 f2 f3 (by omega) hq2 (by simp only [] at hle; omega) hb2.2 hLB hTP hGs hGe s_k s_ks s_ss s_vs s_ed s_na G65 h_1 h_w hP2 _ _ hG hS ls (lv_sub hl [1, 2, 3, 4, 0] rfl)
              · skip
                refine lv_tableIn (tgt := 136) hx hb dX9_fill_74 hlo hhi (off := 62) (by rw [sw_74]; rfl) (by decide) ?_
                refine lv_aload_n hx hb dX9_fill_136 rfl (lv_at hl 0 rfl) ?_
                have hbv := hbd hq0
                unfold BDv at hbv
                have hls2 : LiS cy e0 Gv (LA 5) (EB 5) vv.nJ (AB 5) := by have z := hP.ls (k := 5) (by decide); rw [hLB 5 (by decide)] at z; exact z
                have hg9 := gco_le22 vv.nJ (by omega)
                refine va_callv (va_runV (As := []) (rest := []) ⟨hx, hb, hml, hown, (fun _ h9 => absurd h9 List.not_mem_nil : ∀ w ∈ ([] : List Cond), w.before _ s = true)⟩ (c_X9_takeJob l D cy A X hst hXT e0 tk hXE mi hXL Gv o ow ed qv k ks ss vs tn K S V f1 f2 f3 (LA 0) (LA 1) (LA 2) (LA 3) (LA 4) (LA 5) na 0 wa iu rs wfv (EB 5) vv.nJ (AB 5) v_o v_k v_ks v_ss v_vs hTP (by omega) v_ed v_ow hls2 (hP.lt (k := 5) (by decide)) (by omega)) (tb_cw (C := RX9) 0 hT tw_861 tw_106 tw_858 tw_860 tw_27 rfl rfl hq_X9_takeJob ⟨Nat.le_of_ble_eq_true rfl, Nat.le_of_ble_eq_true rfl⟩) (mk_preC hst hG hK hA hX hS vc_10 v_o) rfl rfl hl.1 rfl (lv_room (Nat.le_of_ble_eq_true rfl)) dX9_fill_137 ⟨(by show coC vv + 166 ≤ 1900; omega), (by show coS vv + (1064 + gco vv.nJ) ≤ 13677; omega)⟩) hS (fun q _ h => h) (fun q h => h) (fun  G74 t H locs ht hvm hw hB hz1 hk1 hS => ?_)
                have hG : mm D vwCl A G74 H := by rw [← ht]; exact hB
                clear hB hz1 hk1 hvm ht
                rw [q_job_wf] at hw
                obtain ⟨y75, ey75⟩ : ∃ y, y = q_job K S V vv.nJ qv (fun _ => 0) := ⟨_, rfl⟩
                rw [← ey75] at hw
                obtain ⟨ja, ol, oe, pi, fO, ec2, wf2, hjaN, holN, hpiN, hoeN, h_1, h_w, hl2, hec2, hja2, hpi2, hLo, hOp, hNw, hne, hf9⟩ := hw
                have hP2 := EDP.job hP rfl (by omega) hBo hBw v_o h_1 v_ow h_w (x := y75.2) hjaN holN hpiN hoeN (by rw [hLB 5 (by decide)]; exact hl2) hec2 hja2 hpi2 hLo hOp hNw hne (fun x e h0 n1 n2 n3 n4 => hf9 x e h0 n1 n2 (by rw [← hLB 5 (by decide)]; exact n3) n4)
                have k76 : G74 k = some (.inr (13, [.ref ks, .ref ss, .ref vs, .int (nI tn)])) := hP2.L.fr _ _ s_k nb_k
                have k77 : G74 ks = some (.inl (cy 5, 2001, .inr (.inr (.inr (.inr f1))))) := hP2.L.fr _ _ s_ks nb_ks
                have k78 : G74 ss = some (.inl (cy 1, 2001, .inl f2)) := hP2.L.fr _ _ s_ss nb_ss
                have k79 : G74 vs = some (.inl (cy 2, 2001, .inr (.inl f3))) := hP2.L.fr _ _ s_vs nb_vs
                have k80 : G74 ed = some (.inr (3, [.ref (LA 0), .ref (LA 1), .ref (LA 2), .ref (LA 3), .ref (LA 4), .ref (LA 5), .ref na, .int 0, va_rf iu, .int wa, va_rf rs])) := hP2.L.fr _ _ s_ed nb_ed
                have k81 : G74 na = some (.inl (cy 2, 8, .inr (.inl nv0))) := hP2.L.fr _ _ s_na nb_na
                refine lv_goto (tgt := 147) hx hb dX9_fill_140 (by decide) ?_
                obtain ⟨x82, ex82⟩ : ∃ y : Int32, y = (nI j) + 1 := ⟨_, rfl⟩
                refine lv_iinc (v := x82) (lv' := [(4, .int x82), (0, .ref o), (1, .ref ed), (2, .ref tx), (3, .int (nI tn9))]) hx hb dX9_fill_147 hl (k := 4) rfl (by rw [ex82]; rfl) (by decide) rfl (fun ls hl => ?_)
                refine lv_goto (tgt := 27) hx hb dX9_fill_150 (by decide) ?_
                rw [show x82 = nI (j + 1) by rw [ex82]; exact (nI_succ j).symm] at hl
                have hkk : K qv.1 = 24 := (sw_ok _ hti).2.2.2.2.1 (i32_of (n := 5) (by decide) sw_74)
                have hst9 : q_stm K S V vv qv = ((vv.addJ y75.2), y75.1) := by rw [q_stm, if_neg (by rw [hkk]; decide), if_neg (by rw [hkk]; decide), if_neg (by rw [hkk]; decide), if_neg (by rw [hkk]; decide), if_pos hkk, ← ey75]
                have hq2 : q_fill K S V n (vv.addJ y75.2) y75.1 = RF := by rw [← hq, q_fill, if_pos ⟨hq0, hk2⟩, hst9]
                have hb2 := @q_stm_b K S V hSn vv qv (hbd hq0)
                rw [hst9] at hb2
                have hle := @q_stm_le K S V vv qv
                rw [hst9] at hle
                have hco := @co_J vv y75.2
                refine W.widen (k := coC (vv.addJ y75.2)) (n := coS (vv.addJ y75.2)) (by omega) (by omega) ?_
                exact ih (j + 1) y75.1 (vv.addJ y75.2) (up1 LB (40 + vv.nJ) ol) _ _ _ wf2 Gs f1 f2 f3 (by omega) hq2 (by simp only [] at hle; omega) hb2.2 (fun i hi => by rw [up1_ne (by omega)]; exact hLB i hi) hTP hGs hGe s_k s_ks s_ss s_vs s_ed s_na G74 h_1 h_w hP2 _ _ hG hS ls (lv_sub hl [1, 2, 3, 4, 0] rfl)
  refine lv_aload_n hx hb dX9_fill_0 rfl (lv_at hl 0 rfl) ?_
  refine mm_get (v := .ref k) hx hb hf_X9 (fun _ h9 => h9) hown hK hG h0 rfl 0 (by decide) (tb_use hT tw_177) (fun _ h9 => h9) rfl dX9_fill_1 ?_
  refine lv_aload_n hx hb dX9_fill_4 rfl (lv_at hl 2 rfl) ?_
  refine lv_iload_n hx hb dX9_fill_5 rfl (lv_at hl 3 rfl) ?_
  refine va_callv (va_runV (As := [.ref tx, .int (nI tn9)]) (rest := []) ⟨hx, hb, hml, hown, (fun _ h9 => absurd h9 List.not_mem_nil : ∀ w ∈ ([] : List Cond), w.before _ s = true)⟩ (c_X12_cut l D cy A X hst hXT e0 tk hXE mi hXL ax adK adV hXX G k ks ss vs m0 K0 S0 V0 tx tn9 ft hTB htx htn ⟨(mm_ne_ao htx hk), (mm_ne_e htx hks (fun z => by have z2 := (Prod.mk.inj (Prod.mk.inj (Sum.inl.inj z)).2).2; cases z2)), (mm_ne_n htx hss (by decide)), (mm_ne_e htx hvs (fun z => by have z2 := (Prod.mk.inj (Prod.mk.inj (Sum.inl.inj z)).2).2; cases z2))⟩) (tb_cw (C := RX12) 2 hT tw_332 tw_107 tw_329 tw_330 tw_331 rfl rfl hq_X12_cut ⟨Nat.le_of_ble_eq_true rfl, Nat.le_of_ble_eq_true rfl⟩) (mk_preC hst hG hK hA hX hS vc_13 hk) rfl rfl hl.1 rfl (lv_room (Nat.le_of_ble_eq_true rfl)) dX9_fill_6 ⟨Nat.le_of_ble_eq_true rfl, Nat.le_of_ble_eq_true rfl⟩) hS (fun q _ h => h) (fun q h => h) (fun  G83 t H locs ht hvm hw hB hz1 hk1 hS => ?_)
  have hG : mm D vwCl A G83 H := by rw [← ht]; exact hB
  clear hB hz1 hk1 hvm ht
  rw [← hKd, ← hSd, ← hVd, ← hNd] at hw
  obtain ⟨hT2, hK35, hKo, hf2⟩ := hw
  obtain ⟨f1, f2, f3, g_k, g_ks, g_ss, g_vs, htk⟩ := hT2
  have hTP : TKP tk tn K S V f1 f2 f3 := ⟨hK35.2, fun j => ⟨hK35.1 j, hKo j⟩, htk⟩
  have k84 : G83 o = some (.inr (10, [.ref k, .ref ow, va_rf edp, .int pl0, .int fa0])) := hf2 _ _ h0 (mm_ne_oo h0 hk (by decide)) (mm_ne_oa h0 hks) (mm_ne_oa h0 hss) (mm_ne_oa h0 hvs)
  have k85 : G83 tx = some (.inl (cy 0, 2000, .inl ft)) := hf2 _ _ htx (mm_ne_ao htx hk) (mm_ne_e htx hks (fun z => by have z2 := (Prod.mk.inj (Prod.mk.inj (Sum.inl.inj z)).2).2; cases z2)) (mm_ne_n htx hss (by decide)) (mm_ne_e htx hvs (fun z => by have z2 := (Prod.mk.inj (Prod.mk.inj (Sum.inl.inj z)).2).2; cases z2))
  have k86 : G83 ow = some (.inl (cy 1, 3, .inl wf0)) := hf2 _ _ hwf (mm_ne_ao hwf hk) (mm_ne_e hwf hks (fun z => by have z2 := (Prod.mk.inj (Prod.mk.inj (Sum.inl.inj z)).2).2; cases z2)) (mm_ne_n hwf hss (by decide)) (mm_ne_e hwf hvs (fun z => by have z2 := (Prod.mk.inj (Prod.mk.inj (Sum.inl.inj z)).2).2; cases z2))
  have k87 : G83 ed = some (.inr (3, [.ref (LA 0), .ref (LA 1), .ref (LA 2), .ref (LA 3), .ref (LA 4), .ref (LA 5), .ref na, .int 0, va_rf iu, .int wa, va_rf rs])) := hf2 _ _ hed (mm_ne_oo hed hk (by decide)) (mm_ne_oa hed hks) (mm_ne_oa hed hss) (mm_ne_oa hed hvs)
  have k88 : G83 na = some (.inl (cy 2, 8, .inr (.inl nv0))) := hf2 _ _ hna (mm_ne_ao hna hk) (mm_ne_e hna hks (fun z => by have z2 := (Prod.mk.inj (Prod.mk.inj (Sum.inl.inj z)).2).2; cases z2)) (mm_ne_e hna hss (fun z => by have z2 := (Prod.mk.inj (Prod.mk.inj (Sum.inl.inj z)).2).2; cases z2)) (mm_ne_n hna hvs (by decide))
  have k89 : G83 (LA 0) = some (.inr (1, [.int 0, .ref e0, .int 0])) := hf2 _ _ hL0 (mm_ne_oo hL0 hk (by decide)) (mm_ne_oa hL0 hks) (mm_ne_oa hL0 hss) (mm_ne_oa hL0 hvs)
  have k90 : G83 (LA 1) = some (.inr (1, [.int 0, .ref e0, .int 0])) := hf2 _ _ hL1 (mm_ne_oo hL1 hk (by decide)) (mm_ne_oa hL1 hks) (mm_ne_oa hL1 hss) (mm_ne_oa hL1 hvs)
  have k91 : G83 (LA 2) = some (.inr (1, [.int 0, .ref e0, .int 0])) := hf2 _ _ hL2 (mm_ne_oo hL2 hk (by decide)) (mm_ne_oa hL2 hks) (mm_ne_oa hL2 hss) (mm_ne_oa hL2 hvs)
  have k92 : G83 (LA 3) = some (.inr (1, [.int 0, .ref e0, .int 0])) := hf2 _ _ hL3 (mm_ne_oo hL3 hk (by decide)) (mm_ne_oa hL3 hks) (mm_ne_oa hL3 hss) (mm_ne_oa hL3 hvs)
  have k93 : G83 (LA 4) = some (.inr (1, [.int 0, .ref e0, .int 0])) := hf2 _ _ hL4 (mm_ne_oo hL4 hk (by decide)) (mm_ne_oa hL4 hks) (mm_ne_oa hL4 hss) (mm_ne_oa hL4 hvs)
  have k94 : G83 (LA 5) = some (.inr (1, [.int 0, .ref e0, .int 0])) := hf2 _ _ hL5 (mm_ne_oo hL5 hk (by decide)) (mm_ne_oa hL5 hks) (mm_ne_oa hL5 hss) (mm_ne_oa hL5 hvs)
  have hGe1 : ∀ x e, G x = some e → ∃ e2, G83 x = some e2 := by
    intro x e hx9
    by_cases z1 : x = k
    · exact ⟨_, by rw [z1]; exact g_k⟩
    by_cases z2 : x = ks
    · exact ⟨_, by rw [z2]; exact g_ks⟩
    by_cases z3 : x = ss
    · exact ⟨_, by rw [z3]; exact g_ss⟩
    by_cases z4 : x = vs
    · exact ⟨_, by rw [z4]; exact g_vs⟩
    exact ⟨e, hf2 x e hx9 z1 z2 z3 z4⟩
  refine lv_aload_n hx hb dX9_fill_9 rfl (lv_at hl 0 rfl) ?_
  refine lv_aload_n hx hb dX9_fill_10 rfl (lv_at hl 1 rfl) ?_
  refine mm_put (v := .ref ed) (ty := .object "DescribeText$Edition") hx hb hf_X9 (fun _ h9 => h9) tyX9 tyX9_ok nmX9 hown hK hG hS k84 rfl 2 (by decide) (tb_use hT tw_179) (fun _ h9 => h9) rfl (by decide +kernel) rfl rfl (Nat.le_of_ble_eq_true rfl) dX9_fill_11 (fun H locs hG hS => ?_)
  obtain ⟨G95, eG95⟩ : ∃ g, g = mm_set G83 o (.inr (10, [.ref k, .ref ow, .ref ed, .int pl0, .int fa0])) := ⟨_, rfl⟩
  have hG : mm D vwCl A G95 H := by rw [eG95]; exact hG
  have k96 : G95 o = some (.inr (10, [.ref k, .ref ow, .ref ed, .int pl0, .int fa0])) := by rw [eG95]; exact mm_set_self
  have k97 : G95 tx = some (.inl (cy 0, 2000, .inl ft)) := by rw [eG95]; exact mm_set_of k85 (mm_ne_ao k85 k84)
  have k98 : G95 ow = some (.inl (cy 1, 3, .inl wf0)) := by rw [eG95]; exact mm_set_of k86 (mm_ne_ao k86 k84)
  have k99 : G95 ed = some (.inr (3, [.ref (LA 0), .ref (LA 1), .ref (LA 2), .ref (LA 3), .ref (LA 4), .ref (LA 5), .ref na, .int 0, va_rf iu, .int wa, va_rf rs])) := by rw [eG95]; exact mm_set_of k87 (mm_ne_oo k87 k84 (by decide))
  have k100 : G95 na = some (.inl (cy 2, 8, .inr (.inl nv0))) := by rw [eG95]; exact mm_set_of k88 (mm_ne_ao k88 k84)
  have k101 : G95 (LA 0) = some (.inr (1, [.int 0, .ref e0, .int 0])) := by rw [eG95]; exact mm_set_of k89 (mm_ne_oo k89 k84 (by decide))
  have k102 : G95 (LA 1) = some (.inr (1, [.int 0, .ref e0, .int 0])) := by rw [eG95]; exact mm_set_of k90 (mm_ne_oo k90 k84 (by decide))
  have k103 : G95 (LA 2) = some (.inr (1, [.int 0, .ref e0, .int 0])) := by rw [eG95]; exact mm_set_of k91 (mm_ne_oo k91 k84 (by decide))
  have k104 : G95 (LA 3) = some (.inr (1, [.int 0, .ref e0, .int 0])) := by rw [eG95]; exact mm_set_of k92 (mm_ne_oo k92 k84 (by decide))
  have k105 : G95 (LA 4) = some (.inr (1, [.int 0, .ref e0, .int 0])) := by rw [eG95]; exact mm_set_of k93 (mm_ne_oo k93 k84 (by decide))
  have k106 : G95 (LA 5) = some (.inr (1, [.int 0, .ref e0, .int 0])) := by rw [eG95]; exact mm_set_of k94 (mm_ne_oo k94 k84 (by decide))
  have k107 : G95 k = some (.inr (13, [.ref ks, .ref ss, .ref vs, .int (nI tn)])) := by rw [eG95]; exact mm_set_of g_k (mm_ne_oo g_k k84 (by decide))
  have k108 : G95 ks = some (.inl (cy 5, 2001, .inr (.inr (.inr (.inr f1))))) := by rw [eG95]; exact mm_set_of g_ks (mm_ne_ao g_ks k84)
  have k109 : G95 ss = some (.inl (cy 1, 2001, .inl f2)) := by rw [eG95]; exact mm_set_of g_ss (mm_ne_ao g_ss k84)
  have k110 : G95 vs = some (.inl (cy 2, 2001, .inr (.inl f3))) := by rw [eG95]; exact mm_set_of g_vs (mm_ne_ao g_vs k84)
  refine lv_aload_n hx hb dX9_fill_14 rfl (lv_at hl 0 rfl) ?_
  refine lv_iconst (v := 0) hx hb dX9_fill_15 (by decide) ?_
  refine mm_put (v := .int 0) (ty := .int) hx hb hf_X9 (fun _ h9 => h9) tyX9 tyX9_ok nmX9 hown hK hG hS k96 rfl 3 (by decide) (tb_use hT tw_180) (fun _ h9 => h9) rfl (by decide +kernel) rfl rfl (Nat.le_of_ble_eq_true rfl) dX9_fill_16 (fun H locs hG hS => ?_)
  obtain ⟨G111, eG111⟩ : ∃ g, g = mm_set G95 o (.inr (10, [.ref k, .ref ow, .ref ed, .int 0, .int fa0])) := ⟨_, rfl⟩
  have hG : mm D vwCl A G111 H := by rw [eG111]; exact hG
  have k112 : G111 o = some (.inr (10, [.ref k, .ref ow, .ref ed, .int 0, .int fa0])) := by rw [eG111]; exact mm_set_self
  have k113 : G111 tx = some (.inl (cy 0, 2000, .inl ft)) := by rw [eG111]; exact mm_set_of k97 (mm_ne_ao k97 k96)
  have k114 : G111 ow = some (.inl (cy 1, 3, .inl wf0)) := by rw [eG111]; exact mm_set_of k98 (mm_ne_ao k98 k96)
  have k115 : G111 ed = some (.inr (3, [.ref (LA 0), .ref (LA 1), .ref (LA 2), .ref (LA 3), .ref (LA 4), .ref (LA 5), .ref na, .int 0, va_rf iu, .int wa, va_rf rs])) := by rw [eG111]; exact mm_set_of k99 (mm_ne_oo k99 k96 (by decide))
  have k116 : G111 na = some (.inl (cy 2, 8, .inr (.inl nv0))) := by rw [eG111]; exact mm_set_of k100 (mm_ne_ao k100 k96)
  have k117 : G111 (LA 0) = some (.inr (1, [.int 0, .ref e0, .int 0])) := by rw [eG111]; exact mm_set_of k101 (mm_ne_oo k101 k96 (by decide))
  have k118 : G111 (LA 1) = some (.inr (1, [.int 0, .ref e0, .int 0])) := by rw [eG111]; exact mm_set_of k102 (mm_ne_oo k102 k96 (by decide))
  have k119 : G111 (LA 2) = some (.inr (1, [.int 0, .ref e0, .int 0])) := by rw [eG111]; exact mm_set_of k103 (mm_ne_oo k103 k96 (by decide))
  have k120 : G111 (LA 3) = some (.inr (1, [.int 0, .ref e0, .int 0])) := by rw [eG111]; exact mm_set_of k104 (mm_ne_oo k104 k96 (by decide))
  have k121 : G111 (LA 4) = some (.inr (1, [.int 0, .ref e0, .int 0])) := by rw [eG111]; exact mm_set_of k105 (mm_ne_oo k105 k96 (by decide))
  have k122 : G111 (LA 5) = some (.inr (1, [.int 0, .ref e0, .int 0])) := by rw [eG111]; exact mm_set_of k106 (mm_ne_oo k106 k96 (by decide))
  have k123 : G111 k = some (.inr (13, [.ref ks, .ref ss, .ref vs, .int (nI tn)])) := by rw [eG111]; exact mm_set_of k107 (mm_ne_oo k107 k96 (by decide))
  have k124 : G111 ks = some (.inl (cy 5, 2001, .inr (.inr (.inr (.inr f1))))) := by rw [eG111]; exact mm_set_of k108 (mm_ne_ao k108 k96)
  have k125 : G111 ss = some (.inl (cy 1, 2001, .inl f2)) := by rw [eG111]; exact mm_set_of k109 (mm_ne_ao k109 k96)
  have k126 : G111 vs = some (.inl (cy 2, 2001, .inr (.inl f3))) := by rw [eG111]; exact mm_set_of k110 (mm_ne_ao k110 k96)
  refine lv_aload_n hx hb dX9_fill_19 rfl (lv_at hl 0 rfl) ?_
  refine lv_iconst (v := (-1)) hx hb dX9_fill_20 (by decide) ?_
  refine mm_put (v := .int (-1)) (ty := .int) hx hb hf_X9 (fun _ h9 => h9) tyX9 tyX9_ok nmX9 hown hK hG hS k112 rfl 4 (by decide) (tb_use hT tw_181) (fun _ h9 => h9) rfl (by decide +kernel) rfl rfl (Nat.le_of_ble_eq_true rfl) dX9_fill_21 (fun H locs hG hS => ?_)
  obtain ⟨G127, eG127⟩ : ∃ g, g = mm_set G111 o (.inr (10, [.ref k, .ref ow, .ref ed, .int 0, .int (-1)])) := ⟨_, rfl⟩
  have hG : mm D vwCl A G127 H := by rw [eG127]; exact hG
  have k128 : G127 o = some (.inr (10, [.ref k, .ref ow, .ref ed, .int 0, .int (-1)])) := by rw [eG127]; exact mm_set_self
  have k129 : G127 tx = some (.inl (cy 0, 2000, .inl ft)) := by rw [eG127]; exact mm_set_of k113 (mm_ne_ao k113 k112)
  have k130 : G127 ow = some (.inl (cy 1, 3, .inl wf0)) := by rw [eG127]; exact mm_set_of k114 (mm_ne_ao k114 k112)
  have k131 : G127 ed = some (.inr (3, [.ref (LA 0), .ref (LA 1), .ref (LA 2), .ref (LA 3), .ref (LA 4), .ref (LA 5), .ref na, .int 0, va_rf iu, .int wa, va_rf rs])) := by rw [eG127]; exact mm_set_of k115 (mm_ne_oo k115 k112 (by decide))
  have k132 : G127 na = some (.inl (cy 2, 8, .inr (.inl nv0))) := by rw [eG127]; exact mm_set_of k116 (mm_ne_ao k116 k112)
  have k133 : G127 (LA 0) = some (.inr (1, [.int 0, .ref e0, .int 0])) := by rw [eG127]; exact mm_set_of k117 (mm_ne_oo k117 k112 (by decide))
  have k134 : G127 (LA 1) = some (.inr (1, [.int 0, .ref e0, .int 0])) := by rw [eG127]; exact mm_set_of k118 (mm_ne_oo k118 k112 (by decide))
  have k135 : G127 (LA 2) = some (.inr (1, [.int 0, .ref e0, .int 0])) := by rw [eG127]; exact mm_set_of k119 (mm_ne_oo k119 k112 (by decide))
  have k136 : G127 (LA 3) = some (.inr (1, [.int 0, .ref e0, .int 0])) := by rw [eG127]; exact mm_set_of k120 (mm_ne_oo k120 k112 (by decide))
  have k137 : G127 (LA 4) = some (.inr (1, [.int 0, .ref e0, .int 0])) := by rw [eG127]; exact mm_set_of k121 (mm_ne_oo k121 k112 (by decide))
  have k138 : G127 (LA 5) = some (.inr (1, [.int 0, .ref e0, .int 0])) := by rw [eG127]; exact mm_set_of k122 (mm_ne_oo k122 k112 (by decide))
  have k139 : G127 k = some (.inr (13, [.ref ks, .ref ss, .ref vs, .int (nI tn)])) := by rw [eG127]; exact mm_set_of k123 (mm_ne_oo k123 k112 (by decide))
  have k140 : G127 ks = some (.inl (cy 5, 2001, .inr (.inr (.inr (.inr f1))))) := by rw [eG127]; exact mm_set_of k124 (mm_ne_ao k124 k112)
  have k141 : G127 ss = some (.inl (cy 1, 2001, .inl f2)) := by rw [eG127]; exact mm_set_of k125 (mm_ne_ao k125 k112)
  have k142 : G127 vs = some (.inl (cy 2, 2001, .inr (.inl f3))) := by rw [eG127]; exact mm_set_of k126 (mm_ne_ao k126 k112)
  refine lv_iconst (v := 0) hx hb dX9_fill_24 (by decide) ?_
  refine lv_istore (lv' := [(4, .int 0), (0, .ref o), (1, .ref ed), (2, .ref tx), (3, .int (nI tn9))]) hx hb dX9_fill_25 hl (by decide) rfl (fun ls hl => ?_)
  have hfO : ∀ (x : Nat) (e : va_E), G83 x = some e → x ≠ o → G127 x = some e := by
    intro x e z0 n_o
    have z1 : G95 x = some e := by rw [eG95]; exact mm_set_of z0 n_o
    have z2 : G111 x = some e := by rw [eG111]; exact mm_set_of z1 n_o
    have z3 : G127 x = some e := by rw [eG127]; exact mm_set_of z2 n_o
    exact z3
  have hls9 : ∀ i, i < 6 → G127 (LA i) = some (.inr (1, [.int 0, .ref e0, .int 0])) := fun i hi => hfO _ _ (hf2 _ _ (hls i hi) (mm_ne_oo (hls i hi) hk (by decide)) (mm_ne_oa (hls i hi) hks) (mm_ne_oa (hls i hi) hss) (mm_ne_oa (hls i hi) hvs)) (mm_ne_oo (hls i hi) h0 (by decide))
  have hP0 : EDP cy e0 tk G127 Lx G127 EdV.nil PtV.nil LA (fun _ => e0) (fun _ _ => 0) (fun _ => 0) := EDP.start (fun i hi => ⟨0, hls9 i hi, Or.inl ⟨rfl, rfl⟩⟩) hla hBl
  have hGs : ∀ x e, G x = some e → x ≠ o → x ≠ k → x ≠ ks → x ≠ ss → x ≠ vs → G127 x = some e := fun x e h1 n1 n2 n3 n4 n5 => hfO x e (hf2 x e h1 n2 n3 n4 n5) n1
  have hGe : ∀ x e, G x = some e → ∃ e2, G127 x = some e2 := by
    intro x e hx9
    by_cases z1 : x = o
    · exact ⟨_, by rw [z1]; exact k128⟩
    obtain ⟨e2, h2⟩ := hGe1 x e hx9
    exact ⟨e2, hfO x e2 h2 z1⟩
  refine W.widen (k := coC EdV.nil) (n := coS EdV.nil) (Nat.zero_le _) (Nat.zero_le _) ?_
  exact hloop tn 0 (0, -1) EdV.nil LA (fun _ => e0) (fun _ _ => 0) (fun _ => 0) wf0 G127 f1 f2 f3 (by omega) hR (by show 0 ≤ 1600 * 0; omega) (fun _ => by unfold BDv; decide) (fun _ _ => rfl) hTP hGs hGe k139 k140 k141 k142 k131 k132 G127 k128 k130 hP0 _ _ hG hS ls (lv_sub hl [1, 2, 3, 4, 0] rfl)
