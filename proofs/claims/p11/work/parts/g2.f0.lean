set_option maxHeartbeats 4000000 in
set_option maxRecDepth 100000 in
theorem c_X9_fill0 (l : Launch) (D : va_G) (cy : Nat → ClassId) (A : Nat → Prop) (X : State → Prop) (hst : mk_St A X) (hXT : ∀ U : State, X U → TB U) (e0 : Nat) (tk : Nat → Nat) (hXE : ∀ U : State, X U → ES e0 tk A U) (mi : Nat) (hXL : ∀ U : State, X U → EL e0 mi A U) (ax adK adV : Nat → Nat) (hXX : ∀ U : State, X U → TX ax adK adV tk A U) (G : Nat → Option va_E) (o ow ed : Nat) (edp : Option Nat) (pl0 fa0 : Int32) (k ks ss vs m0 : Nat) (K0 : Nat → Nat) (S0 : Nat → Int32) (V0 : Nat → Int64) (tx tn9 : Nat) (ft : Nat → Int32) (LA : Nat → Nat) (na : Nat) (wa : Int32) (iu rs : Option Nat) (nv0 : Nat → Int64) (wf0 : Nat → Int32) (h0 : G o = some (.inr (10, [.ref k, .ref ow, va_rf edp, .int pl0, .int fa0]))) (hTB : TKB cy tk G k ks ss vs m0 K0 S0 V0) (htx : G tx = some (.inl (cy 0, 2000, .inl ft))) (htn : tn9 ≤ 2000) (hwf : G ow = some (.inl (cy 1, 3, .inl wf0))) (hed : G ed = some (.inr (3, [.ref (LA 0), .ref (LA 1), .ref (LA 2), .ref (LA 3), .ref (LA 4), .ref (LA 5), .ref na, .int 0, va_rf iu, .int wa, va_rf rs]))) (hna : G na = some (.inl (cy 2, 8, .inr (.inl nv0)))) (hls : ∀ i, i < 6 → G (LA i) = some (.inr (1, [.int 0, .ref e0, .int 0]))) (hla : ∀ i j, i < 6 → j < 6 → LA i = LA j → i = j) (htn0 : tn9 = 0) : Met l yX9_fill [.code yX9_fill cX9_fill 5 (some .int)] ({ frames := 11, cells := 8, slots := 4080, locals := 330 }) (mk_Pre D vwCl (tyL cy) A X G [.ref o, .ref ed, .ref tx, .int (nI tn9)]) (va_Qi (fun (r : Int32) (G2 : Nat → Option va_E) => r = (q_fill (tkK ft tn9) (tkS ft tn9) (tkV ft tn9) (tkN ft tn9) EdV.nil (0, -1)).2.2 ∧ ∃ (LB EB : Nat → Nat) (AB : Nat → Nat → Nat) (PB : Nat → Nat) (wf2 : Nat → Int32) (na2 cap2 : Nat) (nv2 : Nat → Int64), G2 o = some (.inr (10, [.ref k, .ref ow, .ref ed, .int (nI ((q_fill (tkK ft tn9) (tkS ft tn9) (tkV ft tn9) (tkN ft tn9) EdV.nil (0, -1)).2).1), .int (((q_fill (tkK ft tn9) (tkS ft tn9) (tkV ft tn9) (tkN ft tn9) EdV.nil (0, -1)).2).2)])) ∧ TKB cy tk G2 k ks ss vs (tkN ft tn9) (tkK ft tn9) (tkS ft tn9) (tkV ft tn9) ∧ G2 ow = some (.inl (cy 1, 3, .inl wf2)) ∧ EDP cy e0 tk G (fun x => x = o ∨ x = ow ∨ x = k ∨ x = ks ∨ x = ss ∨ x = vs ∨ x = ed ∨ x = na ∨ ∃ i, i < 6 ∧ x = LA i) G2 (q_fill (tkK ft tn9) (tkS ft tn9) (tkV ft tn9) (tkN ft tn9) EdV.nil (0, -1)).1 PtV.nil LB EB AB PB ∧ (∀ i, i < 6 → LB i = LA i) ∧ G2 ed = some (.inr (3, [.ref (LA 0), .ref (LA 1), .ref (LA 2), .ref (LA 3), .ref (LA 4), .ref (LA 5), .ref na2, .int (nI (ntL (tkK ft tn9) (tkV ft tn9) (if (q_fill (tkK ft tn9) (tkS ft tn9) (tkV ft tn9) (tkN ft tn9) EdV.nil (0, -1)).2.2 < 0 then tkN ft tn9 else 0)).1), va_rf iu, .int wa, va_rf rs])) ∧ G2 na2 = some (.inl (cy 2, cap2, .inr (.inl nv2))) ∧ (ntL (tkK ft tn9) (tkV ft tn9) (if (q_fill (tkK ft tn9) (tkS ft tn9) (tkV ft tn9) (tkN ft tn9) EdV.nil (0, -1)).2.2 < 0 then tkN ft tn9 else 0)).1 ≤ cap2 ∧ cap2 ≤ 2048 ∧ (∀ i, i < (ntL (tkK ft tn9) (tkV ft tn9) (if (q_fill (tkK ft tn9) (tkS ft tn9) (tkV ft tn9) (tkN ft tn9) EdV.nil (0, -1)).2.2 < 0 then tkN ft tn9 else 0)).1 → nv2 i = (ntL (tkK ft tn9) (tkV ft tn9) (if (q_fill (tkK ft tn9) (tkS ft tn9) (tkV ft tn9) (tkN ft tn9) EdV.nil (0, -1)).2.2 < 0 then tkN ft tn9 else 0)).2 i) ∧ (na2 = na ∨ G na2 = none) ∧ (∀ i, i < (q_fill (tkK ft tn9) (tkS ft tn9) (tkV ft tn9) (tkN ft tn9) EdV.nil (0, -1)).1.nJ → PB i ≠ na2)) (mk_B D vwCl A) A) 8 4080 A := by
  refine Met.ofW (cc := cX9_fill) (maxL := 5) (ret := (some .int)) (by decide) rfl ?_
  intro p e s m args below meth c s₁ B hml hv
  obtain ⟨rfl, hG, hK, hA, hX⟩ := hv
  have hx := B.exec
  have hb := B.bytes
  have hr := B.returns
  have hlocks := B.notSynchronized
  have hT := hXT s hX
  have hown : s.vm.findClass RX9 = some m.cls := findClass_of_methodNamed B.named
  have hf_X9 : ∀ w ∈ u_ws RX9 TX9 5, w.before ([.ref o, .ref ed, .ref tx, .int (nI tn9)] : List Value).toArray s = true := tb_list hT fX9
  have hf_X12 : ∀ w ∈ u_ws RX12 TX12 4, w.before ([.ref o, .ref ed, .ref tx, .int (nI tn9)] : List Value).toArray s = true := tb_list hT fX12
  have hS : va_S A s.heap s.heap [] := va_S.rf
  have hE := hXE s hX
  have hl := lv_entry ([.ref o, .ref ed, .ref tx, .int (nI tn9)]) (n := 5) (Nat.le_of_ble_eq_true rfl)
  rw [lg_entry_eq]
  generalize (lg_sl ([.ref o, .ref ed, .ref tx, .int (nI tn9)]) ++ List.replicate (5 - (lg_sl ([.ref o, .ref ed, .ref tx, .int (nI tn9)])).length) Slot.unset).toArray = ls at hl ⊢
  have hl : lv_has ls 5 [(0, .ref o), (1, .ref ed), (2, .ref tx), (3, .int (nI tn9))] := hl
  have hQ := hXX s hX
  obtain ⟨fa1, fa2, fa3, hk, hks, hss, hvs, -⟩ := id hTB
  have hL0 := hls 0 (by decide)
  have hL1 := hls 1 (by decide)
  have hL2 := hls 2 (by decide)
  have hL3 := hls 3 (by decide)
  have hL4 := hls 4 (by decide)
  have hL5 := hls 5 (by decide)
  obtain ⟨K, hKd⟩ : ∃ y, y = tkK ft tn9 := ⟨_, rfl⟩
  obtain ⟨S, hSd⟩ : ∃ y, y = tkS ft tn9 := ⟨_, rfl⟩
  obtain ⟨V, hVd⟩ : ∃ y, y = tkV ft tn9 := ⟨_, rfl⟩
  obtain ⟨tn, hNd⟩ : ∃ y, y = tkN ft tn9 := ⟨_, rfl⟩
  have hSn : ∀ p, ¬ S p < 0 := by rw [hSd]; exact fun p => tkS_ge htn p
  obtain ⟨RF, hR⟩ : ∃ y, q_fill K S V tn EdV.nil (0, -1) = y := ⟨_, rfl⟩
  obtain ⟨Lx, hLx⟩ : ∃ P : Nat → Prop, P = (fun x => x = o ∨ x = ow ∨ ∃ i, i < 6 ∧ x = LA i) := ⟨_, rfl⟩
  have hBo : Lx o := by rw [hLx]; exact Or.inl rfl
  have hBw : Lx ow := by rw [hLx]; exact Or.inr (Or.inl rfl)
  have hBl : ∀ i, i < 6 → Lx (LA i) := by rw [hLx]; exact fun i hi => Or.inr (Or.inr ⟨i, hi, rfl⟩)
  have nb_k : ¬ Lx k := by
    rw [hLx]
    rintro (z | z | ⟨i, hi, z⟩)
    · exact mm_ne_oo hk h0 (by decide) z
    · exact mm_ne_oa hk hwf z
    · exact mm_ne_oo hk (hls i hi) (by decide) z
  have nb_ks : ¬ Lx ks := by
    rw [hLx]
    rintro (z | z | ⟨i, hi, z⟩)
    · exact mm_ne_ao hks h0 z
    · exact mm_ne_n hks hwf (by decide) z
    · exact mm_ne_ao hks (hls i hi) z
  have nb_ss : ¬ Lx ss := by
    rw [hLx]
    rintro (z | z | ⟨i, hi, z⟩)
    · exact mm_ne_ao hss h0 z
    · exact mm_ne_n hss hwf (by decide) z
    · exact mm_ne_ao hss (hls i hi) z
  have nb_vs : ¬ Lx vs := by
    rw [hLx]
    rintro (z | z | ⟨i, hi, z⟩)
    · exact mm_ne_ao hvs h0 z
    · exact mm_ne_n hvs hwf (by decide) z
    · exact mm_ne_ao hvs (hls i hi) z
  have nb_ed : ¬ Lx ed := by
    rw [hLx]
    rintro (z | z | ⟨i, hi, z⟩)
    · exact mm_ne_oo hed h0 (by decide) z
    · exact mm_ne_oa hed hwf z
    · exact mm_ne_oo hed (hls i hi) (by decide) z
  have nb_na : ¬ Lx na := by
    rw [hLx]
    rintro (z | z | ⟨i, hi, z⟩)
    · exact mm_ne_ao hna h0 z
    · exact mm_ne_n hna hwf (by decide) z
    · exact mm_ne_ao hna (hls i hi) z
  have hk20 : K 0 = 2 := by rw [hKd, htn0]; rfl
  have hloop : ∀ (n : Nat) (j : Nat) (qv : Nat × Int32) (vv : EdV) (LB EB : Nat → Nat) (AB : Nat → Nat → Nat) (PB : Nat → Nat) (wfv : Nat → Int32) (Gs : Nat → Option va_E) (f1 : Nat → Option Nat) (f2 : Nat → Int32) (f3 : Nat → Int64), (vv = EdV.nil) → (K qv.1 = 2) → (n + j = tn) → (q_fill K S V n vv qv = RF) → (qv.1 ≤ 1600 * j) → (qv.2 < 0 → BDv vv) → (∀ i, i < 6 → LB i = LA i) → (TKP tk tn K S V f1 f2 f3) → (∀ x e, G x = some e → x ≠ o → x ≠ k → x ≠ ks → x ≠ ss → x ≠ vs → Gs x = some e) → (∀ x e, G x = some e → ∃ e2, Gs x = some e2) → (Gs k = some (.inr (13, [.ref ks, .ref ss, .ref vs, .int (nI tn)]))) → (Gs ks = some (.inl (cy 5, 2001, .inr (.inr (.inr (.inr f1)))))) → (Gs ss = some (.inl (cy 1, 2001, .inl f2))) → (Gs vs = some (.inl (cy 2, 2001, .inr (.inl f3)))) → (Gs ed = some (.inr (3, [.ref (LA 0), .ref (LA 1), .ref (LA 2), .ref (LA 3), .ref (LA 4), .ref (LA 5), .ref na, .int 0, va_rf iu, .int wa, va_rf rs]))) → (Gs na = some (.inl (cy 2, 8, .inr (.inl nv0)))) → ∀ (Gv : Nat → Option va_E), (Gv o = some (.inr (10, [.ref k, .ref ow, .ref ed, .int (nI qv.1), .int qv.2]))) → (Gv ow = some (.inl (cy 1, 3, .inl wfv))) → (EDP cy e0 tk Gs Lx Gv vv PtV.nil LB EB AB PB) → ∀ (H : Heap) (locs : List Loc), mm D vwCl A Gv H → va_S A s.heap H locs → ∀ ls : Array Slot, lv_has ls 5 [(0, .ref o), (1, .ref ed), (2, .ref tx), (3, .int (nI tn9)), (4, .int (nI j))] → W p l e (headSpec [.code yX9_fill cX9_fill 5 (some .int)] ({ frames := 11, cells := 8, slots := 4080, locals := 330 })).room s m ([.ref o, .ref ed, .ref tx, .int (nI tn9)] : List Value).toArray below meth c H locs (coC vv) (coS vv) (MQ below (va_Qi (fun (r : Int32) (G2 : Nat → Option va_E) => r = (q_fill (tkK ft tn9) (tkS ft tn9) (tkV ft tn9) (tkN ft tn9) EdV.nil (0, -1)).2.2 ∧ ∃ (LB EB : Nat → Nat) (AB : Nat → Nat → Nat) (PB : Nat → Nat) (wf2 : Nat → Int32) (na2 cap2 : Nat) (nv2 : Nat → Int64), G2 o = some (.inr (10, [.ref k, .ref ow, .ref ed, .int (nI ((q_fill (tkK ft tn9) (tkS ft tn9) (tkV ft tn9) (tkN ft tn9) EdV.nil (0, -1)).2).1), .int (((q_fill (tkK ft tn9) (tkS ft tn9) (tkV ft tn9) (tkN ft tn9) EdV.nil (0, -1)).2).2)])) ∧ TKB cy tk G2 k ks ss vs (tkN ft tn9) (tkK ft tn9) (tkS ft tn9) (tkV ft tn9) ∧ G2 ow = some (.inl (cy 1, 3, .inl wf2)) ∧ EDP cy e0 tk G (fun x => x = o ∨ x = ow ∨ x = k ∨ x = ks ∨ x = ss ∨ x = vs ∨ x = ed ∨ x = na ∨ ∃ i, i < 6 ∧ x = LA i) G2 (q_fill (tkK ft tn9) (tkS ft tn9) (tkV ft tn9) (tkN ft tn9) EdV.nil (0, -1)).1 PtV.nil LB EB AB PB ∧ (∀ i, i < 6 → LB i = LA i) ∧ G2 ed = some (.inr (3, [.ref (LA 0), .ref (LA 1), .ref (LA 2), .ref (LA 3), .ref (LA 4), .ref (LA 5), .ref na2, .int (nI (ntL (tkK ft tn9) (tkV ft tn9) (if (q_fill (tkK ft tn9) (tkS ft tn9) (tkV ft tn9) (tkN ft tn9) EdV.nil (0, -1)).2.2 < 0 then tkN ft tn9 else 0)).1), va_rf iu, .int wa, va_rf rs])) ∧ G2 na2 = some (.inl (cy 2, cap2, .inr (.inl nv2))) ∧ (ntL (tkK ft tn9) (tkV ft tn9) (if (q_fill (tkK ft tn9) (tkS ft tn9) (tkV ft tn9) (tkN ft tn9) EdV.nil (0, -1)).2.2 < 0 then tkN ft tn9 else 0)).1 ≤ cap2 ∧ cap2 ≤ 2048 ∧ (∀ i, i < (ntL (tkK ft tn9) (tkV ft tn9) (if (q_fill (tkK ft tn9) (tkS ft tn9) (tkV ft tn9) (tkN ft tn9) EdV.nil (0, -1)).2.2 < 0 then tkN ft tn9 else 0)).1 → nv2 i = (ntL (tkK ft tn9) (tkV ft tn9) (if (q_fill (tkK ft tn9) (tkS ft tn9) (tkV ft tn9) (tkN ft tn9) EdV.nil (0, -1)).2.2 < 0 then tkN ft tn9 else 0)).2 i) ∧ (na2 = na ∨ G na2 = none) ∧ (∀ i, i < (q_fill (tkK ft tn9) (tkS ft tn9) (tkV ft tn9) (tkN ft tn9) EdV.nil (0, -1)).1.nJ → PB i ≠ na2)) (mk_B D vwCl A) A) ([.ref o, .ref ed, .ref tx, .int (nI tn9)] : List Value).toArray s 8 4080 A) (F0 m 27 ls []) := by
    intro n
    induction n with
    | zero =>
      intro j qv vv LB EB AB PB wfv Gs f1 f2 f3 hvn hk2n hjn hq hpv hbd hLB hTP hGs hGe s_k s_ks s_ss s_vs s_ed s_na Gv v_o v_ow hP H locs hG hS ls hl
      have v_k : Gv k = some (.inr (13, [.ref ks, .ref ss, .ref vs, .int (nI tn)])) := hP.L.fr _ _ s_k nb_k
      have v_ks : Gv ks = some (.inl (cy 5, 2001, .inr (.inr (.inr (.inr f1))))) := hP.L.fr _ _ s_ks nb_ks
      have v_ss : Gv ss = some (.inl (cy 1, 2001, .inl f2)) := hP.L.fr _ _ s_ss nb_ss
      have v_vs : Gv vs = some (.inl (cy 2, 2001, .inr (.inl f3))) := hP.L.fr _ _ s_vs nb_vs
      have v_ed : Gv ed = some (.inr (3, [.ref (LA 0), .ref (LA 1), .ref (LA 2), .ref (LA 3), .ref (LA 4), .ref (LA 5), .ref na, .int 0, va_rf iu, .int wa, va_rf rs])) := hP.L.fr _ _ s_ed nb_ed
      have v_na : Gv na = some (.inl (cy 2, 8, .inr (.inl nv0))) := hP.L.fr _ _ s_na nb_na
      have htn1 := hTP.1
      have hcC : coC vv ≤ 0 := by rw [hvn]; exact Nat.le_refl _
      have hcS : coS vv ≤ 0 := by rw [hvn]; exact Nat.le_refl _
      refine lv_iload hx hb dX9_fill_27 (lv_at hl 4 rfl) ?_
      refine lv_aload_n hx hb dX9_fill_29 rfl (lv_at hl 0 rfl) ?_
      refine mm_get (v := .ref k) hx hb hf_X9 (fun _ h9 => h9) hown hK hG v_o rfl 0 (by decide) (tb_use hT tw_177) (fun _ h9 => h9) rfl dX9_fill_30 ?_
      refine mm_getN (v := .int (nI tn)) hx hb hf_X12 (fun _ h9 => h9) hown hK hG v_k rfl 3 (by decide) (tb_use hT tw_164) (fun _ h9 => h9) rfl dX9_fill_33 ?_
      refine lv_icmp_ge (tgt := 153) hx hb dX9_fill_36 (by decide) (fun c_36 => ?_) (fun c_36 => ?_)
      · skip
        refine lv_aload_n hx hb dX9_fill_153 rfl (lv_at hl 0 rfl) ?_
        refine va_callv (va_runV (As := []) (rest := []) ⟨hx, hb, hml, hown, (fun _ h9 => absurd h9 List.not_mem_nil : ∀ w ∈ ([] : List Cond), w.before _ s = true)⟩ (c_X9_noteNames l D cy A X hst hXT e0 tk hXE mi hXL Gv o ow ed qv k ks ss vs tn K S V f1 f2 f3 (LA 0) (LA 1) (LA 2) (LA 3) (LA 4) (LA 5) na wa iu rs nv0 v_o v_k v_ks v_ss v_vs hTP v_ed v_na) (tb_cw (C := RX9) 0 hT tw_972 tw_106 tw_969 tw_971 tw_31 rfl rfl hq_X9_noteNames ⟨Nat.le_of_ble_eq_true rfl, Nat.le_of_ble_eq_true rfl⟩) (mk_preC hst hG hK hA hX hS vc_10 v_o) rfl rfl hl.1 rfl (lv_room (Nat.le_of_ble_eq_true rfl)) dX9_fill_154 ⟨(by show coC vv + 8 ≤ 8; omega), (by show coS vv + 4080 ≤ 4080; omega)⟩) hS (fun q _ h => h) (fun q h => h) (fun  G21 t H locs ht hvm hw hB hz1 hk1 hS => ?_)
        have hG : mm D vwCl A G21 H := by rw [← ht]; exact hB
        clear hB hz1 hk1 hvm ht
        obtain ⟨na2, cap2, nv2, n_1, n_2, n_3, n_4, n_5, n_6, n_7, n_f⟩ := hw
        have h_1 : G21 o = some (.inr (10, [.ref k, .ref ow, .ref ed, .int (nI qv.1), .int qv.2])) := n_f _ _ v_o (mm_ne_oo v_o v_ed (by decide)) (mm_ne_oa v_o v_na)
        refine lv_aload_n hx hb dX9_fill_157 rfl (lv_at hl 0 rfl) ?_
        refine mm_get (v := .int qv.2) hx hb hf_X9 (fun _ h9 => h9) hown hK hG h_1 rfl 4 (by decide) (tb_use hT tw_181) (fun _ h9 => h9) rfl dX9_fill_158 ?_
        have hz : RF = (vv, qv) := by
          rw [← hq]
          first | rfl | (rw [show n = 0 by omega]; rfl)
        have hb1 : ∀ x, Gs x = none → G x = none := fun x hx9 => by
          cases hz9 : G x with
          | none => rfl
          | some e => obtain ⟨e2, h2⟩ := hGe x e hz9; rw [hx9] at h2; cases h2
        have hsub : ∀ x, Lx x → (fun x => x = o ∨ x = ow ∨ x = k ∨ x = ks ∨ x = ss ∨ x = vs ∨ x = ed ∨ x = na ∨ ∃ i, i < 6 ∧ x = LA i) x := by
          intro x z
          rw [hLx] at z
          rcases z with z | z | z
          · exact Or.inl z
          · exact Or.inr (Or.inl z)
          · exact Or.inr (Or.inr (Or.inr (Or.inr (Or.inr (Or.inr (Or.inr (Or.inr z)))))))
        have hb2 : ∀ i, lvV vv i → G (LB i) = none ∨ (fun x => x = o ∨ x = ow ∨ x = k ∨ x = ks ∨ x = ss ∨ x = vs ∨ x = ed ∨ x = na ∨ ∃ i, i < 6 ∧ x = LA i) (LB i) := fun i hi => (hP.L.fl i hi).elim (fun z => Or.inl (hb1 _ z)) (fun z => Or.inr (hsub _ z))
        have hb3 : ∀ x e, G x = some e → ∃ e2, Gv x = some e2 := fun x e h1 => by obtain ⟨e2, h2⟩ := hGe x e h1; exact hP.L.al x e2 h2
        have hb4 : ∀ x e, G x = some e → ¬ (fun x => x = o ∨ x = ow ∨ x = k ∨ x = ks ∨ x = ss ∨ x = vs ∨ x = ed ∨ x = na ∨ ∃ i, i < 6 ∧ x = LA i) x → Gv x = some e := fun x e h1 nb => by
          have z9 := hGs x e h1 (fun z => nb (Or.inl z)) (fun z => nb (Or.inr (Or.inr (Or.inl z)))) (fun z => nb (Or.inr (Or.inr (Or.inr (Or.inl z))))) (fun z => nb (Or.inr (Or.inr (Or.inr (Or.inr (Or.inl z)))))) (fun z => nb (Or.inr (Or.inr (Or.inr (Or.inr (Or.inr (Or.inl z)))))))
          exact hP.L.fr x e z9 (fun z => nb (hsub x z))
        have hP1 : EDP cy e0 tk G (fun x => x = o ∨ x = ow ∨ x = k ∨ x = ks ∨ x = ss ∨ x = vs ∨ x = ed ∨ x = na ∨ ∃ i, i < 6 ∧ x = LA i) Gv vv PtV.nil LB EB AB PB := EDP.base hP hb1 hb2 hb3 hb4
        obtain ⟨a1, a2, a3, a4⟩ := hP.oW (Or.inr rfl) v_ed
        obtain ⟨b1, b2, b3, b4⟩ := hP.nW v_na (by decide)
        have hP3 : EDP cy e0 tk G (fun x => x = o ∨ x = ow ∨ x = k ∨ x = ks ∨ x = ss ∨ x = vs ∨ x = ed ∨ x = na ∨ ∃ i, i < 6 ∧ x = LA i) G21 vv PtV.nil LB EB AB PB := hP1.mvG (fun x => x = ed ∨ x = na) (fun x hx9 => by rcases hx9 with z | z; exact Or.inr (Or.inr (Or.inr (Or.inr (Or.inr (Or.inr (Or.inl z)))))); exact Or.inr (Or.inr (Or.inr (Or.inr (Or.inr (Or.inr (Or.inr (Or.inl z)))))))) (fun i hi z => z.elim (a1 i hi) (b1 i hi)) (fun i hi n z => z.elim (a2 i hi n) (b2 i hi n)) (fun i j hi hj z => z.elim (a3 i j hi hj) (b3 i j hi hj)) (fun i hi z => z.elim (a4 i hi) (b4 i hi)) (fun x hx9 => by rcases hx9 with z | z; exact ⟨_, by rw [z]; exact n_1⟩; rw [z]; exact n_7) (fun x e h1 nb => n_f x e h1 (fun z => nb (Or.inl z)) (fun z => nb (Or.inr z)))
        have hTB2 : TKB cy tk G21 k ks ss vs tn K S V := ⟨f1, f2, f3, n_f _ _ v_k (mm_ne_oo v_k v_ed (by decide)) (mm_ne_oa v_k v_na), n_f _ _ v_ks (mm_ne_ao v_ks v_ed) (mm_ne_n v_ks v_na (by decide)), n_f _ _ v_ss (mm_ne_ao v_ss v_ed) (mm_ne_n v_ss v_na (by decide)), n_f _ _ v_vs (mm_ne_ao v_vs v_ed) (mm_ne_n v_vs v_na (by decide)), hTP.2.2⟩
        have h_w : G21 ow = some (.inl (cy 1, 3, .inl wfv)) := n_f _ _ v_ow (mm_ne_ao v_ow v_ed) (mm_ne_n v_ow v_na (by decide))
        have hpn9 : ∀ i, i < vv.nJ → PB i ≠ na2 := fun i hi z => by rcases n_6 with z1 | z1; exact b4 i hi (by rw [z, z1]); have z3 := hP.pi i hi; rw [z, z1] at z3; cases z3
        have hna9 : na2 = na ∨ G na2 = none := by
          rcases n_6 with z | z
          · exact Or.inl z
          · refine Or.inr ?_
            cases hz9 : G na2 with
            | none => rfl
            | some e => obtain ⟨e2, h2⟩ := hGe _ e hz9; obtain ⟨e3, h3⟩ := hP.L.al _ e2 h2; rw [z] at h3; cases h3
        refine W.widen (k := 8) (n := 4080) (by omega) (by omega) ?_
        exact W.iret (v := qv.2) hx hb hr (fun t ht hW => ⟨⟨_, _, rfl, (by simp only [← hKd, ← hSd, ← hVd, ← hNd, hR, hz]; exact ⟨(by first | trivial | rfl), LB, EB, AB, PB, wfv, na2, cap2, nv2, h_1, hTB2, h_w, hP3, hLB, n_1, n_2, n_3, n_4, n_5, hna9, hpn9⟩), mk_end hG ht⟩, hS.F ht⟩) hS.2.2 dX9_fill_161
      · skip
        exact absurd (by rw [show j = tn by omega]; exact Int32.le_refl _) c_36
    | succ n ih =>
      intro j qv vv LB EB AB PB wfv Gs f1 f2 f3 hvn hk2n hjn hq hpv hbd hLB hTP hGs hGe s_k s_ks s_ss s_vs s_ed s_na Gv v_o v_ow hP H locs hG hS ls hl
      have v_k : Gv k = some (.inr (13, [.ref ks, .ref ss, .ref vs, .int (nI tn)])) := hP.L.fr _ _ s_k nb_k
      have v_ks : Gv ks = some (.inl (cy 5, 2001, .inr (.inr (.inr (.inr f1))))) := hP.L.fr _ _ s_ks nb_ks
      have v_ss : Gv ss = some (.inl (cy 1, 2001, .inl f2)) := hP.L.fr _ _ s_ss nb_ss
      have v_vs : Gv vs = some (.inl (cy 2, 2001, .inr (.inl f3))) := hP.L.fr _ _ s_vs nb_vs
      have v_ed : Gv ed = some (.inr (3, [.ref (LA 0), .ref (LA 1), .ref (LA 2), .ref (LA 3), .ref (LA 4), .ref (LA 5), .ref na, .int 0, va_rf iu, .int wa, va_rf rs])) := hP.L.fr _ _ s_ed nb_ed
      have v_na : Gv na = some (.inl (cy 2, 8, .inr (.inl nv0))) := hP.L.fr _ _ s_na nb_na
      have htn1 := hTP.1
      have hcC : coC vv ≤ 0 := by rw [hvn]; exact Nat.le_refl _
      have hcS : coS vv ≤ 0 := by rw [hvn]; exact Nat.le_refl _
      refine lv_iload hx hb dX9_fill_27 (lv_at hl 4 rfl) ?_
      refine lv_aload_n hx hb dX9_fill_29 rfl (lv_at hl 0 rfl) ?_
      refine mm_get (v := .ref k) hx hb hf_X9 (fun _ h9 => h9) hown hK hG v_o rfl 0 (by decide) (tb_use hT tw_177) (fun _ h9 => h9) rfl dX9_fill_30 ?_
      refine mm_getN (v := .int (nI tn)) hx hb hf_X12 (fun _ h9 => h9) hown hK hG v_k rfl 3 (by decide) (tb_use hT tw_164) (fun _ h9 => h9) rfl dX9_fill_33 ?_
      refine lv_icmp_ge (tgt := 153) hx hb dX9_fill_36 (by decide) (fun c_36 => ?_) (fun c_36 => ?_)
      · skip
        exact absurd c_36 (nI_ge (by omega) (by omega))
      · skip
        refine lv_aload_n hx hb dX9_fill_39 rfl (lv_at hl 0 rfl) ?_
        refine mm_get (v := .int qv.2) hx hb hf_X9 (fun _ h9 => h9) hown hK hG v_o rfl 4 (by decide) (tb_use hT tw_181) (fun _ h9 => h9) rfl dX9_fill_40 ?_
        refine lv_if_ge (tgt := 153) hx hb dX9_fill_43 (by decide) (fun c_43 => ?_) (fun c_43 => ?_)
        · skip
          refine lv_aload_n hx hb dX9_fill_153 rfl (lv_at hl 0 rfl) ?_
          refine va_callv (va_runV (As := []) (rest := []) ⟨hx, hb, hml, hown, (fun _ h9 => absurd h9 List.not_mem_nil : ∀ w ∈ ([] : List Cond), w.before _ s = true)⟩ (c_X9_noteNames l D cy A X hst hXT e0 tk hXE mi hXL Gv o ow ed qv k ks ss vs tn K S V f1 f2 f3 (LA 0) (LA 1) (LA 2) (LA 3) (LA 4) (LA 5) na wa iu rs nv0 v_o v_k v_ks v_ss v_vs hTP v_ed v_na) (tb_cw (C := RX9) 0 hT tw_972 tw_106 tw_969 tw_971 tw_31 rfl rfl hq_X9_noteNames ⟨Nat.le_of_ble_eq_true rfl, Nat.le_of_ble_eq_true rfl⟩) (mk_preC hst hG hK hA hX hS vc_10 v_o) rfl rfl hl.1 rfl (lv_room (Nat.le_of_ble_eq_true rfl)) dX9_fill_154 ⟨(by show coC vv + 8 ≤ 8; omega), (by show coS vv + 4080 ≤ 4080; omega)⟩) hS (fun q _ h => h) (fun q h => h) (fun  G22 t H locs ht hvm hw hB hz1 hk1 hS => ?_)
          have hG : mm D vwCl A G22 H := by rw [← ht]; exact hB
          clear hB hz1 hk1 hvm ht
          obtain ⟨na2, cap2, nv2, n_1, n_2, n_3, n_4, n_5, n_6, n_7, n_f⟩ := hw
          have h_1 : G22 o = some (.inr (10, [.ref k, .ref ow, .ref ed, .int (nI qv.1), .int qv.2])) := n_f _ _ v_o (mm_ne_oo v_o v_ed (by decide)) (mm_ne_oa v_o v_na)
          refine lv_aload_n hx hb dX9_fill_157 rfl (lv_at hl 0 rfl) ?_
          refine mm_get (v := .int qv.2) hx hb hf_X9 (fun _ h9 => h9) hown hK hG h_1 rfl 4 (by decide) (tb_use hT tw_181) (fun _ h9 => h9) rfl dX9_fill_158 ?_
          have hz : RF = (vv, qv) := by
            rw [← hq]
            first | rfl | rw [q_fill, if_neg (fun z => absurd z.1 (Int32.not_lt.mpr c_43))]
          have hb1 : ∀ x, Gs x = none → G x = none := fun x hx9 => by
            cases hz9 : G x with
            | none => rfl
            | some e => obtain ⟨e2, h2⟩ := hGe x e hz9; rw [hx9] at h2; cases h2
          have hsub : ∀ x, Lx x → (fun x => x = o ∨ x = ow ∨ x = k ∨ x = ks ∨ x = ss ∨ x = vs ∨ x = ed ∨ x = na ∨ ∃ i, i < 6 ∧ x = LA i) x := by
            intro x z
            rw [hLx] at z
            rcases z with z | z | z
            · exact Or.inl z
            · exact Or.inr (Or.inl z)
            · exact Or.inr (Or.inr (Or.inr (Or.inr (Or.inr (Or.inr (Or.inr (Or.inr z)))))))
          have hb2 : ∀ i, lvV vv i → G (LB i) = none ∨ (fun x => x = o ∨ x = ow ∨ x = k ∨ x = ks ∨ x = ss ∨ x = vs ∨ x = ed ∨ x = na ∨ ∃ i, i < 6 ∧ x = LA i) (LB i) := fun i hi => (hP.L.fl i hi).elim (fun z => Or.inl (hb1 _ z)) (fun z => Or.inr (hsub _ z))
          have hb3 : ∀ x e, G x = some e → ∃ e2, Gv x = some e2 := fun x e h1 => by obtain ⟨e2, h2⟩ := hGe x e h1; exact hP.L.al x e2 h2
          have hb4 : ∀ x e, G x = some e → ¬ (fun x => x = o ∨ x = ow ∨ x = k ∨ x = ks ∨ x = ss ∨ x = vs ∨ x = ed ∨ x = na ∨ ∃ i, i < 6 ∧ x = LA i) x → Gv x = some e := fun x e h1 nb => by
            have z9 := hGs x e h1 (fun z => nb (Or.inl z)) (fun z => nb (Or.inr (Or.inr (Or.inl z)))) (fun z => nb (Or.inr (Or.inr (Or.inr (Or.inl z))))) (fun z => nb (Or.inr (Or.inr (Or.inr (Or.inr (Or.inl z)))))) (fun z => nb (Or.inr (Or.inr (Or.inr (Or.inr (Or.inr (Or.inl z)))))))
            exact hP.L.fr x e z9 (fun z => nb (hsub x z))
          have hP1 : EDP cy e0 tk G (fun x => x = o ∨ x = ow ∨ x = k ∨ x = ks ∨ x = ss ∨ x = vs ∨ x = ed ∨ x = na ∨ ∃ i, i < 6 ∧ x = LA i) Gv vv PtV.nil LB EB AB PB := EDP.base hP hb1 hb2 hb3 hb4
          obtain ⟨a1, a2, a3, a4⟩ := hP.oW (Or.inr rfl) v_ed
          obtain ⟨b1, b2, b3, b4⟩ := hP.nW v_na (by decide)
          have hP3 : EDP cy e0 tk G (fun x => x = o ∨ x = ow ∨ x = k ∨ x = ks ∨ x = ss ∨ x = vs ∨ x = ed ∨ x = na ∨ ∃ i, i < 6 ∧ x = LA i) G22 vv PtV.nil LB EB AB PB := hP1.mvG (fun x => x = ed ∨ x = na) (fun x hx9 => by rcases hx9 with z | z; exact Or.inr (Or.inr (Or.inr (Or.inr (Or.inr (Or.inr (Or.inl z)))))); exact Or.inr (Or.inr (Or.inr (Or.inr (Or.inr (Or.inr (Or.inr (Or.inl z)))))))) (fun i hi z => z.elim (a1 i hi) (b1 i hi)) (fun i hi n z => z.elim (a2 i hi n) (b2 i hi n)) (fun i j hi hj z => z.elim (a3 i j hi hj) (b3 i j hi hj)) (fun i hi z => z.elim (a4 i hi) (b4 i hi)) (fun x hx9 => by rcases hx9 with z | z; exact ⟨_, by rw [z]; exact n_1⟩; rw [z]; exact n_7) (fun x e h1 nb => n_f x e h1 (fun z => nb (Or.inl z)) (fun z => nb (Or.inr z)))
          have hTB2 : TKB cy tk G22 k ks ss vs tn K S V := ⟨f1, f2, f3, n_f _ _ v_k (mm_ne_oo v_k v_ed (by decide)) (mm_ne_oa v_k v_na), n_f _ _ v_ks (mm_ne_ao v_ks v_ed) (mm_ne_n v_ks v_na (by decide)), n_f _ _ v_ss (mm_ne_ao v_ss v_ed) (mm_ne_n v_ss v_na (by decide)), n_f _ _ v_vs (mm_ne_ao v_vs v_ed) (mm_ne_n v_vs v_na (by decide)), hTP.2.2⟩
          have h_w : G22 ow = some (.inl (cy 1, 3, .inl wfv)) := n_f _ _ v_ow (mm_ne_ao v_ow v_ed) (mm_ne_n v_ow v_na (by decide))
          have hpn9 : ∀ i, i < vv.nJ → PB i ≠ na2 := fun i hi z => by rcases n_6 with z1 | z1; exact b4 i hi (by rw [z, z1]); have z3 := hP.pi i hi; rw [z, z1] at z3; cases z3
          have hna9 : na2 = na ∨ G na2 = none := by
            rcases n_6 with z | z
            · exact Or.inl z
            · refine Or.inr ?_
              cases hz9 : G na2 with
              | none => rfl
              | some e => obtain ⟨e2, h2⟩ := hGe _ e hz9; obtain ⟨e3, h3⟩ := hP.L.al _ e2 h2; rw [z] at h3; cases h3
          refine W.widen (k := 8) (n := 4080) (by omega) (by omega) ?_
          exact W.iret (v := qv.2) hx hb hr (fun t ht hW => ⟨⟨_, _, rfl, (by simp only [← hKd, ← hSd, ← hVd, ← hNd, hR, hz]; exact ⟨(by first | trivial | rfl), LB, EB, AB, PB, wfv, na2, cap2, nv2, h_1, hTB2, h_w, hP3, hLB, n_1, n_2, n_3, n_4, n_5, hna9, hpn9⟩), mk_end hG ht⟩, hS.F ht⟩) hS.2.2 dX9_fill_161
        · skip
          refine lv_aload_n hx hb dX9_fill_46 rfl (lv_at hl 0 rfl) ?_
          refine va_gets (v := .ref (tk 2)) hx hb (show va_Z "DescribeText$Token" "END" "LDescribeText$Token;" (.ref (tk 2)) A s s.heap from (hE.2.1 2 (by decide)).1) hS hown (tb_use hT tw_433) (fun _ h9 => h9) dX9_fill_47 ?_
          refine va_calli (va_runV (As := [.ref (tk 2)]) (rest := []) ⟨hx, hb, hml, hown, (fun _ h9 => absurd h9 List.not_mem_nil : ∀ w ∈ ([] : List Cond), w.before _ s = true)⟩ (c_X9_sees l D cy A X hst hXT e0 tk hXE Gv o ow ed qv k ks ss vs tn K S V f1 f2 f3 2 v_o v_k v_ks v_ss v_vs hTP (by first | omega | (simp only []; omega)) (by decide)) (tb_cw (C := RX9) 1 hT tw_437 tw_106 tw_434 tw_436 tw_6 rfl rfl hq_X9_sees ⟨Nat.le_of_ble_eq_true rfl, Nat.le_of_ble_eq_true rfl⟩) (mk_preC hst hG hK hA hX hS vc_10 v_o) rfl rfl hl.1 rfl (lv_room (Nat.le_of_ble_eq_true rfl)) dX9_fill_50 ⟨(by show coC vv + 0 ≤ 8; omega), (by show coS vv + 0 ≤ 4080; omega)⟩) hS (fun q _ h => h) (fun q h => h) (fun r23 G24 t H locs ht hvm hw hB hz1 hk1 hS => ?_)
          have hG : mm D vwCl A G24 H := by rw [← ht]; exact hB
          clear hB hz1 hk1 hvm ht
          obtain ⟨er23, hw⟩ := hw
          rw [hw] at hG
          refine lv_if_ne (tgt := 153) hx hb dX9_fill_53 (by decide) (fun c_53 => ?_) (fun c_53 => ?_)
          · skip
            refine lv_aload_n hx hb dX9_fill_153 rfl (lv_at hl 0 rfl) ?_
            refine va_callv (va_runV (As := []) (rest := []) ⟨hx, hb, hml, hown, (fun _ h9 => absurd h9 List.not_mem_nil : ∀ w ∈ ([] : List Cond), w.before _ s = true)⟩ (c_X9_noteNames l D cy A X hst hXT e0 tk hXE mi hXL Gv o ow ed qv k ks ss vs tn K S V f1 f2 f3 (LA 0) (LA 1) (LA 2) (LA 3) (LA 4) (LA 5) na wa iu rs nv0 v_o v_k v_ks v_ss v_vs hTP v_ed v_na) (tb_cw (C := RX9) 0 hT tw_972 tw_106 tw_969 tw_971 tw_31 rfl rfl hq_X9_noteNames ⟨Nat.le_of_ble_eq_true rfl, Nat.le_of_ble_eq_true rfl⟩) (mk_preC hst hG hK hA hX hS vc_10 v_o) rfl rfl hl.1 rfl (lv_room (Nat.le_of_ble_eq_true rfl)) dX9_fill_154 ⟨(by show coC vv + 8 ≤ 8; omega), (by show coS vv + 4080 ≤ 4080; omega)⟩) hS (fun q _ h => h) (fun q h => h) (fun  G25 t H locs ht hvm hw hB hz1 hk1 hS => ?_)
            have hG : mm D vwCl A G25 H := by rw [← ht]; exact hB
            clear hB hz1 hk1 hvm ht
            obtain ⟨na2, cap2, nv2, n_1, n_2, n_3, n_4, n_5, n_6, n_7, n_f⟩ := hw
            have h_1 : G25 o = some (.inr (10, [.ref k, .ref ow, .ref ed, .int (nI qv.1), .int qv.2])) := n_f _ _ v_o (mm_ne_oo v_o v_ed (by decide)) (mm_ne_oa v_o v_na)
            refine lv_aload_n hx hb dX9_fill_157 rfl (lv_at hl 0 rfl) ?_
            refine mm_get (v := .int qv.2) hx hb hf_X9 (fun _ h9 => h9) hown hK hG h_1 rfl 4 (by decide) (tb_use hT tw_181) (fun _ h9 => h9) rfl dX9_fill_158 ?_
            have hz : RF = (vv, qv) := by
              rw [← hq]
              have hse : se K qv.1 qv.2 2 = true := by rw [er23] at c_53; revert c_53; cases se K qv.1 qv.2 2 <;> simp [b2i]
              first | rfl | rw [q_fill, if_neg (fun z => z.2 (se_t hse).2)]
            have hb1 : ∀ x, Gs x = none → G x = none := fun x hx9 => by
              cases hz9 : G x with
              | none => rfl
              | some e => obtain ⟨e2, h2⟩ := hGe x e hz9; rw [hx9] at h2; cases h2
            have hsub : ∀ x, Lx x → (fun x => x = o ∨ x = ow ∨ x = k ∨ x = ks ∨ x = ss ∨ x = vs ∨ x = ed ∨ x = na ∨ ∃ i, i < 6 ∧ x = LA i) x := by
              intro x z
              rw [hLx] at z
              rcases z with z | z | z
              · exact Or.inl z
              · exact Or.inr (Or.inl z)
              · exact Or.inr (Or.inr (Or.inr (Or.inr (Or.inr (Or.inr (Or.inr (Or.inr z)))))))
            have hb2 : ∀ i, lvV vv i → G (LB i) = none ∨ (fun x => x = o ∨ x = ow ∨ x = k ∨ x = ks ∨ x = ss ∨ x = vs ∨ x = ed ∨ x = na ∨ ∃ i, i < 6 ∧ x = LA i) (LB i) := fun i hi => (hP.L.fl i hi).elim (fun z => Or.inl (hb1 _ z)) (fun z => Or.inr (hsub _ z))
            have hb3 : ∀ x e, G x = some e → ∃ e2, Gv x = some e2 := fun x e h1 => by obtain ⟨e2, h2⟩ := hGe x e h1; exact hP.L.al x e2 h2
            have hb4 : ∀ x e, G x = some e → ¬ (fun x => x = o ∨ x = ow ∨ x = k ∨ x = ks ∨ x = ss ∨ x = vs ∨ x = ed ∨ x = na ∨ ∃ i, i < 6 ∧ x = LA i) x → Gv x = some e := fun x e h1 nb => by
              have z9 := hGs x e h1 (fun z => nb (Or.inl z)) (fun z => nb (Or.inr (Or.inr (Or.inl z)))) (fun z => nb (Or.inr (Or.inr (Or.inr (Or.inl z))))) (fun z => nb (Or.inr (Or.inr (Or.inr (Or.inr (Or.inl z)))))) (fun z => nb (Or.inr (Or.inr (Or.inr (Or.inr (Or.inr (Or.inl z)))))))
              exact hP.L.fr x e z9 (fun z => nb (hsub x z))
            have hP1 : EDP cy e0 tk G (fun x => x = o ∨ x = ow ∨ x = k ∨ x = ks ∨ x = ss ∨ x = vs ∨ x = ed ∨ x = na ∨ ∃ i, i < 6 ∧ x = LA i) Gv vv PtV.nil LB EB AB PB := EDP.base hP hb1 hb2 hb3 hb4
            obtain ⟨a1, a2, a3, a4⟩ := hP.oW (Or.inr rfl) v_ed
            obtain ⟨b1, b2, b3, b4⟩ := hP.nW v_na (by decide)
            have hP3 : EDP cy e0 tk G (fun x => x = o ∨ x = ow ∨ x = k ∨ x = ks ∨ x = ss ∨ x = vs ∨ x = ed ∨ x = na ∨ ∃ i, i < 6 ∧ x = LA i) G25 vv PtV.nil LB EB AB PB := hP1.mvG (fun x => x = ed ∨ x = na) (fun x hx9 => by rcases hx9 with z | z; exact Or.inr (Or.inr (Or.inr (Or.inr (Or.inr (Or.inr (Or.inl z)))))); exact Or.inr (Or.inr (Or.inr (Or.inr (Or.inr (Or.inr (Or.inr (Or.inl z)))))))) (fun i hi z => z.elim (a1 i hi) (b1 i hi)) (fun i hi n z => z.elim (a2 i hi n) (b2 i hi n)) (fun i j hi hj z => z.elim (a3 i j hi hj) (b3 i j hi hj)) (fun i hi z => z.elim (a4 i hi) (b4 i hi)) (fun x hx9 => by rcases hx9 with z | z; exact ⟨_, by rw [z]; exact n_1⟩; rw [z]; exact n_7) (fun x e h1 nb => n_f x e h1 (fun z => nb (Or.inl z)) (fun z => nb (Or.inr z)))
            have hTB2 : TKB cy tk G25 k ks ss vs tn K S V := ⟨f1, f2, f3, n_f _ _ v_k (mm_ne_oo v_k v_ed (by decide)) (mm_ne_oa v_k v_na), n_f _ _ v_ks (mm_ne_ao v_ks v_ed) (mm_ne_n v_ks v_na (by decide)), n_f _ _ v_ss (mm_ne_ao v_ss v_ed) (mm_ne_n v_ss v_na (by decide)), n_f _ _ v_vs (mm_ne_ao v_vs v_ed) (mm_ne_n v_vs v_na (by decide)), hTP.2.2⟩
            have h_w : G25 ow = some (.inl (cy 1, 3, .inl wfv)) := n_f _ _ v_ow (mm_ne_ao v_ow v_ed) (mm_ne_n v_ow v_na (by decide))
            have hpn9 : ∀ i, i < vv.nJ → PB i ≠ na2 := fun i hi z => by rcases n_6 with z1 | z1; exact b4 i hi (by rw [z, z1]); have z3 := hP.pi i hi; rw [z, z1] at z3; cases z3
            have hna9 : na2 = na ∨ G na2 = none := by
              rcases n_6 with z | z
              · exact Or.inl z
              · refine Or.inr ?_
                cases hz9 : G na2 with
                | none => rfl
                | some e => obtain ⟨e2, h2⟩ := hGe _ e hz9; obtain ⟨e3, h3⟩ := hP.L.al _ e2 h2; rw [z] at h3; cases h3
            refine W.widen (k := 8) (n := 4080) (by omega) (by omega) ?_
            exact W.iret (v := qv.2) hx hb hr (fun t ht hW => ⟨⟨_, _, rfl, (by simp only [← hKd, ← hSd, ← hVd, ← hNd, hR, hz]; exact ⟨(by first | trivial | rfl), LB, EB, AB, PB, wfv, na2, cap2, nv2, h_1, hTB2, h_w, hP3, hLB, n_1, n_2, n_3, n_4, n_5, hna9, hpn9⟩), mk_end hG ht⟩, hS.F ht⟩) hS.2.2 dX9_fill_161
          · skip
            have hq0 : qv.2 < 0 := Int32.not_le.mp c_43
            have hse : se K qv.1 qv.2 2 = false := by rw [er23] at c_53; revert c_53; cases se K qv.1 qv.2 2 <;> simp [b2i]
            have hk2 : K qv.1 ≠ 2 := fun z => by rw [se, z, decide_eq_true hq0] at hse; cases hse
            have hti : K qv.1 < 35 := (hTP.2.1 qv.1).1
            exact absurd hk2n hk2
  refine lv_aload_n hx hb dX9_fill_0 rfl (lv_at hl 0 rfl) ?_
  refine mm_get (v := .ref k) hx hb hf_X9 (fun _ h9 => h9) hown hK hG h0 rfl 0 (by decide) (tb_use hT tw_177) (fun _ h9 => h9) rfl dX9_fill_1 ?_
  refine lv_aload_n hx hb dX9_fill_4 rfl (lv_at hl 2 rfl) ?_
  refine lv_iload_n hx hb dX9_fill_5 rfl (lv_at hl 3 rfl) ?_
  refine va_callv (va_runV (As := [.ref tx, .int (nI tn9)]) (rest := []) ⟨hx, hb, hml, hown, (fun _ h9 => absurd h9 List.not_mem_nil : ∀ w ∈ ([] : List Cond), w.before _ s = true)⟩ (c_X12_cut l D cy A X hst hXT e0 tk hXE mi hXL ax adK adV hXX G k ks ss vs m0 K0 S0 V0 tx tn9 ft hTB htx htn ⟨(mm_ne_ao htx hk), (mm_ne_e htx hks (fun z => by have z2 := (Prod.mk.inj (Prod.mk.inj (Sum.inl.inj z)).2).2; cases z2)), (mm_ne_n htx hss (by decide)), (mm_ne_e htx hvs (fun z => by have z2 := (Prod.mk.inj (Prod.mk.inj (Sum.inl.inj z)).2).2; cases z2))⟩) (tb_cw (C := RX12) 2 hT tw_332 tw_107 tw_329 tw_330 tw_331 rfl rfl hq_X12_cut ⟨Nat.le_of_ble_eq_true rfl, Nat.le_of_ble_eq_true rfl⟩) (mk_preC hst hG hK hA hX hS vc_13 hk) rfl rfl hl.1 rfl (lv_room (Nat.le_of_ble_eq_true rfl)) dX9_fill_6 ⟨Nat.le_of_ble_eq_true rfl, Nat.le_of_ble_eq_true rfl⟩) hS (fun q _ h => h) (fun q h => h) (fun  G26 t H locs ht hvm hw hB hz1 hk1 hS => ?_)
  have hG : mm D vwCl A G26 H := by rw [← ht]; exact hB
  clear hB hz1 hk1 hvm ht
  rw [← hKd, ← hSd, ← hVd, ← hNd] at hw
  obtain ⟨hT2, hK35, hKo, hf2⟩ := hw
  obtain ⟨f1, f2, f3, g_k, g_ks, g_ss, g_vs, htk⟩ := hT2
  have hTP : TKP tk tn K S V f1 f2 f3 := ⟨hK35.2, fun j => ⟨hK35.1 j, hKo j⟩, htk⟩
  have k27 : G26 o = some (.inr (10, [.ref k, .ref ow, va_rf edp, .int pl0, .int fa0])) := hf2 _ _ h0 (mm_ne_oo h0 hk (by decide)) (mm_ne_oa h0 hks) (mm_ne_oa h0 hss) (mm_ne_oa h0 hvs)
  have k28 : G26 tx = some (.inl (cy 0, 2000, .inl ft)) := hf2 _ _ htx (mm_ne_ao htx hk) (mm_ne_e htx hks (fun z => by have z2 := (Prod.mk.inj (Prod.mk.inj (Sum.inl.inj z)).2).2; cases z2)) (mm_ne_n htx hss (by decide)) (mm_ne_e htx hvs (fun z => by have z2 := (Prod.mk.inj (Prod.mk.inj (Sum.inl.inj z)).2).2; cases z2))
  have k29 : G26 ow = some (.inl (cy 1, 3, .inl wf0)) := hf2 _ _ hwf (mm_ne_ao hwf hk) (mm_ne_e hwf hks (fun z => by have z2 := (Prod.mk.inj (Prod.mk.inj (Sum.inl.inj z)).2).2; cases z2)) (mm_ne_n hwf hss (by decide)) (mm_ne_e hwf hvs (fun z => by have z2 := (Prod.mk.inj (Prod.mk.inj (Sum.inl.inj z)).2).2; cases z2))
  have k30 : G26 ed = some (.inr (3, [.ref (LA 0), .ref (LA 1), .ref (LA 2), .ref (LA 3), .ref (LA 4), .ref (LA 5), .ref na, .int 0, va_rf iu, .int wa, va_rf rs])) := hf2 _ _ hed (mm_ne_oo hed hk (by decide)) (mm_ne_oa hed hks) (mm_ne_oa hed hss) (mm_ne_oa hed hvs)
  have k31 : G26 na = some (.inl (cy 2, 8, .inr (.inl nv0))) := hf2 _ _ hna (mm_ne_ao hna hk) (mm_ne_e hna hks (fun z => by have z2 := (Prod.mk.inj (Prod.mk.inj (Sum.inl.inj z)).2).2; cases z2)) (mm_ne_e hna hss (fun z => by have z2 := (Prod.mk.inj (Prod.mk.inj (Sum.inl.inj z)).2).2; cases z2)) (mm_ne_n hna hvs (by decide))
  have k32 : G26 (LA 0) = some (.inr (1, [.int 0, .ref e0, .int 0])) := hf2 _ _ hL0 (mm_ne_oo hL0 hk (by decide)) (mm_ne_oa hL0 hks) (mm_ne_oa hL0 hss) (mm_ne_oa hL0 hvs)
  have k33 : G26 (LA 1) = some (.inr (1, [.int 0, .ref e0, .int 0])) := hf2 _ _ hL1 (mm_ne_oo hL1 hk (by decide)) (mm_ne_oa hL1 hks) (mm_ne_oa hL1 hss) (mm_ne_oa hL1 hvs)
  have k34 : G26 (LA 2) = some (.inr (1, [.int 0, .ref e0, .int 0])) := hf2 _ _ hL2 (mm_ne_oo hL2 hk (by decide)) (mm_ne_oa hL2 hks) (mm_ne_oa hL2 hss) (mm_ne_oa hL2 hvs)
  have k35 : G26 (LA 3) = some (.inr (1, [.int 0, .ref e0, .int 0])) := hf2 _ _ hL3 (mm_ne_oo hL3 hk (by decide)) (mm_ne_oa hL3 hks) (mm_ne_oa hL3 hss) (mm_ne_oa hL3 hvs)
  have k36 : G26 (LA 4) = some (.inr (1, [.int 0, .ref e0, .int 0])) := hf2 _ _ hL4 (mm_ne_oo hL4 hk (by decide)) (mm_ne_oa hL4 hks) (mm_ne_oa hL4 hss) (mm_ne_oa hL4 hvs)
  have k37 : G26 (LA 5) = some (.inr (1, [.int 0, .ref e0, .int 0])) := hf2 _ _ hL5 (mm_ne_oo hL5 hk (by decide)) (mm_ne_oa hL5 hks) (mm_ne_oa hL5 hss) (mm_ne_oa hL5 hvs)
  have hGe1 : ∀ x e, G x = some e → ∃ e2, G26 x = some e2 := by
    intro x e hx9
    by_cases z1 : x = k
    · exact ⟨_, by rw [z1]; exact g_k⟩
    by_cases z2 : x = ks
    · exact ⟨_, by rw [z2]; exact g_ks⟩
    by_cases z3 : x = ss
    · exact ⟨_, by rw [z3]; exact g_ss⟩
    by_cases z4 : x = vs
    · exact ⟨_, by rw [z4]; exact g_vs⟩
    exact ⟨e, hf2 x e hx9 z1 z2 z3 z4⟩
  refine lv_aload_n hx hb dX9_fill_9 rfl (lv_at hl 0 rfl) ?_
  refine lv_aload_n hx hb dX9_fill_10 rfl (lv_at hl 1 rfl) ?_
  refine mm_put (v := .ref ed) (ty := .object "DescribeText$Edition") hx hb hf_X9 (fun _ h9 => h9) tyX9 tyX9_ok nmX9 hown hK hG hS k27 rfl 2 (by decide) (tb_use hT tw_179) (fun _ h9 => h9) rfl (by decide +kernel) rfl rfl (Nat.le_of_ble_eq_true rfl) dX9_fill_11 (fun H locs hG hS => ?_)
  obtain ⟨G38, eG38⟩ : ∃ g, g = mm_set G26 o (.inr (10, [.ref k, .ref ow, .ref ed, .int pl0, .int fa0])) := ⟨_, rfl⟩
  have hG : mm D vwCl A G38 H := by rw [eG38]; exact hG
  have k39 : G38 o = some (.inr (10, [.ref k, .ref ow, .ref ed, .int pl0, .int fa0])) := by rw [eG38]; exact mm_set_self
  have k40 : G38 tx = some (.inl (cy 0, 2000, .inl ft)) := by rw [eG38]; exact mm_set_of k28 (mm_ne_ao k28 k27)
  have k41 : G38 ow = some (.inl (cy 1, 3, .inl wf0)) := by rw [eG38]; exact mm_set_of k29 (mm_ne_ao k29 k27)
  have k42 : G38 ed = some (.inr (3, [.ref (LA 0), .ref (LA 1), .ref (LA 2), .ref (LA 3), .ref (LA 4), .ref (LA 5), .ref na, .int 0, va_rf iu, .int wa, va_rf rs])) := by rw [eG38]; exact mm_set_of k30 (mm_ne_oo k30 k27 (by decide))
  have k43 : G38 na = some (.inl (cy 2, 8, .inr (.inl nv0))) := by rw [eG38]; exact mm_set_of k31 (mm_ne_ao k31 k27)
  have k44 : G38 (LA 0) = some (.inr (1, [.int 0, .ref e0, .int 0])) := by rw [eG38]; exact mm_set_of k32 (mm_ne_oo k32 k27 (by decide))
  have k45 : G38 (LA 1) = some (.inr (1, [.int 0, .ref e0, .int 0])) := by rw [eG38]; exact mm_set_of k33 (mm_ne_oo k33 k27 (by decide))
  have k46 : G38 (LA 2) = some (.inr (1, [.int 0, .ref e0, .int 0])) := by rw [eG38]; exact mm_set_of k34 (mm_ne_oo k34 k27 (by decide))
  have k47 : G38 (LA 3) = some (.inr (1, [.int 0, .ref e0, .int 0])) := by rw [eG38]; exact mm_set_of k35 (mm_ne_oo k35 k27 (by decide))
  have k48 : G38 (LA 4) = some (.inr (1, [.int 0, .ref e0, .int 0])) := by rw [eG38]; exact mm_set_of k36 (mm_ne_oo k36 k27 (by decide))
  have k49 : G38 (LA 5) = some (.inr (1, [.int 0, .ref e0, .int 0])) := by rw [eG38]; exact mm_set_of k37 (mm_ne_oo k37 k27 (by decide))
  have k50 : G38 k = some (.inr (13, [.ref ks, .ref ss, .ref vs, .int (nI tn)])) := by rw [eG38]; exact mm_set_of g_k (mm_ne_oo g_k k27 (by decide))
  have k51 : G38 ks = some (.inl (cy 5, 2001, .inr (.inr (.inr (.inr f1))))) := by rw [eG38]; exact mm_set_of g_ks (mm_ne_ao g_ks k27)
  have k52 : G38 ss = some (.inl (cy 1, 2001, .inl f2)) := by rw [eG38]; exact mm_set_of g_ss (mm_ne_ao g_ss k27)
  have k53 : G38 vs = some (.inl (cy 2, 2001, .inr (.inl f3))) := by rw [eG38]; exact mm_set_of g_vs (mm_ne_ao g_vs k27)
  refine lv_aload_n hx hb dX9_fill_14 rfl (lv_at hl 0 rfl) ?_
  refine lv_iconst (v := 0) hx hb dX9_fill_15 (by decide) ?_
  refine mm_put (v := .int 0) (ty := .int) hx hb hf_X9 (fun _ h9 => h9) tyX9 tyX9_ok nmX9 hown hK hG hS k39 rfl 3 (by decide) (tb_use hT tw_180) (fun _ h9 => h9) rfl (by decide +kernel) rfl rfl (Nat.le_of_ble_eq_true rfl) dX9_fill_16 (fun H locs hG hS => ?_)
  obtain ⟨G54, eG54⟩ : ∃ g, g = mm_set G38 o (.inr (10, [.ref k, .ref ow, .ref ed, .int 0, .int fa0])) := ⟨_, rfl⟩
  have hG : mm D vwCl A G54 H := by rw [eG54]; exact hG
  have k55 : G54 o = some (.inr (10, [.ref k, .ref ow, .ref ed, .int 0, .int fa0])) := by rw [eG54]; exact mm_set_self
  have k56 : G54 tx = some (.inl (cy 0, 2000, .inl ft)) := by rw [eG54]; exact mm_set_of k40 (mm_ne_ao k40 k39)
  have k57 : G54 ow = some (.inl (cy 1, 3, .inl wf0)) := by rw [eG54]; exact mm_set_of k41 (mm_ne_ao k41 k39)
  have k58 : G54 ed = some (.inr (3, [.ref (LA 0), .ref (LA 1), .ref (LA 2), .ref (LA 3), .ref (LA 4), .ref (LA 5), .ref na, .int 0, va_rf iu, .int wa, va_rf rs])) := by rw [eG54]; exact mm_set_of k42 (mm_ne_oo k42 k39 (by decide))
  have k59 : G54 na = some (.inl (cy 2, 8, .inr (.inl nv0))) := by rw [eG54]; exact mm_set_of k43 (mm_ne_ao k43 k39)
  have k60 : G54 (LA 0) = some (.inr (1, [.int 0, .ref e0, .int 0])) := by rw [eG54]; exact mm_set_of k44 (mm_ne_oo k44 k39 (by decide))
  have k61 : G54 (LA 1) = some (.inr (1, [.int 0, .ref e0, .int 0])) := by rw [eG54]; exact mm_set_of k45 (mm_ne_oo k45 k39 (by decide))
  have k62 : G54 (LA 2) = some (.inr (1, [.int 0, .ref e0, .int 0])) := by rw [eG54]; exact mm_set_of k46 (mm_ne_oo k46 k39 (by decide))
  have k63 : G54 (LA 3) = some (.inr (1, [.int 0, .ref e0, .int 0])) := by rw [eG54]; exact mm_set_of k47 (mm_ne_oo k47 k39 (by decide))
  have k64 : G54 (LA 4) = some (.inr (1, [.int 0, .ref e0, .int 0])) := by rw [eG54]; exact mm_set_of k48 (mm_ne_oo k48 k39 (by decide))
  have k65 : G54 (LA 5) = some (.inr (1, [.int 0, .ref e0, .int 0])) := by rw [eG54]; exact mm_set_of k49 (mm_ne_oo k49 k39 (by decide))
  have k66 : G54 k = some (.inr (13, [.ref ks, .ref ss, .ref vs, .int (nI tn)])) := by rw [eG54]; exact mm_set_of k50 (mm_ne_oo k50 k39 (by decide))
  have k67 : G54 ks = some (.inl (cy 5, 2001, .inr (.inr (.inr (.inr f1))))) := by rw [eG54]; exact mm_set_of k51 (mm_ne_ao k51 k39)
  have k68 : G54 ss = some (.inl (cy 1, 2001, .inl f2)) := by rw [eG54]; exact mm_set_of k52 (mm_ne_ao k52 k39)
  have k69 : G54 vs = some (.inl (cy 2, 2001, .inr (.inl f3))) := by rw [eG54]; exact mm_set_of k53 (mm_ne_ao k53 k39)
  refine lv_aload_n hx hb dX9_fill_19 rfl (lv_at hl 0 rfl) ?_
  refine lv_iconst (v := (-1)) hx hb dX9_fill_20 (by decide) ?_
  refine mm_put (v := .int (-1)) (ty := .int) hx hb hf_X9 (fun _ h9 => h9) tyX9 tyX9_ok nmX9 hown hK hG hS k55 rfl 4 (by decide) (tb_use hT tw_181) (fun _ h9 => h9) rfl (by decide +kernel) rfl rfl (Nat.le_of_ble_eq_true rfl) dX9_fill_21 (fun H locs hG hS => ?_)
  obtain ⟨G70, eG70⟩ : ∃ g, g = mm_set G54 o (.inr (10, [.ref k, .ref ow, .ref ed, .int 0, .int (-1)])) := ⟨_, rfl⟩
  have hG : mm D vwCl A G70 H := by rw [eG70]; exact hG
  have k71 : G70 o = some (.inr (10, [.ref k, .ref ow, .ref ed, .int 0, .int (-1)])) := by rw [eG70]; exact mm_set_self
  have k72 : G70 tx = some (.inl (cy 0, 2000, .inl ft)) := by rw [eG70]; exact mm_set_of k56 (mm_ne_ao k56 k55)
  have k73 : G70 ow = some (.inl (cy 1, 3, .inl wf0)) := by rw [eG70]; exact mm_set_of k57 (mm_ne_ao k57 k55)
  have k74 : G70 ed = some (.inr (3, [.ref (LA 0), .ref (LA 1), .ref (LA 2), .ref (LA 3), .ref (LA 4), .ref (LA 5), .ref na, .int 0, va_rf iu, .int wa, va_rf rs])) := by rw [eG70]; exact mm_set_of k58 (mm_ne_oo k58 k55 (by decide))
  have k75 : G70 na = some (.inl (cy 2, 8, .inr (.inl nv0))) := by rw [eG70]; exact mm_set_of k59 (mm_ne_ao k59 k55)
  have k76 : G70 (LA 0) = some (.inr (1, [.int 0, .ref e0, .int 0])) := by rw [eG70]; exact mm_set_of k60 (mm_ne_oo k60 k55 (by decide))
  have k77 : G70 (LA 1) = some (.inr (1, [.int 0, .ref e0, .int 0])) := by rw [eG70]; exact mm_set_of k61 (mm_ne_oo k61 k55 (by decide))
  have k78 : G70 (LA 2) = some (.inr (1, [.int 0, .ref e0, .int 0])) := by rw [eG70]; exact mm_set_of k62 (mm_ne_oo k62 k55 (by decide))
  have k79 : G70 (LA 3) = some (.inr (1, [.int 0, .ref e0, .int 0])) := by rw [eG70]; exact mm_set_of k63 (mm_ne_oo k63 k55 (by decide))
  have k80 : G70 (LA 4) = some (.inr (1, [.int 0, .ref e0, .int 0])) := by rw [eG70]; exact mm_set_of k64 (mm_ne_oo k64 k55 (by decide))
  have k81 : G70 (LA 5) = some (.inr (1, [.int 0, .ref e0, .int 0])) := by rw [eG70]; exact mm_set_of k65 (mm_ne_oo k65 k55 (by decide))
  have k82 : G70 k = some (.inr (13, [.ref ks, .ref ss, .ref vs, .int (nI tn)])) := by rw [eG70]; exact mm_set_of k66 (mm_ne_oo k66 k55 (by decide))
  have k83 : G70 ks = some (.inl (cy 5, 2001, .inr (.inr (.inr (.inr f1))))) := by rw [eG70]; exact mm_set_of k67 (mm_ne_ao k67 k55)
  have k84 : G70 ss = some (.inl (cy 1, 2001, .inl f2)) := by rw [eG70]; exact mm_set_of k68 (mm_ne_ao k68 k55)
  have k85 : G70 vs = some (.inl (cy 2, 2001, .inr (.inl f3))) := by rw [eG70]; exact mm_set_of k69 (mm_ne_ao k69 k55)
  refine lv_iconst (v := 0) hx hb dX9_fill_24 (by decide) ?_
  refine lv_istore (lv' := [(4, .int 0), (0, .ref o), (1, .ref ed), (2, .ref tx), (3, .int (nI tn9))]) hx hb dX9_fill_25 hl (by decide) rfl (fun ls hl => ?_)
  have hfO : ∀ (x : Nat) (e : va_E), G26 x = some e → x ≠ o → G70 x = some e := by
    intro x e z0 n_o
    have z1 : G38 x = some e := by rw [eG38]; exact mm_set_of z0 n_o
    have z2 : G54 x = some e := by rw [eG54]; exact mm_set_of z1 n_o
    have z3 : G70 x = some e := by rw [eG70]; exact mm_set_of z2 n_o
    exact z3
  have hls9 : ∀ i, i < 6 → G70 (LA i) = some (.inr (1, [.int 0, .ref e0, .int 0])) := fun i hi => hfO _ _ (hf2 _ _ (hls i hi) (mm_ne_oo (hls i hi) hk (by decide)) (mm_ne_oa (hls i hi) hks) (mm_ne_oa (hls i hi) hss) (mm_ne_oa (hls i hi) hvs)) (mm_ne_oo (hls i hi) h0 (by decide))
  have hP0 : EDP cy e0 tk G70 Lx G70 EdV.nil PtV.nil LA (fun _ => e0) (fun _ _ => 0) (fun _ => 0) := EDP.start (fun i hi => ⟨0, hls9 i hi, Or.inl ⟨rfl, rfl⟩⟩) hla hBl
  have hGs : ∀ x e, G x = some e → x ≠ o → x ≠ k → x ≠ ks → x ≠ ss → x ≠ vs → G70 x = some e := fun x e h1 n1 n2 n3 n4 n5 => hfO x e (hf2 x e h1 n2 n3 n4 n5) n1
  have hGe : ∀ x e, G x = some e → ∃ e2, G70 x = some e2 := by
    intro x e hx9
    by_cases z1 : x = o
    · exact ⟨_, by rw [z1]; exact k71⟩
    obtain ⟨e2, h2⟩ := hGe1 x e hx9
    exact ⟨e2, hfO x e2 h2 z1⟩
  refine W.widen (k := coC EdV.nil) (n := coS EdV.nil) (Nat.zero_le _) (Nat.zero_le _) ?_
  exact hloop tn 0 (0, -1) EdV.nil LA (fun _ => e0) (fun _ _ => 0) (fun _ => 0) wf0 G70 f1 f2 f3 rfl hk20 (by omega) hR (by show 0 ≤ 1600 * 0; omega) (fun _ => by unfold BDv; decide) (fun _ _ => rfl) hTP hGs hGe k82 k83 k84 k85 k74 k75 G70 k71 k73 hP0 _ _ hG hS ls (lv_sub hl [1, 2, 3, 4, 0] rfl)
