theorem c_M_claimr (l : Launch) (D : va_G) (cy : Nat → ClassId) (A : Nat → Prop) (X : State → Prop) (hst : mk_St A X) (hXT : ∀ U : State, X U → TB U) (G : Nat → Option va_E) (o : Nat) (Ar : Nat → Nat) (Iv : Nat → Int32) (F : Nat → Nat → Int32) (L : Nat → Nat → Int64) (ft : Nat → Int32) (sx fr en bo : Nat) (q : Nat × Int32) (cl : List CLi) (c9 k9 a9 b9 : Nat) (hM : MD cy G o Ar Iv F L) (hQ : LXq Ar Iv F ft sx fr en bo q) (hC : CLq Iv F ft en cl c9) (hc1 : c9 ≤ q.1 + 1) (hc2 : q.2 < 0 → c9 ≤ q.1) : Met l yX14_claim [.code yX14_claim cX14_claim 4 none] ({ frames := 0, cells := 0, slots := 0, locals := 0 }) (mk_Pre D vwCl (tyL cy) A X G [.ref o, .int (nI k9), .int (nI a9), .int (nI b9)]) (va_Qv (fun (G2 : Nat → Option va_E) => ∃ (I2 : Nat → Int32) (F2 : Nat → Nat → Int32), MD cy G2 o Ar I2 F2 L ∧ MF G G2 o Ar ∧ LXq Ar I2 F2 ft sx fr en bo q ∧ CLq I2 F2 ft en (clA q cl (k9, q.1, a9, b9)) (q.1 + 1) ∧ (∀ j, ¬ j = 58 → I2 j = Iv j) ∧ ∀ j, ¬ (59 ≤ j ∧ j ≤ 62) → F2 j = F j) (mk_B D vwCl A) A) 0 0 A := by
  have hen := hQ.1.2.2.2.1
  have hq1 := hQ.2.1
  have hl := hC.2.1
  refine (c_M_claim l D cy A X hst hXT G o Ar Iv F L (nI k9) (nI a9) (nI b9) hM (fun z => by rw [hC.1]; exact vp_in_nI (by have := hc2 (hQ.g1.mp z); omega) (by decide))).mono (Nat.le_refl _) (Nat.le_refl _) (Nat.le_refl _) (Nat.le_refl _) (Nat.le_refl _) (Nat.le_refl _) (fun _ _ h => h) ?_
  rintro a s o2 t ⟨⟨G2, h1, ⟨h2, h3⟩, h4⟩, h5⟩
  refine ⟨⟨G2, h1, ⟨cmI Iv, cmF Iv F (nI k9) (nI a9) (nI b9), h2, h3, ?_⟩, h4⟩, h5⟩
  unfold clA cmI cmF
  by_cases hq : q.2 < 0
  · have h55 : ¬ Iv 55 = 0 := hQ.g1.mpr hq
    have hcl : (Iv 58).toNatClampNeg = cl.length := by rw [hC.1, nI_clamp (by omega)]
    have h2 := hc2 hq
    rw [if_neg h55, if_neg h55, if_pos hq, hcl]
    refine ⟨?_, ⟨?_, ?_, ?_⟩, (fun j hj => pk_un hj), ?_⟩
    · exact ((((hQ.wF (by decide)).wF (by decide)).wF (by decide)).wF (by decide)).wI (by decide)
    · rw [pk_us, hC.1, List.length_append]
      exact nI_1 _
    · rw [List.length_append]
      show cl.length + 1 < q.1 + 1
      omega
    · intro k x hk
      obtain ⟨x9, e1, e2⟩ := hQ.2.2.2.1
      rcases Nat.lt_or_ge k cl.length with hlt | hge
      · rw [List.getElem?_append_left hlt] at hk
        obtain ⟨y1, y2, y3, y4⟩ := hC.2.2 k x hk
        have hne : k ≠ cl.length := by omega
        refine ⟨?_, ?_, ?_, ?_⟩
        · show upd (F 59) cl.length (nI k9) k = _
          rw [pk_un hne]; exact y1
        · show upd (F 60) cl.length (Iv 54) k = _
          rw [pk_un hne]; exact y2
        · show upd (F 61) cl.length (nI a9) k = _
          rw [pk_un hne]; exact y3
        · show upd (F 62) cl.length (nI b9) k = _
          rw [pk_un hne]; exact y4
      · rw [List.getElem?_append_right hge] at hk
        have hk0 : k = cl.length := by
          rcases Nat.eq_zero_or_pos (k - cl.length) with z | z
          · omega
          · rw [show k - cl.length = (k - cl.length - 1) + 1 by omega] at hk
            cases hk
        rw [hk0, Nat.sub_self] at hk
        injection hk with hk
        rw [← hk, hk0]
        refine ⟨?_, ?_, ?_, ?_⟩
        · show upd (F 59) cl.length (nI k9) cl.length = _
          rw [pk_us]
        · show upd (F 60) cl.length (Iv 54) cl.length = _
          rw [pk_us]
          show Iv 54 = lnc ft (tkS ft en q.1).toNatClampNeg
          rw [e2.1, nI_clamp (by omega)]
          exact e2.2
        · show upd (F 61) cl.length (nI a9) cl.length = _
          rw [pk_us]
        · show upd (F 62) cl.length (nI b9) cl.length = _
          rw [pk_us]
    · intro j hj
      rw [va_up_ne _ _ (by omega), va_up_ne _ _ (by omega), va_up_ne _ _ (by omega), va_up_ne _ _ (by omega)]
  · have h55 : Iv 55 = 0 := by
      rcases Decidable.em (Iv 55 = 0) with z | z
      · exact z
      · exact absurd (hQ.g1.mp z) hq
    rw [if_pos h55, if_pos h55, if_neg hq]
    exact ⟨hQ, hC.le hc1, fun _ _ => rfl, fun _ _ => rfl⟩
theorem IZ_58 {I J : Nat → Int32} (h : ∀ j, ¬ j = 58 → I j = J j) : IZ I = IZ J := by
  funext j
  unfold IZ
  by_cases e : 50 ≤ j ∧ j ≤ 58
  · rw [if_pos e, if_pos e]
  · rw [if_neg e, if_neg e, h j (by omega)]
def wO (bo j k : Nat) : Nat → Nat → Prop := fun m i => (m = 34 ∧ i = 4 * bo + j) ∨ (35 ≤ m ∧ m ≤ 37 ∧ i = 400 * bo + (100 * j + k))
/-- an OP's row of the book -/
def OPf (K : Nat → Nat) (V : Nat → Int64) (n : Nat) (F : Nat → Nat → Int32) (i : Nat) (d : OpD) : Prop := F 35 i = (if d.1 = 5 then 25 else nI (d.1 - 10)) ∧ (d.1 = 25 → (F 36 i).toInt64 = d.2.1) ∧ (d.1 = 26 → NMt K V n (F 36 i) d.2.2.1 ∧ NMt K V n (F 37 i) d.2.2.2.2.1) ∧ (d.1 = 34 ∨ d.1 = 5 → F 36 i = d.2.2.2.2.2.2)
theorem KD.w {k : Nat} {x : Int64} {vl : Int32} {m : Nat} {nv : Nat → Int64} (h : KD k x 1 vl m nv) : 11 ≤ k ∧ k < 35 ∧ vl = nI (k - 10) := by
  rcases h with ⟨_, h2, _⟩ | ⟨_, h2, _⟩ | ⟨_, h2⟩ | ⟨_, h2⟩ | ⟨_, _, h2, _⟩ | ⟨h1, h2, _, h4⟩
  · exact absurd h2 (by decide)
  · exact absurd h2 (by decide)
  · exact absurd h2 (by decide)
  · exact absurd h2 (by decide)
  · exact absurd h2 (by decide)
  · exact ⟨h1, h2, h4⟩
theorem KD.nw {k : Nat} {x : Int64} {kd vl : Int32} {m : Nat} {nv : Nat → Int64} (h : KD k x kd vl m nv) (hk : ¬ kd = 1) : k < 11 := by
  rcases h with ⟨h1, _⟩ | ⟨h1, _⟩ | ⟨h1, _⟩ | ⟨h1, _⟩ | ⟨_, h1, _⟩ | ⟨_, _, h1, _⟩
  · omega
  · omega
  · omega
  · omega
  · omega
  · exact absurd h1 hk
theorem q_op_40 {K : Nat → Nat} {S : Nat → Int32} {V : Nat → Int64} (hS : ∀ p, ¬ S p < 0) {ta on nC : Nat} {q : Nat × Int32} {wf : Nat → Int32} (h : ¬ nI ta < 40) (hq : q.2 < 0) (hk : ¬ K q.1 = 34) : (q_op K S V ta on nC q wf).1 = (q.1, S q.1) := by
  have e1 : q_begin S (nI ta) 40 q = (q.1, S q.1) := by unfold q_begin fl; rw [if_neg h, if_pos hq]
  simp only [q_op, if_neg hk, e1]
  by_cases h5 : K q.1 = 25
  · rw [if_pos h5]
    dsimp only
    rw [show (q_val K S V (q.1, S q.1)).2 = (q.1, S q.1) from by unfold q_val; rw [se_f (hS q.1), if_neg Bool.false_ne_true]; exact q_num_f (q := (q.1, S q.1)) (hS q.1), q_take_f (q := (q.1, S q.1)) (hS q.1)]
  · rw [if_neg h5]
    by_cases h6 : K q.1 = 26
    · rw [if_pos h6]
      dsimp only
      rw [q_name_f (q := (q.1, S q.1)) (hS q.1)]
      dsimp only
      rw [q_name_f (q := (q.1, S q.1)) (hS q.1)]
      dsimp only
      rw [q_take_f (q := (q.1, S q.1)) (hS q.1)]
    · rw [if_neg h6]
      dsimp only
      rw [q_take_f (q := (q.1, S q.1)) (hS q.1)]

set_option maxHeartbeats 4000000 in
set_option maxRecDepth 100000 in
theorem c_M_addOp (l : Launch) (D : va_G) (cy : Nat → ClassId) (A : Nat → Prop) (X : State → Prop) (hst : mk_St A X) (hXT : ∀ U : State, X U → TB U) (G : Nat → Option va_E) (o : Nat) (Ar : Nat → Nat) (Iv : Nat → Int32) (F : Nat → Nat → Int32) (L : Nat → Nat → Int64) (ft : Nat → Int32) (sx fr en bo : Nat) (q : Nat × Int32) (cl : List CLi) (c9 : Nat) (j9 k9 : Nat) (xo xa xb : Int32) (hM : MD cy G o Ar Iv F L) (hQ : LXq Ar Iv F ft sx fr en bo q) (hC : CLq Iv F ft en cl c9) (hj9 : j9 < 4) (hk9 : k9 < 100) (hn : F 34 (4 * bo + j9) = nI k9) : Met l yX14_addOp [.code yX14_addOp cX14_addOp 7 none] ({ frames := 0, cells := 0, slots := 0, locals := 0 }) (mk_Pre D vwCl (tyL cy) A X G [.ref o, .int (nI j9), .int xo, .int xa, .int xb]) (va_Qv (fun (G2 : Nat → Option va_E) => ∃ F2 : Nat → Nat → Int32, MD cy G2 o Ar Iv F2 L ∧ MF G G2 o Ar ∧ LXq Ar Iv F2 ft sx fr en bo q ∧ CLq Iv F2 ft en cl c9 ∧ FrW (wO bo j9 k9) F F2 ∧ F2 34 (4 * bo + j9) = nI (k9 + 1) ∧ F2 35 (400 * bo + (100 * j9 + k9)) = xo ∧ F2 36 (400 * bo + (100 * j9 + k9)) = xa ∧ F2 37 (400 * bo + (100 * j9 + k9)) = xb) (mk_B D vwCl A) A) 0 0 A := by
  refine Met.ofW (cc := cX14_addOp) (maxL := 7) (ret := none) (by decide) rfl ?_
  intro p e s m args below meth c s₁ B hml hv
  obtain ⟨rfl, hG, hK, hA, hX⟩ := hv
  have hx := B.exec
  have hb := B.bytes
  have hr := B.returns
  have hlocks := B.notSynchronized
  have hT := hXT s hX
  have hown : s.vm.findClass RX14 = some m.cls := findClass_of_methodNamed B.named
  have hf_X14 : ∀ w ∈ u_ws RX14 TX14 76, w.before ([.ref o, .int (nI j9), .int xo, .int xa, .int xb] : List Value).toArray s = true := tb_list hT fX14
  have hS : va_S A s.heap s.heap [] := va_S.rf
  have hl := lv_entry ([.ref o, .int (nI j9), .int xo, .int xa, .int xb]) (n := 7) (Nat.le_of_ble_eq_true rfl)
  rw [lg_entry_eq]
  generalize (lg_sl ([.ref o, .int (nI j9), .int xo, .int xa, .int xb]) ++ List.replicate (7 - (lg_sl ([.ref o, .int (nI j9), .int xo, .int xa, .int xb])).length) Slot.unset).toArray = ls at hl ⊢
  have hl : lv_has ls 7 [(0, .ref o), (1, .int (nI j9)), (2, .int xo), (3, .int xa), (4, .int xb)] := hl
  have hF : MF G G o Ar := MF.rf
  have hIZ : IZ Iv = IZ Iv := rfl
  have hSn : ∀ p, ¬ tkS ft en p < 0 := fun p => tkS_ge hQ.1.2.2.2.1 p
  have hbo := hQ.1.2.2.2.2.2.1
  have hbl := hQ.1.2.2.2.2.1
  have hFr : FrW (wO bo j9 k9) F F := FrW.rf
  refine lv_aload_n hx hb dX14_addOp_0 rfl (lv_at hl 0 rfl) ?_
  refine mm_get (v := .int (Iv 41)) hx hb hf_X14 (fun _ h9 => h9) hown hK hG hM.1 rfl 41 (by decide) (tb_use hT tw_1432) (fun _ h9 => h9) (mfs_g41 _ _) dX14_addOp_1 ?_
  rw [hbo]
  refine lv_istore (lv' := [(5, .int (nI bo)), (0, .ref o), (1, .int (nI j9)), (2, .int xo), (3, .int xa), (4, .int xb)]) hx hb dX14_addOp_4 hl (by decide) rfl (fun ls hl => ?_)
  refine lv_bipush (v := 100) hx hb dX14_addOp_6 (by decide) ?_
  refine lv_iload_n hx hb dX14_addOp_8 rfl (lv_at hl 2 rfl) ?_
  refine lv_imul hx hb dX14_addOp_9 ?_
  refine lv_aload_n hx hb dX14_addOp_10 rfl (lv_at hl 1 rfl) ?_
  refine mm_get (v := .ref (Ar 34)) hx hb hf_X14 (fun _ h9 => h9) hown hK hG hM.1 rfl 34 (by decide) (tb_use hT tw_1425) (fun _ h9 => h9) (mfs_g34 _ _) dX14_addOp_11 ?_
  refine lv_iconst (v := 4) hx hb dX14_addOp_14 (by decide) ?_
  refine lv_iload hx hb dX14_addOp_15 (lv_at hl 0 rfl) ?_
  refine lv_imul hx hb dX14_addOp_17 ?_
  refine lv_iload_n hx hb dX14_addOp_18 rfl (lv_at hl 2 rfl) ?_
  refine lv_iadd hx hb dX14_addOp_19 ?_
  refine mm_iald (n := 8) (f := F 34) hx hb hK hG 1 (hM.2.1 34 rfl) rfl (by rw [show (((4 * (nI bo)) + (nI j9)) : Int32) = nI (4 * bo + j9) by show (((nI 4 * (nI bo)) + (nI j9)) : Int32) = _; simp only [nI_mu, nI_add]]; exact nI_in (N := 8) (by omega) (by decide)) dX14_addOp_20 ?_
  refine lv_topi (fun x1 ex1 => ?_)
  rw [show x1 = nI k9 by rw [ex1, show (((4 * (nI bo)) + (nI j9)) : Int32) = nI (4 * bo + j9) by show (((nI 4 * (nI bo)) + (nI j9)) : Int32) = _; simp only [nI_mu, nI_add], nI_clamp (by omega)]; exact hn]
  refine lv_iadd hx hb dX14_addOp_21 ?_
  rw [show (((100 * (nI j9)) + (nI k9)) : Int32) = nI (100 * j9 + k9) by show (((nI 100 * (nI j9)) + (nI k9)) : Int32) = _; simp only [nI_mu, nI_add]]
  refine lv_istore (lv' := [(6, .int (nI (100 * j9 + k9))), (5, .int (nI bo)), (0, .ref o), (1, .int (nI j9)), (2, .int xo), (3, .int xa), (4, .int xb)]) hx hb dX14_addOp_22 hl (by decide) rfl (fun ls hl => ?_)
  refine lv_aload_n hx hb dX14_addOp_24 rfl (lv_at hl 2 rfl) ?_
  refine mm_get (v := .ref (Ar 35)) hx hb hf_X14 (fun _ h9 => h9) hown hK hG hM.1 rfl 35 (by decide) (tb_use hT tw_1426) (fun _ h9 => h9) (mfs_g35 _ _) dX14_addOp_25 ?_
  refine lv_sipush (v := 400) hx hb dX14_addOp_28 (by decide) ?_
  refine lv_iload hx hb dX14_addOp_31 (lv_at hl 1 rfl) ?_
  refine lv_imul hx hb dX14_addOp_33 ?_
  refine lv_iload hx hb dX14_addOp_34 (lv_at hl 0 rfl) ?_
  refine lv_iadd hx hb dX14_addOp_36 ?_
  refine lv_iload_n hx hb dX14_addOp_37 rfl (lv_at hl 4 rfl) ?_
  refine mm_iast (n := mdN 35) (f := F 35) hx hb hK hG hS 1 (hM.2.1 35 rfl) rfl (by rw [show (((400 * (nI bo)) + (nI (100 * j9 + k9))) : Int32) = nI (400 * bo + (100 * j9 + k9)) by show (((nI 400 * (nI bo)) + (nI (100 * j9 + k9))) : Int32) = _; simp only [nI_mu, nI_add]]; exact nI_in (N := mdN 35) (by show _ < 800; omega) (by decide)) dX14_addOp_38 (fun H locs hG hS => ?_)
  have hM := MD.seti (k := 35) (upd (F 35) ((400 * (nI bo)) + (nI (100 * j9 + k9))).toNatClampNeg xo) hM rfl
  have hF := hF.wa (k := 35) (e' := .inl (cy 1, mdN 35, .inl (upd (F 35) ((400 * (nI bo)) + (nI (100 * j9 + k9))).toNatClampNeg xo))) rfl
  obtain ⟨F2, eF2⟩ : ∃ g, g = va_up F 35 (upd (F 35) ((400 * (nI bo)) + (nI (100 * j9 + k9))).toNatClampNeg xo) := ⟨_, rfl⟩
  rw [← eF2] at hM
  have hgn := gn_MD hG hM hF
  clear hG hM hF
  obtain ⟨G3, hG, hM, hF⟩ := hgn
  rw [show (((400 * (nI bo)) + (nI (100 * j9 + k9))) : Int32) = nI (400 * bo + (100 * j9 + k9)) by show (((nI 400 * (nI bo)) + (nI (100 * j9 + k9))) : Int32) = _; simp only [nI_mu, nI_add], nI_clamp (by omega)] at eF2
  have p4 : F2 34 (4 * bo + j9) = nI k9 := by rw [eF2, va_up_ne _ _ (by decide)]; exact hn
  have p5 : F2 35 (400 * bo + (100 * j9 + k9)) = xo := by rw [eF2, va_up_self, pk_us]
  have hFr : FrW (wO bo j9 k9) F F2 := by rw [eF2]; exact hFr.up (by unfold wO; omega)
  have hQ : LXq Ar Iv F2 ft sx fr en bo q := by rw [eF2]; exact hQ.wF (by decide)
  have hC : CLq Iv F2 ft en cl c9 := by rw [eF2]; exact hC.wF (by decide)
  refine lv_aload_n hx hb dX14_addOp_39 rfl (lv_at hl 2 rfl) ?_
  refine mm_get (v := .ref (Ar 36)) hx hb hf_X14 (fun _ h9 => h9) hown hK hG hM.1 rfl 36 (by decide) (tb_use hT tw_1427) (fun _ h9 => h9) (mfs_g36 _ _) dX14_addOp_40 ?_
  refine lv_sipush (v := 400) hx hb dX14_addOp_43 (by decide) ?_
  refine lv_iload hx hb dX14_addOp_46 (lv_at hl 1 rfl) ?_
  refine lv_imul hx hb dX14_addOp_48 ?_
  refine lv_iload hx hb dX14_addOp_49 (lv_at hl 0 rfl) ?_
  refine lv_iadd hx hb dX14_addOp_51 ?_
  refine lv_iload_n hx hb dX14_addOp_52 rfl (lv_at hl 5 rfl) ?_
  refine mm_iast (n := mdN 36) (f := F2 36) hx hb hK hG hS 1 (hM.2.1 36 rfl) rfl (by rw [show (((400 * (nI bo)) + (nI (100 * j9 + k9))) : Int32) = nI (400 * bo + (100 * j9 + k9)) by show (((nI 400 * (nI bo)) + (nI (100 * j9 + k9))) : Int32) = _; simp only [nI_mu, nI_add]]; exact nI_in (N := mdN 36) (by show _ < 800; omega) (by decide)) dX14_addOp_53 (fun H locs hG hS => ?_)
  have hM := MD.seti (k := 36) (upd (F2 36) ((400 * (nI bo)) + (nI (100 * j9 + k9))).toNatClampNeg xa) hM rfl
  have hF := hF.wa (k := 36) (e' := .inl (cy 1, mdN 36, .inl (upd (F2 36) ((400 * (nI bo)) + (nI (100 * j9 + k9))).toNatClampNeg xa))) rfl
  obtain ⟨F6, eF6⟩ : ∃ g, g = va_up F2 36 (upd (F2 36) ((400 * (nI bo)) + (nI (100 * j9 + k9))).toNatClampNeg xa) := ⟨_, rfl⟩
  rw [← eF6] at hM
  have hgn := gn_MD hG hM hF
  clear hG hM hF
  obtain ⟨G7, hG, hM, hF⟩ := hgn
  rw [show (((400 * (nI bo)) + (nI (100 * j9 + k9))) : Int32) = nI (400 * bo + (100 * j9 + k9)) by show (((nI 400 * (nI bo)) + (nI (100 * j9 + k9))) : Int32) = _; simp only [nI_mu, nI_add], nI_clamp (by omega)] at eF6
  have p8 : F6 34 (4 * bo + j9) = nI k9 := by rw [eF6, va_up_ne _ _ (by decide)]; exact p4
  have p9 : F6 35 (400 * bo + (100 * j9 + k9)) = xo := by rw [eF6, va_up_ne _ _ (by decide)]; exact p5
  have p10 : F6 36 (400 * bo + (100 * j9 + k9)) = xa := by rw [eF6, va_up_self, pk_us]
  have hFr : FrW (wO bo j9 k9) F F6 := by rw [eF6]; exact hFr.up (by unfold wO; omega)
  have hQ : LXq Ar Iv F6 ft sx fr en bo q := by rw [eF6]; exact hQ.wF (by decide)
  have hC : CLq Iv F6 ft en cl c9 := by rw [eF6]; exact hC.wF (by decide)
  refine lv_aload_n hx hb dX14_addOp_54 rfl (lv_at hl 2 rfl) ?_
  refine mm_get (v := .ref (Ar 37)) hx hb hf_X14 (fun _ h9 => h9) hown hK hG hM.1 rfl 37 (by decide) (tb_use hT tw_1428) (fun _ h9 => h9) (mfs_g37 _ _) dX14_addOp_55 ?_
  refine lv_sipush (v := 400) hx hb dX14_addOp_58 (by decide) ?_
  refine lv_iload hx hb dX14_addOp_61 (lv_at hl 1 rfl) ?_
  refine lv_imul hx hb dX14_addOp_63 ?_
  refine lv_iload hx hb dX14_addOp_64 (lv_at hl 0 rfl) ?_
  refine lv_iadd hx hb dX14_addOp_66 ?_
  refine lv_iload hx hb dX14_addOp_67 (lv_at hl 6 rfl) ?_
  refine mm_iast (n := mdN 37) (f := F6 37) hx hb hK hG hS 1 (hM.2.1 37 rfl) rfl (by rw [show (((400 * (nI bo)) + (nI (100 * j9 + k9))) : Int32) = nI (400 * bo + (100 * j9 + k9)) by show (((nI 400 * (nI bo)) + (nI (100 * j9 + k9))) : Int32) = _; simp only [nI_mu, nI_add]]; exact nI_in (N := mdN 37) (by show _ < 800; omega) (by decide)) dX14_addOp_69 (fun H locs hG hS => ?_)
  have hM := MD.seti (k := 37) (upd (F6 37) ((400 * (nI bo)) + (nI (100 * j9 + k9))).toNatClampNeg xb) hM rfl
  have hF := hF.wa (k := 37) (e' := .inl (cy 1, mdN 37, .inl (upd (F6 37) ((400 * (nI bo)) + (nI (100 * j9 + k9))).toNatClampNeg xb))) rfl
  obtain ⟨F11, eF11⟩ : ∃ g, g = va_up F6 37 (upd (F6 37) ((400 * (nI bo)) + (nI (100 * j9 + k9))).toNatClampNeg xb) := ⟨_, rfl⟩
  rw [← eF11] at hM
  have hgn := gn_MD hG hM hF
  clear hG hM hF
  obtain ⟨G12, hG, hM, hF⟩ := hgn
  rw [show (((400 * (nI bo)) + (nI (100 * j9 + k9))) : Int32) = nI (400 * bo + (100 * j9 + k9)) by show (((nI 400 * (nI bo)) + (nI (100 * j9 + k9))) : Int32) = _; simp only [nI_mu, nI_add], nI_clamp (by omega)] at eF11
  have p13 : F11 34 (4 * bo + j9) = nI k9 := by rw [eF11, va_up_ne _ _ (by decide)]; exact p8
  have p14 : F11 35 (400 * bo + (100 * j9 + k9)) = xo := by rw [eF11, va_up_ne _ _ (by decide)]; exact p9
  have p15 : F11 36 (400 * bo + (100 * j9 + k9)) = xa := by rw [eF11, va_up_ne _ _ (by decide)]; exact p10
  have p16 : F11 37 (400 * bo + (100 * j9 + k9)) = xb := by rw [eF11, va_up_self, pk_us]
  have hFr : FrW (wO bo j9 k9) F F11 := by rw [eF11]; exact hFr.up (by unfold wO; omega)
  have hQ : LXq Ar Iv F11 ft sx fr en bo q := by rw [eF11]; exact hQ.wF (by decide)
  have hC : CLq Iv F11 ft en cl c9 := by rw [eF11]; exact hC.wF (by decide)
  refine lv_aload_n hx hb dX14_addOp_70 rfl (lv_at hl 2 rfl) ?_
  refine mm_get (v := .ref (Ar 34)) hx hb hf_X14 (fun _ h9 => h9) hown hK hG hM.1 rfl 34 (by decide) (tb_use hT tw_1425) (fun _ h9 => h9) (mfs_g34 _ _) dX14_addOp_71 ?_
  refine lv_iconst (v := 4) hx hb dX14_addOp_74 (by decide) ?_
  refine lv_iload hx hb dX14_addOp_75 (lv_at hl 1 rfl) ?_
  refine lv_imul hx hb dX14_addOp_77 ?_
  refine lv_iload_n hx hb dX14_addOp_78 rfl (lv_at hl 3 rfl) ?_
  refine lv_iadd hx hb dX14_addOp_79 ?_
  refine lv_dup2_11 hx hb dX14_addOp_80 rfl rfl ?_
  refine mm_iald (n := 8) (f := F11 34) hx hb hK hG 1 (hM.2.1 34 rfl) rfl (by rw [show (((4 * (nI bo)) + (nI j9)) : Int32) = nI (4 * bo + j9) by show (((nI 4 * (nI bo)) + (nI j9)) : Int32) = _; simp only [nI_mu, nI_add]]; exact nI_in (N := 8) (by omega) (by decide)) dX14_addOp_81 ?_
  refine lv_topi (fun x17 ex17 => ?_)
  rw [show x17 = nI k9 by rw [ex17, show (((4 * (nI bo)) + (nI j9)) : Int32) = nI (4 * bo + j9) by show (((nI 4 * (nI bo)) + (nI j9)) : Int32) = _; simp only [nI_mu, nI_add], nI_clamp (by omega)]; exact p13]
  refine lv_iconst (v := 1) hx hb dX14_addOp_82 (by decide) ?_
  refine lv_iadd hx hb dX14_addOp_83 ?_
  rw [show nI k9 + 1 = nI (k9 + 1) from nI_1 _]
  refine lv_topi (fun x18 ex18 => ?_)
  refine mm_iast (n := mdN 34) (f := F11 34) hx hb hK hG hS 1 (hM.2.1 34 rfl) rfl (by rw [show (((4 * (nI bo)) + (nI j9)) : Int32) = nI (4 * bo + j9) by show (((nI 4 * (nI bo)) + (nI j9)) : Int32) = _; simp only [nI_mu, nI_add]]; exact nI_in (N := mdN 34) (by show _ < 8; omega) (by decide)) dX14_addOp_84 (fun H locs hG hS => ?_)
  have hM := MD.seti (k := 34) (upd (F11 34) ((4 * (nI bo)) + (nI j9)).toNatClampNeg x18) hM rfl
  have hF := hF.wa (k := 34) (e' := .inl (cy 1, mdN 34, .inl (upd (F11 34) ((4 * (nI bo)) + (nI j9)).toNatClampNeg x18))) rfl
  obtain ⟨F19, eF19⟩ : ∃ g, g = va_up F11 34 (upd (F11 34) ((4 * (nI bo)) + (nI j9)).toNatClampNeg x18) := ⟨_, rfl⟩
  rw [← eF19] at hM
  have hgn := gn_MD hG hM hF
  clear hG hM hF
  obtain ⟨G20, hG, hM, hF⟩ := hgn
  rw [show (((4 * (nI bo)) + (nI j9)) : Int32) = nI (4 * bo + j9) by show (((nI 4 * (nI bo)) + (nI j9)) : Int32) = _; simp only [nI_mu, nI_add], nI_clamp (by omega)] at eF19
  have p21 : F19 35 (400 * bo + (100 * j9 + k9)) = xo := by rw [eF19, va_up_ne _ _ (by decide)]; exact p14
  have p22 : F19 36 (400 * bo + (100 * j9 + k9)) = xa := by rw [eF19, va_up_ne _ _ (by decide)]; exact p15
  have p23 : F19 37 (400 * bo + (100 * j9 + k9)) = xb := by rw [eF19, va_up_ne _ _ (by decide)]; exact p16
  have p24 : F19 34 (4 * bo + j9) = nI (k9 + 1) := by rw [eF19, va_up_self, pk_us, ex18]
  have hFr : FrW (wO bo j9 k9) F F19 := by rw [eF19]; exact hFr.up (by unfold wO; omega)
  have hQ : LXq Ar Iv F19 ft sx fr en bo q := by rw [eF19]; exact hQ.wF (by decide)
  have hC : CLq Iv F19 ft en cl c9 := by rw [eF19]; exact hC.wF (by decide)
  exact W.vret hx hb hr (fun t ht hW => ⟨⟨_, rfl, ⟨_, hM, hF, hQ, hC, hFr, p24, p21, p22, p23⟩, mk_end hG ht⟩, hS.F ht⟩) hS.2.2 dX14_addOp_85

/-- an OP's claims; t: its first token, k: its kind -/
def clO (j kk t k : Nat) : List CLi := if k = 26 then [(13, t + 1, 100 * j + kk, 0), (14, t + 2, 100 * j + kk, 0)] else []

set_option maxHeartbeats 4000000 in
set_option maxRecDepth 100000 in
theorem c_M_opSt (l : Launch) (D : va_G) (cy : Nat → ClassId) (A : Nat → Prop) (X : State → Prop) (hst : mk_St A X) (hXT : ∀ U : State, X U → TB U) (G : Nat → Option va_E) (o : Nat) (Ar : Nat → Nat) (Iv : Nat → Int32) (F : Nat → Nat → Int32) (L : Nat → Nat → Int64) (ft : Nat → Int32) (sx fr en bo : Nat) (q : Nat × Int32) (cl : List CLi) (c9 : Nat) (j9 k9 ta on : Nat) (wf : Nat → Int32) (hM : MD cy G o Ar Iv F L) (hQ : LXq Ar Iv F ft sx fr en bo q) (hC : CLq Iv F ft en cl c9) (hc1 : c9 ≤ q.1 + 1) (hq : q.2 < 0) (hn34 : ¬ tkK ft en q.1 = 34) (hj9 : j9 < 4) (hk9 : k9 < 100) (hn : F 34 (4 * bo + j9) = nI k9) (h56 : Iv 56 = nI ta) (h57 : Iv 57 = nI on) (hta0 : ta ≤ 40) : Met l yX14_op [.code yX14_op cX14_op 5 none] ({ frames := 7, cells := 0, slots := 0, locals := 210 }) (mk_Pre D vwCl (tyL cy) A X G [.ref o, .int (nI j9)]) (va_Qv (fun (G2 : Nat → Option va_E) => ∃ (I2 : Nat → Int32) (F2 : Nat → Nat → Int32) (cl2 : List CLi), MD cy G2 o Ar I2 F2 L ∧ MF G G2 o Ar ∧ LXq Ar I2 F2 ft sx fr en bo (if isO (tkK ft en q.1) = true then (q_op (tkK ft en) (tkS ft en) (tkV ft en) ta on k9 q wf).1 else (q.1, tkS ft en q.1)) ∧ IZ I2 = IZ Iv ∧ FrW (wO bo j9 k9) F F2 ∧ CLq I2 F2 ft en cl2 ((if isO (tkK ft en q.1) = true then (q_op (tkK ft en) (tkS ft en) (tkV ft en) ta on k9 q wf).1 else (q.1, tkS ft en q.1)).1 + 1) ∧ q.1 ≤ (if isO (tkK ft en q.1) = true then (q_op (tkK ft en) (tkS ft en) (tkV ft en) ta on k9 q wf).1 else (q.1, tkS ft en q.1)).1 ∧ ((if isO (tkK ft en q.1) = true then (q_op (tkK ft en) (tkS ft en) (tkV ft en) ta on k9 q wf).1 else (q.1, tkS ft en q.1)).2 < 0 → (isO (tkK ft en q.1) = true ∧ ta < 40 ∧ I2 56 = nI (ta + 1) ∧ I2 57 = nI on ∧ F2 34 (4 * bo + j9) = nI (k9 + 1) ∧ OPf (tkK ft en) (tkV ft en) ((if isO (tkK ft en q.1) = true then (q_op (tkK ft en) (tkS ft en) (tkV ft en) ta on k9 q wf).1 else (q.1, tkS ft en q.1)).1 + 1) F2 (400 * bo + (100 * j9 + k9)) (q_op (tkK ft en) (tkS ft en) (tkV ft en) ta on k9 q wf).2.2.2 ∧ cl2 = cl ++ clO j9 k9 q.1 (tkK ft en q.1)))) (mk_B D vwCl A) A) 0 0 A := by
  refine Met.ofW (cc := cX14_op) (maxL := 5) (ret := none) (by decide) rfl ?_
  intro p e s m args below meth c s₁ B hml hv
  obtain ⟨rfl, hG, hK, hA, hX⟩ := hv
  have hx := B.exec
  have hb := B.bytes
  have hr := B.returns
  have hlocks := B.notSynchronized
  have hT := hXT s hX
  have hown : s.vm.findClass RX14 = some m.cls := findClass_of_methodNamed B.named
  have hf_X14 : ∀ w ∈ u_ws RX14 TX14 76, w.before ([.ref o, .int (nI j9)] : List Value).toArray s = true := tb_list hT fX14
  have hS : va_S A s.heap s.heap [] := va_S.rf
  have hl := lv_entry ([.ref o, .int (nI j9)]) (n := 5) (Nat.le_of_ble_eq_true rfl)
  rw [lg_entry_eq]
  generalize (lg_sl ([.ref o, .int (nI j9)]) ++ List.replicate (5 - (lg_sl ([.ref o, .int (nI j9)])).length) Slot.unset).toArray = ls at hl ⊢
  have hl : lv_has ls 5 [(0, .ref o), (1, .int (nI j9))] := hl
  have hF : MF G G o Ar := MF.rf
  have hIZ : IZ Iv = IZ Iv := rfl
  have hSn : ∀ p, ¬ tkS ft en p < 0 := fun p => tkS_ge hQ.1.2.2.2.1 p
  have hbo := hQ.1.2.2.2.2.2.1
  have hbl := hQ.1.2.2.2.2.1
  have hFr : FrW (wO bo j9 k9) F F := FrW.rf
  have hQ0 := hQ
  refine lv_aload_n hx hb dX14_op_0 rfl (lv_at hl 0 rfl) ?_
  refine mm_get (v := .int (Iv 52)) hx hb hf_X14 (fun _ h9 => h9) hown hK hG hM.1 rfl 52 (by decide) (tb_use hT tw_1443) (fun _ h9 => h9) (mfs_g52 _ _) dX14_op_1 ?_
  refine lv_iconst (v := 1) hx hb dX14_op_4 (by decide) ?_
  refine lv_icmp_ne (tgt := 15) hx hb dX14_op_5 (by decide) (fun c_5 => ?_) (fun c_5 => ?_)
  · skip
    refine lv_iconst (v := 0) hx hb dX14_op_15 (by decide) ?_
    refine lv_istore_n (lv' := [(2, .int 0), (0, .ref o), (1, .int (nI j9))]) hx hb dX14_op_16 rfl hl (by decide) rfl (fun ls hl => ?_)
    refine lv_iload_n hx hb dX14_op_17 rfl (lv_at hl 0 rfl) ?_
    refine lv_bipush (v := 15) hx hb dX14_op_18 (by decide) ?_
    refine lv_icmp_lt (tgt := 38) hx hb dX14_op_20 (by decide) (fun c_20 => ?_) (fun c_20 => ?_)
    · skip
      refine lv_aload_n hx hb dX14_op_38 rfl (lv_at hl 1 rfl) ?_
      refine lv_iconst (v := 0) hx hb dX14_op_39 (by decide) ?_
      refine mm_put (v := .int 0) (ty := .boolean) hx hb hf_X14 (fun _ h9 => h9) tyX14 tyX14_ok nmX14 hown hK hG hS hM.1 rfl 55 (by decide) (tb_use hT tw_1446) (fun _ h9 => h9) rfl (by decide +kernel) rfl rfl (mfs_l55 _ _) dX14_op_40 (fun H locs hG hS => ?_)
      have hM := MD.puti (k := 55) (v := 0) hM (mfs_s55 _ _ _)
      have hF := hF.wo (e' := .inr (15, (mfs Ar Iv).set 55 (.int 0)))
      obtain ⟨I1, eI1⟩ : ∃ g, g = upd Iv 55 0 := ⟨_, rfl⟩
      rw [← eI1] at hM
      have hgn := gn_MD hG hM hF
      clear hG hM hF
      obtain ⟨G2, hG, hM, hF⟩ := hgn
      have p3 : I1 56 = nI ta := (by rw [eI1]; try exact pk_un (by decide) : I1 56 = Iv 56).trans h56
      have p4 : I1 57 = nI on := (by rw [eI1]; try exact pk_un (by decide) : I1 57 = Iv 57).trans h57
      have hIZ : IZ I1 = IZ Iv := by rw [eI1]; exact IZ_up (by decide)
      have hC : CLq I1 F ft en cl c9 := by rw [eI1]; exact hC.wI (by decide)
      have hQ : LXq Ar I1 F ft sx fr en bo (q.1, tkS ft en q.1) := by rw [eI1]; exact hQ.set55 (by rw [if_neg (hSn _)])
      have hqe : (if isO (tkK ft en q.1) = true then (q_op (tkK ft en) (tkS ft en) (tkV ft en) ta on k9 q wf).1 else (q.1, tkS ft en q.1)) = (q.1, tkS ft en q.1) := if_neg (by unfold isO; rw [decide_eq_false (by have z := hQ0.kd.nw c_5; omega)]; exact Bool.false_ne_true)
      exact W.vret hx hb hr (fun t ht hW => ⟨⟨_, rfl, ⟨_, _, _, hM, hF, (by rw [hqe]; exact hQ), hIZ, hFr, (by rw [hqe]; exact hC.le hc1), (by rw [hqe]; exact Nat.le_refl _), (by rw [hqe]; exact fun z => absurd z (hSn _))⟩, mk_end hG ht⟩, hS.F ht⟩) hS.2.2 dX14_op_43
    · skip
      exact absurd (by decide) c_20
  · skip
    refine lv_aload_n hx hb dX14_op_8 rfl (lv_at hl 0 rfl) ?_
    refine mm_get (v := .int (Iv 53)) hx hb hf_X14 (fun _ h9 => h9) hown hK hG hM.1 rfl 53 (by decide) (tb_use hT tw_1444) (fun _ h9 => h9) (mfs_g53 _ _) dX14_op_9 ?_
    have hkd := hQ.kd
    rw [c_5] at hkd
    obtain ⟨kw1, kw2, kw3⟩ := hkd.w
    obtain ⟨w9, hw9⟩ : ∃ w9, tkK ft en q.1 = w9 + 10 := ⟨tkK ft en q.1 - 10, by omega⟩
    rw [hw9, Nat.add_sub_cancel] at kw3
    rw [kw3]
    refine lv_goto (tgt := 16) hx hb dX14_op_12 (by decide) ?_
    refine lv_istore_n (lv' := [(2, .int (nI w9)), (0, .ref o), (1, .int (nI j9))]) hx hb dX14_op_16 rfl hl (by decide) rfl (fun ls hl => ?_)
    refine lv_iload_n hx hb dX14_op_17 rfl (lv_at hl 0 rfl) ?_
    refine lv_bipush (v := 15) hx hb dX14_op_18 (by decide) ?_
    refine lv_icmp_lt (tgt := 38) hx hb dX14_op_20 (by decide) (fun c_20 => ?_) (fun c_20 => ?_)
    · skip
      refine lv_aload_n hx hb dX14_op_38 rfl (lv_at hl 1 rfl) ?_
      refine lv_iconst (v := 0) hx hb dX14_op_39 (by decide) ?_
      refine mm_put (v := .int 0) (ty := .boolean) hx hb hf_X14 (fun _ h9 => h9) tyX14 tyX14_ok nmX14 hown hK hG hS hM.1 rfl 55 (by decide) (tb_use hT tw_1446) (fun _ h9 => h9) rfl (by decide +kernel) rfl rfl (mfs_l55 _ _) dX14_op_40 (fun H locs hG hS => ?_)
      have hM := MD.puti (k := 55) (v := 0) hM (mfs_s55 _ _ _)
      have hF := hF.wo (e' := .inr (15, (mfs Ar Iv).set 55 (.int 0)))
      obtain ⟨I5, eI5⟩ : ∃ g, g = upd Iv 55 0 := ⟨_, rfl⟩
      rw [← eI5] at hM
      have hgn := gn_MD hG hM hF
      clear hG hM hF
      obtain ⟨G6, hG, hM, hF⟩ := hgn
      have p7 : I5 56 = nI ta := (by rw [eI5]; try exact pk_un (by decide) : I5 56 = Iv 56).trans h56
      have p8 : I5 57 = nI on := (by rw [eI5]; try exact pk_un (by decide) : I5 57 = Iv 57).trans h57
      have hIZ : IZ I5 = IZ Iv := by rw [eI5]; exact IZ_up (by decide)
      have hC : CLq I5 F ft en cl c9 := by rw [eI5]; exact hC.wI (by decide)
      have hQ : LXq Ar I5 F ft sx fr en bo (q.1, tkS ft en q.1) := by rw [eI5]; exact hQ.set55 (by rw [if_neg (hSn _)])
      have hqe : (if isO (tkK ft en q.1) = true then (q_op (tkK ft en) (tkS ft en) (tkV ft en) ta on k9 q wf).1 else (q.1, tkS ft en q.1)) = (q.1, tkS ft en q.1) := if_neg (by unfold isO; rw [decide_eq_false (by have z := nI_lt_of (a := w9) (b := 15) (by omega) (by decide) (Int32.not_le.mpr c_20); omega)]; exact Bool.false_ne_true)
      exact W.vret hx hb hr (fun t ht hW => ⟨⟨_, rfl, ⟨_, _, _, hM, hF, (by rw [hqe]; exact hQ), hIZ, hFr, (by rw [hqe]; exact hC.le hc1), (by rw [hqe]; exact Nat.le_refl _), (by rw [hqe]; exact fun z => absurd z (hSn _))⟩, mk_end hG ht⟩, hS.F ht⟩) hS.2.2 dX14_op_43
    · skip
      refine lv_iload_n hx hb dX14_op_23 rfl (lv_at hl 0 rfl) ?_
      refine lv_bipush (v := 23) hx hb dX14_op_24 (by decide) ?_
      refine lv_icmp_gt (tgt := 38) hx hb dX14_op_26 (by decide) (fun c_26 => ?_) (fun c_26 => ?_)
      · skip
        exact absurd (nI_lt_of (a := 23) (b := w9) (by decide) (by omega) (Int32.not_le.mpr c_26)) (by omega)
      · skip
        refine lv_aload_n hx hb dX14_op_29 rfl (lv_at hl 1 rfl) ?_
        refine mm_get (v := .int (Iv 56)) hx hb hf_X14 (fun _ h9 => h9) hown hK hG hM.1 rfl 56 (by decide) (tb_use hT tw_1447) (fun _ h9 => h9) (mfs_g56 _ _) dX14_op_30 ?_
        rw [h56]
        refine lv_bipush (v := 40) hx hb dX14_op_33 (by decide) ?_
        refine lv_icmp_ne (tgt := 44) hx hb dX14_op_35 (by decide) (fun c_35 => ?_) (fun c_35 => ?_)
        · skip
          have hw15 : 15 ≤ w9 ∧ w9 ≤ 23 := ⟨nI_ge_of (a := w9) (b := 15) (by omega) (by decide) (Int32.not_lt.mp c_20), nI_ge_of (a := 23) (b := w9) (by decide) (by omega) (Int32.not_lt.mp c_26)⟩
          have hta : ta < 40 := by have z : ta ≠ 40 := fun z => c_35 (by rw [z]; rfl); omega
          have hnq : q.2 < 0 ∧ tkK ft en q.1 = w9 + 10 := ⟨hq, hw9⟩
          have hio : isO (tkK ft en q.1) = true := by unfold isO; rw [decide_eq_true (by omega)]
          refine lv_aload_n hx hb dX14_op_44 rfl (lv_at hl 1 rfl) ?_
          refine lv_dup hx hb dX14_op_45 rfl ?_
          refine mm_get (v := .int (Iv 56)) hx hb hf_X14 (fun _ h9 => h9) hown hK hG hM.1 rfl 56 (by decide) (tb_use hT tw_1447) (fun _ h9 => h9) (mfs_g56 _ _) dX14_op_46 ?_
          rw [h56]
          refine lv_iconst (v := 1) hx hb dX14_op_49 (by decide) ?_
          refine lv_iadd hx hb dX14_op_50 ?_
          rw [show nI ta + 1 = nI (ta + 1) from nI_1 _]
          refine lv_topi (fun x9 ex9 => ?_)
          refine mm_put (v := .int x9) (ty := .int) hx hb hf_X14 (fun _ h9 => h9) tyX14 tyX14_ok nmX14 hown hK hG hS hM.1 rfl 56 (by decide) (tb_use hT tw_1447) (fun _ h9 => h9) rfl (by decide +kernel) rfl rfl (mfs_l56 _ _) dX14_op_51 (fun H locs hG hS => ?_)
          have hM := MD.puti (k := 56) (v := x9) hM (mfs_s56 _ _ _)
          have hF := hF.wo (e' := .inr (15, (mfs Ar Iv).set 56 (.int x9)))
          obtain ⟨I10, eI10⟩ : ∃ g, g = upd Iv 56 x9 := ⟨_, rfl⟩
          rw [← eI10] at hM
          have hgn := gn_MD hG hM hF
          clear hG hM hF
          obtain ⟨G11, hG, hM, hF⟩ := hgn
          have p12 : I10 57 = nI on := by rw [eI10]; exact (pk_un (by decide)).trans h57
          have p13 : I10 56 = nI (ta + 1) := by rw [eI10, pk_us, ex9]
          have hIZ : IZ I10 = IZ Iv := by rw [eI10]; exact IZ_up (by decide)
          have hQ : LXq Ar I10 F ft sx fr en bo q := by rw [eI10]; exact hQ.wI (by decide)
          have hC : CLq I10 F ft en cl c9 := by rw [eI10]; exact hC.wI (by decide)
          refine lv_aload_n hx hb dX14_op_54 rfl (lv_at hl 1 rfl) ?_
          refine va_callv (va_runV (As := []) (rest := []) ⟨hx, hb, hml, hown, (fun _ h9 => absurd h9 List.not_mem_nil : ∀ w ∈ ([] : List Cond), w.before _ s = true)⟩ (c_M_nextq l D cy A X hst hXT G11 o Ar I10 F L ft sx fr en bo q hM hQ hnq.1 (by have z := hnq.2; omega) (by have z := hnq.2; omega)) (tb_cw (C := RX14) 0 hT tw_1640 tw_109 tw_1637 tw_1639 tw_62 rfl rfl hq_X14_next ⟨Nat.le_of_ble_eq_true rfl, Nat.le_of_ble_eq_true rfl⟩) (mk_preC hst hG hK hA hX hS vc_15 hM.1) rfl rfl hl.1 rfl (lv_room (Nat.le_of_ble_eq_true rfl)) dX14_op_55 ⟨Nat.le_of_ble_eq_true rfl, Nat.le_of_ble_eq_true rfl⟩) hS (fun q _ h => h) (fun q h => h) (fun  G14 t H locs ht hvm hw hB hz1 hk1 hS => ?_)
          have hG : mm D vwCl A G14 H := by rw [← ht]; exact hB
          clear hB hz1 hk1 hvm ht
          obtain ⟨a15, ea15⟩ : ∃ y, y = (q.1 + 1, q.2) := ⟨_, rfl⟩
          rw [← ea15] at hw
          obtain ⟨I16, F17, hM2, hF2, hQ2, hI2, hX2⟩ := hw
          replace hF := hF.tr hF2; replace hM := hM2; clear hM2 hF2
          have hQ := hQ2; have hIZ := (IZ_x hI2).trans hIZ; have hFr := hFr.fx hX2; have hC := hC.fx hI2 hX2
          have p18 : F17 34 (4 * bo + j9) = nI k9 := (congrFun (FXe hX2 (by decide)) _).trans hn
          have p19 : I16 57 = nI on := (IXe hI2 (by decide)).trans p12
          have p20 : I16 56 = nI (ta + 1) := (IXe hI2 (by decide)).trans p13
          clear hI2 hX2 hQ2
          have ga15 : q.1 ≤ a15.1 := by rw [ea15]; exact ge_next
          have da15 : a15.2 < 0 → _ := fun z => ad_next hSn (by rw [← ea15]; exact z)
          rw [← ea15] at da15
          have hc1 : c9 ≤ a15.1 + 1 := by omega
          have hc2 : a15.2 < 0 → c9 ≤ a15.1 := fun z => by have := da15 z; omega
          refine lv_iload_n hx hb dX14_op_58 rfl (lv_at hl 0 rfl) ?_
          refine lv_bipush (v := 15) hx hb dX14_op_59 (by decide) ?_
          refine lv_icmp_ne (tgt := 78) hx hb dX14_op_61 (by decide) (fun c_61 => ?_) (fun c_61 => ?_)
          · skip
            refine lv_iload_n hx hb dX14_op_78 rfl (lv_at hl 0 rfl) ?_
            refine lv_bipush (v := 16) hx hb dX14_op_79 (by decide) ?_
            refine lv_icmp_ne (tgt := 140) hx hb dX14_op_81 (by decide) (fun c_81 => ?_) (fun c_81 => ?_)
            · skip
              refine lv_aload_n hx hb dX14_op_140 rfl (lv_at hl 1 rfl) ?_
              refine lv_iload_n hx hb dX14_op_141 rfl (lv_at hl 2 rfl) ?_
              refine lv_iload_n hx hb dX14_op_142 rfl (lv_at hl 0 rfl) ?_
              refine lv_iconst (v := 0) hx hb dX14_op_143 (by decide) ?_
              refine lv_iconst (v := 0) hx hb dX14_op_144 (by decide) ?_
              refine va_callv (va_runV (As := [.int (nI j9), .int (nI w9), .int 0, .int 0]) (rest := []) ⟨hx, hb, hml, hown, (fun _ h9 => absurd h9 List.not_mem_nil : ∀ w ∈ ([] : List Cond), w.before _ s = true)⟩ (c_M_addOp l D cy A X hst hXT G14 o Ar I16 F17 L ft sx fr en bo a15 cl c9 j9 k9 (nI w9) 0 0 hM hQ hC hj9 hk9 p18) (tb_cw (C := RX14) 4 hT tw_1766 tw_109 tw_1763 tw_1765 tw_85 rfl rfl hq_X14_addOp ⟨Nat.le_of_ble_eq_true rfl, Nat.le_of_ble_eq_true rfl⟩) (mk_preC hst hG hK hA hX hS vc_15 hM.1) rfl rfl hl.1 rfl (lv_room (Nat.le_of_ble_eq_true rfl)) dX14_op_145 ⟨Nat.le_of_ble_eq_true rfl, Nat.le_of_ble_eq_true rfl⟩) hS (fun q _ h => h) (fun q h => h) (fun  G21 t H locs ht hvm hw hB hz1 hk1 hS => ?_)
              have hG : mm D vwCl A G21 H := by rw [← ht]; exact hB
              clear hB hz1 hk1 hvm ht
              obtain ⟨F22, hM2, hF2, hQ2, hC2, hFr2, g34, g35, g36, g37⟩ := hw
              replace hF := hF.tr hF2; replace hM := hM2; clear hM2 hF2
              have hQ := hQ2; have hC := hC2; clear hQ2 hC2
              have hFr : FrW (wO bo j9 k9) F F22 := hFr.tr hFr2
              refine lv_aload_n hx hb dX14_op_148 rfl (lv_at hl 1 rfl) ?_
              refine lv_bipush (v := 59) hx hb dX14_op_149 (by decide) ?_
              refine va_callv (va_runV (As := [.int 59]) (rest := []) ⟨hx, hb, hml, hown, (fun _ h9 => absurd h9 List.not_mem_nil : ∀ w ∈ ([] : List Cond), w.before _ s = true)⟩ (c_M_mark l D cy A X hst hXT G21 o Ar I16 F22 L ft sx fr en bo a15 6 hM hQ (by decide) (by decide)) (tb_cw (C := RX14) 1 hT tw_1717 tw_109 tw_1714 tw_1716 tw_73 rfl rfl hq_X14_mark ⟨Nat.le_of_ble_eq_true rfl, Nat.le_of_ble_eq_true rfl⟩) (mk_preC hst hG hK hA hX hS vc_15 hM.1) rfl rfl hl.1 rfl (lv_room (Nat.le_of_ble_eq_true rfl)) dX14_op_151 ⟨Nat.le_of_ble_eq_true rfl, Nat.le_of_ble_eq_true rfl⟩) hS (fun q _ h => h) (fun q h => h) (fun  G23 t H locs ht hvm hw hB hz1 hk1 hS => ?_)
              have hG : mm D vwCl A G23 H := by rw [← ht]; exact hB
              clear hB hz1 hk1 hvm ht
              obtain ⟨a24, ea24⟩ : ∃ y, y = q_take (tkK ft en) (tkS ft en) 6 a15 := ⟨_, rfl⟩
              rw [← ea24] at hw
              obtain ⟨I25, F26, hM2, hF2, hQ2, hI2, hX2⟩ := hw
              replace hF := hF.tr hF2; replace hM := hM2; clear hM2 hF2
              have hQ := hQ2; have hIZ := (IZ_x hI2).trans hIZ; have hFr := hFr.fx hX2; have hC := hC.fx hI2 hX2
              have p27 : F26 34 (4 * bo + j9) = nI (k9 + 1) := (congrFun (FXe hX2 (by decide)) _).trans g34
              have p28 : F26 35 (400 * bo + (100 * j9 + k9)) = nI w9 := (congrFun (FXe hX2 (by decide)) _).trans g35
              have p29 : F26 36 (400 * bo + (100 * j9 + k9)) = 0 := (congrFun (FXe hX2 (by decide)) _).trans g36
              have p30 : F26 37 (400 * bo + (100 * j9 + k9)) = 0 := (congrFun (FXe hX2 (by decide)) _).trans g37
              have p31 : I25 57 = nI on := (IXe hI2 (by decide)).trans p19
              have p32 : I25 56 = nI (ta + 1) := (IXe hI2 (by decide)).trans p20
              clear hI2 hX2 hQ2
              have ga24 : a15.1 ≤ a24.1 := by rw [ea24]; exact ge_take
              have da24 : a24.2 < 0 → _ := fun z => ad_take hSn (by rw [← ea24]; exact z)
              rw [← ea24] at da24
              have hc1 : c9 ≤ a24.1 + 1 := by omega
              have hc2 : a24.2 < 0 → c9 ≤ a24.1 := fun z => by have := da24 z; omega
              have hq1 : q_begin (tkS ft en) (nI ta) 40 q = a15 := by rw [ea15]; unfold q_begin; rw [if_pos (show nI ta < 40 from nI_lt (b := 40) hta (by decide)), if_pos hq]
              have hK9 : tkK ft en q.1 - 10 = w9 := by omega
              have hk2 : ¬ tkK ft en q.1 = 25 ∧ ¬ tkK ft en q.1 = 26 := ⟨fun z => c_61 (by rw [show w9 = 15 by omega]; rfl), fun z => c_81 (by rw [show w9 = 16 by omega]; rfl)⟩
              have hqo : (q_op (tkK ft en) (tkS ft en) (tkV ft en) ta on k9 q wf) = (a24, on, wf, (tkK ft en q.1, 0, 0, 0, 0, 0, 0)) := by simp only [q_op, if_neg hn34, hq1, if_neg hk2.1, if_neg hk2.2, ← ea24]
              have hqe : (if isO (tkK ft en q.1) = true then (q_op (tkK ft en) (tkS ft en) (tkV ft en) ta on k9 q wf).1 else (q.1, tkS ft en q.1)) = a24 := by rw [if_pos hio, hqo]
              exact W.vret hx hb hr (fun t ht hW => ⟨⟨_, rfl, ⟨_, _, _, hM, hF, (by rw [hqe]; exact hQ), hIZ, hFr, (by rw [hqe]; exact hC.le (by omega)), (by rw [hqe]; omega), (by rw [hqe]; intro z; have ya24 := da24 z; have ya15 := da15 ya24.1; exact ⟨hio, hta, p32, p31, p27, (by rw [hqo]; exact ⟨(by dsimp only; rw [if_neg (by omega), hK9]; exact p28), (fun z => by dsimp only at z; omega), (fun z => by dsimp only at z; omega), (fun z => by dsimp only at z; omega)⟩), (by unfold clO; rw [if_neg hk2.2, List.append_nil])⟩)⟩, mk_end hG ht⟩, hS.F ht⟩) hS.2.2 dX14_op_154
            · skip
              refine lv_bipush (v := 100) hx hb dX14_op_84 (by decide) ?_
              refine lv_iload_n hx hb dX14_op_86 rfl (lv_at hl 2 rfl) ?_
              refine lv_imul hx hb dX14_op_87 ?_
              refine lv_aload_n hx hb dX14_op_88 rfl (lv_at hl 1 rfl) ?_
              refine mm_get (v := .ref (Ar 34)) hx hb hf_X14 (fun _ h9 => h9) hown hK hG hM.1 rfl 34 (by decide) (tb_use hT tw_1425) (fun _ h9 => h9) (mfs_g34 _ _) dX14_op_89 ?_
              refine lv_iconst (v := 4) hx hb dX14_op_92 (by decide) ?_
              refine lv_aload_n hx hb dX14_op_93 rfl (lv_at hl 1 rfl) ?_
              refine mm_get (v := .int (I16 41)) hx hb hf_X14 (fun _ h9 => h9) hown hK hG hM.1 rfl 41 (by decide) (tb_use hT tw_1432) (fun _ h9 => h9) (mfs_g41 _ _) dX14_op_94 ?_
              rw [show (I16 41) = nI bo from (IZe hIZ (by decide)).trans hbo]
              refine lv_imul hx hb dX14_op_97 ?_
              refine lv_iload_n hx hb dX14_op_98 rfl (lv_at hl 2 rfl) ?_
              refine lv_iadd hx hb dX14_op_99 ?_
              refine mm_iald (n := 8) (f := F17 34) hx hb hK hG 1 (hM.2.1 34 rfl) rfl (by rw [show (((4 * (nI bo)) + (nI j9)) : Int32) = nI (4 * bo + j9) by show (((nI 4 * (nI bo)) + (nI j9)) : Int32) = _; simp only [nI_mu, nI_add]]; exact nI_in (N := 8) (by omega) (by decide)) dX14_op_100 ?_
              refine lv_topi (fun x33 ex33 => ?_)
              rw [show x33 = nI k9 by rw [ex33, show (((4 * (nI bo)) + (nI j9)) : Int32) = nI (4 * bo + j9) by show (((nI 4 * (nI bo)) + (nI j9)) : Int32) = _; simp only [nI_mu, nI_add], nI_clamp (by omega)]; exact p18]
              refine lv_iadd hx hb dX14_op_101 ?_
              rw [show (((100 * (nI j9)) + (nI k9)) : Int32) = nI (100 * j9 + k9) by show (((nI 100 * (nI j9)) + (nI k9)) : Int32) = _; simp only [nI_mu, nI_add]]
              refine lv_istore_n (lv' := [(3, .int (nI (100 * j9 + k9))), (2, .int (nI w9)), (0, .ref o), (1, .int (nI j9))]) hx hb dX14_op_102 rfl hl (by decide) rfl (fun ls hl => ?_)
              refine lv_aload_n hx hb dX14_op_103 rfl (lv_at hl 2 rfl) ?_
              refine lv_bipush (v := 13) hx hb dX14_op_104 (by decide) ?_
              refine lv_iload_n hx hb dX14_op_106 rfl (lv_at hl 0 rfl) ?_
              refine lv_iconst (v := 0) hx hb dX14_op_107 (by decide) ?_
              refine va_callv (va_runV (As := [.int 13, .int (nI (100 * j9 + k9)), .int 0]) (rest := []) ⟨hx, hb, hml, hown, (fun _ h9 => absurd h9 List.not_mem_nil : ∀ w ∈ ([] : List Cond), w.before _ s = true)⟩ (c_M_claimr l D cy A X hst hXT G14 o Ar I16 F17 L ft sx fr en bo a15 cl c9 13 (100 * j9 + k9) 0 hM hQ hC hc1 hc2) (tb_cw (C := RX14) 3 hT tw_1709 tw_109 tw_1706 tw_1708 tw_71 rfl rfl hq_X14_claim ⟨Nat.le_of_ble_eq_true rfl, Nat.le_of_ble_eq_true rfl⟩) (mk_preC hst hG hK hA hX hS vc_15 hM.1) rfl rfl hl.1 rfl (lv_room (Nat.le_of_ble_eq_true rfl)) dX14_op_108 ⟨Nat.le_of_ble_eq_true rfl, Nat.le_of_ble_eq_true rfl⟩) hS (fun q _ h => h) (fun q h => h) (fun  G34 t H locs ht hvm hw hB hz1 hk1 hS => ?_)
              have hG : mm D vwCl A G34 H := by rw [← ht]; exact hB
              clear hB hz1 hk1 hvm ht
              obtain ⟨I35, F36, hM2, hF2, hQ2, hC2, hI2, hX2⟩ := hw
              replace hF := hF.tr hF2; replace hM := hM2; clear hM2 hF2
              have hQ := hQ2; have hC := hC2; have hIZ := (IZ_58 hI2).trans hIZ
              have hFr : FrW (wO bo j9 k9) F F36 := fun j i h1 h2 => (congrFun (hX2 j (fun z => h1 (by unfold lxA; omega))) i).trans (hFr j i h1 h2)
              have p37 : F36 34 (4 * bo + j9) = nI k9 := (congrFun (hX2 34 (by decide)) _).trans p18
              have p38 : I35 57 = nI on := (hI2 57 (by decide)).trans p19
              have p39 : I35 56 = nI (ta + 1) := (hI2 56 (by decide)).trans p20
              clear hI2 hX2 hQ2 hC2
              have hc1 : a15.1 + 1 ≤ a15.1 + 1 := Nat.le_refl _
              refine lv_aload_n hx hb dX14_op_111 rfl (lv_at hl 2 rfl) ?_
              refine va_calli (va_runV (As := []) (rest := []) ⟨hx, hb, hml, hown, (fun _ h9 => absurd h9 List.not_mem_nil : ∀ w ∈ ([] : List Cond), w.before _ s = true)⟩ (c_M_name l D cy A X hst hXT G34 o Ar I35 F36 L ft sx fr en bo a15 hM hQ) (tb_cw (C := RX14) 0 hT tw_1713 tw_109 tw_1710 tw_1712 tw_72 rfl rfl hq_X14_name ⟨Nat.le_of_ble_eq_true rfl, Nat.le_of_ble_eq_true rfl⟩) (mk_preC hst hG hK hA hX hS vc_15 hM.1) rfl rfl hl.1 rfl (lv_room (Nat.le_of_ble_eq_true rfl)) dX14_op_112 ⟨Nat.le_of_ble_eq_true rfl, Nat.le_of_ble_eq_true rfl⟩) hS (fun q _ h => h) (fun q h => h) (fun r40 G41 t H locs ht hvm hw hB hz1 hk1 hS => ?_)
              have hG : mm D vwCl A G41 H := by rw [← ht]; exact hB
              clear hB hz1 hk1 hvm ht
              obtain ⟨a42, ea42⟩ : ∃ y, y = q_name (tkK ft en) (tkS ft en) (tkV ft en) a15 := ⟨_, rfl⟩
              rw [← ea42] at hw
              obtain ⟨hr40, I43, F44, hM2, hF2, hQ2, hI2, hX2⟩ := hw
              replace hF := hF.tr hF2; replace hM := hM2; clear hM2 hF2
              have hQ := hQ2; have hIZ := (IZ_x hI2).trans hIZ; have hFr := hFr.fx hX2; have hC := hC.fx hI2 hX2
              have p45 : F44 34 (4 * bo + j9) = nI k9 := (congrFun (FXe hX2 (by decide)) _).trans p37
              have p46 : I43 57 = nI on := (IXe hI2 (by decide)).trans p38
              have p47 : I43 56 = nI (ta + 1) := (IXe hI2 (by decide)).trans p39
              clear hI2 hX2 hQ2
              have ga42 : a15.1 ≤ a42.2.1 := by rw [ea42]; exact ge_name
              have da42 : a42.2.2 < 0 → _ := fun z => ad_name hSn (by rw [← ea42]; exact z)
              rw [← ea42] at da42
              have hc1 : a15.1 + 1 ≤ a42.2.1 + 1 := by omega
              have hc2 : a42.2.2 < 0 → a15.1 + 1 ≤ a42.2.1 := fun z => by have := da42 z; omega
              refine lv_istore (lv' := [(4, .int r40), (3, .int (nI (100 * j9 + k9))), (2, .int (nI w9)), (0, .ref o), (1, .int (nI j9))]) hx hb dX14_op_115 hl (by decide) rfl (fun ls hl => ?_)
              refine lv_aload_n hx hb dX14_op_117 rfl (lv_at hl 3 rfl) ?_
              refine lv_bipush (v := 14) hx hb dX14_op_118 (by decide) ?_
              refine lv_iload_n hx hb dX14_op_120 rfl (lv_at hl 1 rfl) ?_
              refine lv_iconst (v := 0) hx hb dX14_op_121 (by decide) ?_
              refine va_callv (va_runV (As := [.int 14, .int (nI (100 * j9 + k9)), .int 0]) (rest := []) ⟨hx, hb, hml, hown, (fun _ h9 => absurd h9 List.not_mem_nil : ∀ w ∈ ([] : List Cond), w.before _ s = true)⟩ (c_M_claimr l D cy A X hst hXT G41 o Ar I43 F44 L ft sx fr en bo a42.2 (clA a15 cl (13, a15.1, 100 * j9 + k9, 0)) (a15.1 + 1) 14 (100 * j9 + k9) 0 hM hQ hC hc1 hc2) (tb_cw (C := RX14) 3 hT tw_1709 tw_109 tw_1706 tw_1708 tw_71 rfl rfl hq_X14_claim ⟨Nat.le_of_ble_eq_true rfl, Nat.le_of_ble_eq_true rfl⟩) (mk_preC hst hG hK hA hX hS vc_15 hM.1) rfl rfl hl.1 rfl (lv_room (Nat.le_of_ble_eq_true rfl)) dX14_op_122 ⟨Nat.le_of_ble_eq_true rfl, Nat.le_of_ble_eq_true rfl⟩) hS (fun q _ h => h) (fun q h => h) (fun  G48 t H locs ht hvm hw hB hz1 hk1 hS => ?_)
              have hG : mm D vwCl A G48 H := by rw [← ht]; exact hB
              clear hB hz1 hk1 hvm ht
              obtain ⟨I49, F50, hM2, hF2, hQ2, hC2, hI2, hX2⟩ := hw
              replace hF := hF.tr hF2; replace hM := hM2; clear hM2 hF2
              have hQ := hQ2; have hC := hC2; have hIZ := (IZ_58 hI2).trans hIZ
              have hFr : FrW (wO bo j9 k9) F F50 := fun j i h1 h2 => (congrFun (hX2 j (fun z => h1 (by unfold lxA; omega))) i).trans (hFr j i h1 h2)
              have p51 : F50 34 (4 * bo + j9) = nI k9 := (congrFun (hX2 34 (by decide)) _).trans p45
              have p52 : I49 57 = nI on := (hI2 57 (by decide)).trans p46
              have p53 : I49 56 = nI (ta + 1) := (hI2 56 (by decide)).trans p47
              clear hI2 hX2 hQ2 hC2
              have hc1 : a42.2.1 + 1 ≤ a42.2.1 + 1 := Nat.le_refl _
              refine lv_aload_n hx hb dX14_op_125 rfl (lv_at hl 3 rfl) ?_
              refine lv_iload_n hx hb dX14_op_126 rfl (lv_at hl 4 rfl) ?_
              refine lv_iload_n hx hb dX14_op_127 rfl (lv_at hl 2 rfl) ?_
              refine lv_iload hx hb dX14_op_128 (lv_at hl 0 rfl) ?_
              refine lv_aload_n hx hb dX14_op_130 rfl (lv_at hl 3 rfl) ?_
              refine va_calli (va_runV (As := []) (rest := [.int r40, .int (nI w9), .int (nI j9), .ref o]) ⟨hx, hb, hml, hown, (fun _ h9 => absurd h9 List.not_mem_nil : ∀ w ∈ ([] : List Cond), w.before _ s = true)⟩ (c_M_name l D cy A X hst hXT G48 o Ar I49 F50 L ft sx fr en bo a42.2 hM hQ) (tb_cw (C := RX14) 0 hT tw_1713 tw_109 tw_1710 tw_1712 tw_72 rfl rfl hq_X14_name ⟨Nat.le_of_ble_eq_true rfl, Nat.le_of_ble_eq_true rfl⟩) (mk_preC hst hG hK hA hX hS vc_15 hM.1) rfl rfl hl.1 rfl (lv_room (Nat.le_of_ble_eq_true rfl)) dX14_op_131 ⟨Nat.le_of_ble_eq_true rfl, Nat.le_of_ble_eq_true rfl⟩) hS (fun q _ h => h) (fun q h => h) (fun r54 G55 t H locs ht hvm hw hB hz1 hk1 hS => ?_)
              have hG : mm D vwCl A G55 H := by rw [← ht]; exact hB
              clear hB hz1 hk1 hvm ht
              obtain ⟨a56, ea56⟩ : ∃ y, y = q_name (tkK ft en) (tkS ft en) (tkV ft en) a42.2 := ⟨_, rfl⟩
              rw [← ea56] at hw
              obtain ⟨hr54, I57, F58, hM2, hF2, hQ2, hI2, hX2⟩ := hw
              replace hF := hF.tr hF2; replace hM := hM2; clear hM2 hF2
              have hQ := hQ2; have hIZ := (IZ_x hI2).trans hIZ; have hFr := hFr.fx hX2; have hC := hC.fx hI2 hX2
              have p59 : F58 34 (4 * bo + j9) = nI k9 := (congrFun (FXe hX2 (by decide)) _).trans p51
              have p60 : I57 57 = nI on := (IXe hI2 (by decide)).trans p52
              have p61 : I57 56 = nI (ta + 1) := (IXe hI2 (by decide)).trans p53
              clear hI2 hX2 hQ2
              have ga56 : a42.2.1 ≤ a56.2.1 := by rw [ea56]; exact ge_name
              have da56 : a56.2.2 < 0 → _ := fun z => ad_name hSn (by rw [← ea56]; exact z)
              rw [← ea56] at da56
              have hc1 : a42.2.1 + 1 ≤ a56.2.1 + 1 := by omega
              have hc2 : a56.2.2 < 0 → a42.2.1 + 1 ≤ a56.2.1 := fun z => by have := da56 z; omega
              refine va_callv (va_runV (As := [.int (nI j9), .int (nI w9), .int r40, .int r54]) (rest := []) ⟨hx, hb, hml, hown, (fun _ h9 => absurd h9 List.not_mem_nil : ∀ w ∈ ([] : List Cond), w.before _ s = true)⟩ (c_M_addOp l D cy A X hst hXT G55 o Ar I57 F58 L ft sx fr en bo a56.2 (clA a42.2 (clA a15 cl (13, a15.1, 100 * j9 + k9, 0)) (14, a42.2.1, 100 * j9 + k9, 0)) (a42.2.1 + 1) j9 k9 (nI w9) r40 r54 hM hQ hC hj9 hk9 p59) (tb_cw (C := RX14) 4 hT tw_1766 tw_109 tw_1763 tw_1765 tw_85 rfl rfl hq_X14_addOp ⟨Nat.le_of_ble_eq_true rfl, Nat.le_of_ble_eq_true rfl⟩) (mk_preC hst hG hK hA hX hS vc_15 hM.1) rfl rfl hl.1 rfl (lv_room (Nat.le_of_ble_eq_true rfl)) dX14_op_134 ⟨Nat.le_of_ble_eq_true rfl, Nat.le_of_ble_eq_true rfl⟩) hS (fun q _ h => h) (fun q h => h) (fun  G62 t H locs ht hvm hw hB hz1 hk1 hS => ?_)
              have hG : mm D vwCl A G62 H := by rw [← ht]; exact hB
              clear hB hz1 hk1 hvm ht
              obtain ⟨F63, hM2, hF2, hQ2, hC2, hFr2, g34, g35, g36, g37⟩ := hw
              replace hF := hF.tr hF2; replace hM := hM2; clear hM2 hF2
              have hQ := hQ2; have hC := hC2; clear hQ2 hC2
              have hFr : FrW (wO bo j9 k9) F F63 := hFr.tr hFr2
              refine lv_goto (tgt := 148) hx hb dX14_op_137 (by decide) ?_
              refine lv_aload_n hx hb dX14_op_148 rfl (lv_at hl 3 rfl) ?_
              refine lv_bipush (v := 59) hx hb dX14_op_149 (by decide) ?_
              refine va_callv (va_runV (As := [.int 59]) (rest := []) ⟨hx, hb, hml, hown, (fun _ h9 => absurd h9 List.not_mem_nil : ∀ w ∈ ([] : List Cond), w.before _ s = true)⟩ (c_M_mark l D cy A X hst hXT G62 o Ar I57 F63 L ft sx fr en bo a56.2 6 hM hQ (by decide) (by decide)) (tb_cw (C := RX14) 1 hT tw_1717 tw_109 tw_1714 tw_1716 tw_73 rfl rfl hq_X14_mark ⟨Nat.le_of_ble_eq_true rfl, Nat.le_of_ble_eq_true rfl⟩) (mk_preC hst hG hK hA hX hS vc_15 hM.1) rfl rfl hl.1 rfl (lv_room (Nat.le_of_ble_eq_true rfl)) dX14_op_151 ⟨Nat.le_of_ble_eq_true rfl, Nat.le_of_ble_eq_true rfl⟩) hS (fun q _ h => h) (fun q h => h) (fun  G64 t H locs ht hvm hw hB hz1 hk1 hS => ?_)
              have hG : mm D vwCl A G64 H := by rw [← ht]; exact hB
              clear hB hz1 hk1 hvm ht
              obtain ⟨a65, ea65⟩ : ∃ y, y = q_take (tkK ft en) (tkS ft en) 6 a56.2 := ⟨_, rfl⟩
              rw [← ea65] at hw
              obtain ⟨I66, F67, hM2, hF2, hQ2, hI2, hX2⟩ := hw
              replace hF := hF.tr hF2; replace hM := hM2; clear hM2 hF2
              have hQ := hQ2; have hIZ := (IZ_x hI2).trans hIZ; have hFr := hFr.fx hX2; have hC := hC.fx hI2 hX2
              have p68 : F67 34 (4 * bo + j9) = nI (k9 + 1) := (congrFun (FXe hX2 (by decide)) _).trans g34
              have p69 : F67 35 (400 * bo + (100 * j9 + k9)) = nI w9 := (congrFun (FXe hX2 (by decide)) _).trans g35
              have p70 : F67 36 (400 * bo + (100 * j9 + k9)) = r40 := (congrFun (FXe hX2 (by decide)) _).trans g36
              have p71 : F67 37 (400 * bo + (100 * j9 + k9)) = r54 := (congrFun (FXe hX2 (by decide)) _).trans g37
              have p72 : I66 57 = nI on := (IXe hI2 (by decide)).trans p60
              have p73 : I66 56 = nI (ta + 1) := (IXe hI2 (by decide)).trans p61
              clear hI2 hX2 hQ2
              have ga65 : a56.2.1 ≤ a65.1 := by rw [ea65]; exact ge_take
              have da65 : a65.2 < 0 → _ := fun z => ad_take hSn (by rw [← ea65]; exact z)
              rw [← ea65] at da65
              have hc1 : a42.2.1 + 1 ≤ a65.1 + 1 := by omega
              have hc2 : a65.2 < 0 → a42.2.1 + 1 ≤ a65.1 := fun z => by have := da65 z; omega
              have hq1 : q_begin (tkS ft en) (nI ta) 40 q = a15 := by rw [ea15]; unfold q_begin; rw [if_pos (show nI ta < 40 from nI_lt (b := 40) hta (by decide)), if_pos hq]
              have hK9 : tkK ft en q.1 - 10 = w9 := by omega
              have hk26 : tkK ft en q.1 = 26 := by have z := nI_inj (b := 16) (by omega) (by decide) c_81; omega
              have hqo : (q_op (tkK ft en) (tkS ft en) (tkV ft en) ta on k9 q wf) = (a65, on, wf, (tkK ft en q.1, 0, a42.1, tkS ft en a15.1, a56.1, tkS ft en a42.2.1, 0)) := by simp only [q_op, if_neg hn34, hq1, if_neg (show ¬ tkK ft en q.1 = 25 by omega), if_pos hk26, ← ea42, ← ea56, ← ea65]
              have hqe : (if isO (tkK ft en q.1) = true then (q_op (tkK ft en) (tkS ft en) (tkV ft en) ta on k9 q wf).1 else (q.1, tkS ft en q.1)) = a65 := by rw [if_pos hio, hqo]
              exact W.vret hx hb hr (fun t ht hW => ⟨⟨_, rfl, ⟨_, _, _, hM, hF, (by rw [hqe]; exact hQ), hIZ, hFr, (by rw [hqe]; exact hC.le (by omega)), (by rw [hqe]; omega), (by rw [hqe]; intro z; have ya65 := da65 z; have ya56 := da56 ya65.1; have ya42 := da42 ya56.1; have ya15 := da15 ya42.1; exact ⟨hio, hta, p73, p72, p68, (by rw [hqo]; exact ⟨(by dsimp only; rw [if_neg (by omega), hK9]; exact p69), (fun z => by dsimp only at z; omega), (fun _ => ⟨(hr40.mono (by omega)).cg p70.symm, (hr54.mono (by omega)).cg p71.symm⟩), (fun z => by dsimp only at z; omega)⟩), (by unfold clA clO; rw [if_pos hk26, if_pos ya42.1, if_pos ya56.1, show a15.1 = q.1 + 1 by omega, show a42.2.1 = q.1 + 2 by omega, List.append_assoc]; rfl)⟩)⟩, mk_end hG ht⟩, hS.F ht⟩) hS.2.2 dX14_op_154
          · skip
            refine lv_aload_n hx hb dX14_op_64 rfl (lv_at hl 1 rfl) ?_
            refine lv_iload_n hx hb dX14_op_65 rfl (lv_at hl 2 rfl) ?_
            refine lv_iload_n hx hb dX14_op_66 rfl (lv_at hl 0 rfl) ?_
            refine lv_aload_n hx hb dX14_op_67 rfl (lv_at hl 1 rfl) ?_
            refine va_calli (va_runV (As := []) (rest := [.int (nI w9), .int (nI j9), .ref o]) ⟨hx, hb, hml, hown, (fun _ h9 => absurd h9 List.not_mem_nil : ∀ w ∈ ([] : List Cond), w.before _ s = true)⟩ (c_M_signed l D cy A X hst hXT G14 o Ar I16 F17 L ft sx fr en bo a15 hM hQ) (tb_cw (C := RX14) 0 hT tw_1738 tw_109 tw_1735 tw_1737 tw_78 rfl rfl hq_X14_signed ⟨Nat.le_of_ble_eq_true rfl, Nat.le_of_ble_eq_true rfl⟩) (mk_preC hst hG hK hA hX hS vc_15 hM.1) rfl rfl hl.1 rfl (lv_room (Nat.le_of_ble_eq_true rfl)) dX14_op_68 ⟨Nat.le_of_ble_eq_true rfl, Nat.le_of_ble_eq_true rfl⟩) hS (fun q _ h => h) (fun q h => h) (fun r74 G75 t H locs ht hvm hw hB hz1 hk1 hS => ?_)
            have hG : mm D vwCl A G75 H := by rw [← ht]; exact hB
            clear hB hz1 hk1 hvm ht
            obtain ⟨a76, ea76⟩ : ∃ y, y = q_val (tkK ft en) (tkS ft en) (tkV ft en) a15 := ⟨_, rfl⟩
            rw [← ea76] at hw
            obtain ⟨hr74, I77, F78, hM2, hF2, hQ2, hI2, hX2⟩ := hw
            replace hF := hF.tr hF2; replace hM := hM2; clear hM2 hF2
            have hQ := hQ2; have hIZ := (IZ_x hI2).trans hIZ; have hFr := hFr.fx hX2; have hC := hC.fx hI2 hX2
            have p79 : F78 34 (4 * bo + j9) = nI k9 := (congrFun (FXe hX2 (by decide)) _).trans p18
            have p80 : I77 57 = nI on := (IXe hI2 (by decide)).trans p19
            have p81 : I77 56 = nI (ta + 1) := (IXe hI2 (by decide)).trans p20
            clear hI2 hX2 hQ2
            have ga76 : a15.1 ≤ a76.2.1 := by rw [ea76]; exact ge_val
            have da76 : a76.2.2 < 0 → _ := fun z => ad_val hSn (by rw [← ea76]; exact z)
            rw [← ea76] at da76
            have hc1 : c9 ≤ a76.2.1 + 1 := by omega
            have hc2 : a76.2.2 < 0 → c9 ≤ a76.2.1 := fun z => by have := da76 z; omega
            refine lv_iconst (v := 0) hx hb dX14_op_71 (by decide) ?_
            refine va_callv (va_runV (As := [.int (nI j9), .int (nI w9), .int r74, .int 0]) (rest := []) ⟨hx, hb, hml, hown, (fun _ h9 => absurd h9 List.not_mem_nil : ∀ w ∈ ([] : List Cond), w.before _ s = true)⟩ (c_M_addOp l D cy A X hst hXT G75 o Ar I77 F78 L ft sx fr en bo a76.2 cl c9 j9 k9 (nI w9) r74 0 hM hQ hC hj9 hk9 p79) (tb_cw (C := RX14) 4 hT tw_1766 tw_109 tw_1763 tw_1765 tw_85 rfl rfl hq_X14_addOp ⟨Nat.le_of_ble_eq_true rfl, Nat.le_of_ble_eq_true rfl⟩) (mk_preC hst hG hK hA hX hS vc_15 hM.1) rfl rfl hl.1 rfl (lv_room (Nat.le_of_ble_eq_true rfl)) dX14_op_72 ⟨Nat.le_of_ble_eq_true rfl, Nat.le_of_ble_eq_true rfl⟩) hS (fun q _ h => h) (fun q h => h) (fun  G82 t H locs ht hvm hw hB hz1 hk1 hS => ?_)
            have hG : mm D vwCl A G82 H := by rw [← ht]; exact hB
            clear hB hz1 hk1 hvm ht
            obtain ⟨F83, hM2, hF2, hQ2, hC2, hFr2, g34, g35, g36, g37⟩ := hw
            replace hF := hF.tr hF2; replace hM := hM2; clear hM2 hF2
            have hQ := hQ2; have hC := hC2; clear hQ2 hC2
            have hFr : FrW (wO bo j9 k9) F F83 := hFr.tr hFr2
            refine lv_goto (tgt := 148) hx hb dX14_op_75 (by decide) ?_
            refine lv_aload_n hx hb dX14_op_148 rfl (lv_at hl 1 rfl) ?_
            refine lv_bipush (v := 59) hx hb dX14_op_149 (by decide) ?_
            refine va_callv (va_runV (As := [.int 59]) (rest := []) ⟨hx, hb, hml, hown, (fun _ h9 => absurd h9 List.not_mem_nil : ∀ w ∈ ([] : List Cond), w.before _ s = true)⟩ (c_M_mark l D cy A X hst hXT G82 o Ar I77 F83 L ft sx fr en bo a76.2 6 hM hQ (by decide) (by decide)) (tb_cw (C := RX14) 1 hT tw_1717 tw_109 tw_1714 tw_1716 tw_73 rfl rfl hq_X14_mark ⟨Nat.le_of_ble_eq_true rfl, Nat.le_of_ble_eq_true rfl⟩) (mk_preC hst hG hK hA hX hS vc_15 hM.1) rfl rfl hl.1 rfl (lv_room (Nat.le_of_ble_eq_true rfl)) dX14_op_151 ⟨Nat.le_of_ble_eq_true rfl, Nat.le_of_ble_eq_true rfl⟩) hS (fun q _ h => h) (fun q h => h) (fun  G84 t H locs ht hvm hw hB hz1 hk1 hS => ?_)
            have hG : mm D vwCl A G84 H := by rw [← ht]; exact hB
            clear hB hz1 hk1 hvm ht
            obtain ⟨a85, ea85⟩ : ∃ y, y = q_take (tkK ft en) (tkS ft en) 6 a76.2 := ⟨_, rfl⟩
            rw [← ea85] at hw
            obtain ⟨I86, F87, hM2, hF2, hQ2, hI2, hX2⟩ := hw
            replace hF := hF.tr hF2; replace hM := hM2; clear hM2 hF2
            have hQ := hQ2; have hIZ := (IZ_x hI2).trans hIZ; have hFr := hFr.fx hX2; have hC := hC.fx hI2 hX2
            have p88 : F87 34 (4 * bo + j9) = nI (k9 + 1) := (congrFun (FXe hX2 (by decide)) _).trans g34
            have p89 : F87 35 (400 * bo + (100 * j9 + k9)) = nI w9 := (congrFun (FXe hX2 (by decide)) _).trans g35
            have p90 : F87 36 (400 * bo + (100 * j9 + k9)) = r74 := (congrFun (FXe hX2 (by decide)) _).trans g36
            have p91 : F87 37 (400 * bo + (100 * j9 + k9)) = 0 := (congrFun (FXe hX2 (by decide)) _).trans g37
            have p92 : I86 57 = nI on := (IXe hI2 (by decide)).trans p80
            have p93 : I86 56 = nI (ta + 1) := (IXe hI2 (by decide)).trans p81
            clear hI2 hX2 hQ2
            have ga85 : a76.2.1 ≤ a85.1 := by rw [ea85]; exact ge_take
            have da85 : a85.2 < 0 → _ := fun z => ad_take hSn (by rw [← ea85]; exact z)
            rw [← ea85] at da85
            have hc1 : c9 ≤ a85.1 + 1 := by omega
            have hc2 : a85.2 < 0 → c9 ≤ a85.1 := fun z => by have := da85 z; omega
            have hq1 : q_begin (tkS ft en) (nI ta) 40 q = a15 := by rw [ea15]; unfold q_begin; rw [if_pos (show nI ta < 40 from nI_lt (b := 40) hta (by decide)), if_pos hq]
            have hK9 : tkK ft en q.1 - 10 = w9 := by omega
            have hk25 : tkK ft en q.1 = 25 := by have z := nI_inj (b := 15) (by omega) (by decide) c_61; omega
            have hqo : (q_op (tkK ft en) (tkS ft en) (tkV ft en) ta on k9 q wf) = (a85, on, wf, (tkK ft en q.1, a76.1.toInt64, 0, 0, 0, 0, 0)) := by simp only [q_op, if_neg hn34, hq1, if_pos hk25, ← ea76, ← ea85]
            have hqe : (if isO (tkK ft en q.1) = true then (q_op (tkK ft en) (tkS ft en) (tkV ft en) ta on k9 q wf).1 else (q.1, tkS ft en q.1)) = a85 := by rw [if_pos hio, hqo]
            exact W.vret hx hb hr (fun t ht hW => ⟨⟨_, rfl, ⟨_, _, _, hM, hF, (by rw [hqe]; exact hQ), hIZ, hFr, (by rw [hqe]; exact hC.le (by omega)), (by rw [hqe]; omega), (by rw [hqe]; intro z; have ya85 := da85 z; have ya76 := da76 ya85.1; have ya15 := da15 ya76.1; exact ⟨hio, hta, p93, p92, p88, (by rw [hqo]; exact ⟨(by dsimp only; rw [if_neg (by omega), hK9]; exact p89), (fun _ => by dsimp only; rw [p90, hr74 ya85.1]), (fun z => by dsimp only at z; omega), (fun z => by dsimp only at z; omega)⟩), (by unfold clO; rw [if_neg (by omega), List.append_nil])⟩)⟩, mk_end hG ht⟩, hS.F ht⟩) hS.2.2 dX14_op_154
        · skip
          refine lv_aload_n hx hb dX14_op_38 rfl (lv_at hl 1 rfl) ?_
          refine lv_iconst (v := 0) hx hb dX14_op_39 (by decide) ?_
          refine mm_put (v := .int 0) (ty := .boolean) hx hb hf_X14 (fun _ h9 => h9) tyX14 tyX14_ok nmX14 hown hK hG hS hM.1 rfl 55 (by decide) (tb_use hT tw_1446) (fun _ h9 => h9) rfl (by decide +kernel) rfl rfl (mfs_l55 _ _) dX14_op_40 (fun H locs hG hS => ?_)
          have hM := MD.puti (k := 55) (v := 0) hM (mfs_s55 _ _ _)
          have hF := hF.wo (e' := .inr (15, (mfs Ar Iv).set 55 (.int 0)))
          obtain ⟨I94, eI94⟩ : ∃ g, g = upd Iv 55 0 := ⟨_, rfl⟩
          rw [← eI94] at hM
          have hgn := gn_MD hG hM hF
          clear hG hM hF
          obtain ⟨G95, hG, hM, hF⟩ := hgn
          have p96 : I94 56 = nI ta := (by rw [eI94]; try exact pk_un (by decide) : I94 56 = Iv 56).trans h56
          have p97 : I94 57 = nI on := (by rw [eI94]; try exact pk_un (by decide) : I94 57 = Iv 57).trans h57
          have hIZ : IZ I94 = IZ Iv := by rw [eI94]; exact IZ_up (by decide)
          have hC : CLq I94 F ft en cl c9 := by rw [eI94]; exact hC.wI (by decide)
          have hQ : LXq Ar I94 F ft sx fr en bo (q.1, tkS ft en q.1) := by rw [eI94]; exact hQ.set55 (by rw [if_neg (hSn _)])
          have hqe : (if isO (tkK ft en q.1) = true then (q_op (tkK ft en) (tkS ft en) (tkV ft en) ta on k9 q wf).1 else (q.1, tkS ft en q.1)) = (q.1, tkS ft en q.1) := by split; exact q_op_40 hSn (by rw [show ta = 40 from nI_inj (by omega) (by decide) c_35]; decide) hq hn34; rfl
          exact W.vret hx hb hr (fun t ht hW => ⟨⟨_, rfl, ⟨_, _, _, hM, hF, (by rw [hqe]; exact hQ), hIZ, hFr, (by rw [hqe]; exact hC.le hc1), (by rw [hqe]; exact Nat.le_refl _), (by rw [hqe]; exact fun z => absurd z (hSn _))⟩, mk_end hG ht⟩, hS.F ht⟩) hS.2.2 dX14_op_43
