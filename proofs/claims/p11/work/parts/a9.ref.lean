/-- the reference's answer to code -/
def coM (Iv : Nat → Int32) (F : Nat → Nat → Int32) (b nE : Nat) (x : Int32) : Int32 := if Iv 43 = 0 then 0 else match fndF (fun j => decide (F 29 (12 * b + j) = x)) nE 0 with
  | none => 0
  | some j => F 30 (12 * b + j)

set_option maxHeartbeats 4000000 in
set_option maxRecDepth 100000 in
theorem c_M_code (l : Launch) (D : va_G) (cy : Nat → ClassId) (A : Nat → Prop) (X : State → Prop) (hst : mk_St A X) (hXT : ∀ U : State, X U → TB U) (G : Nat → Option va_E) (o : Nat) (Ar : Nat → Nat) (Iv : Nat → Int32) (F : Nat → Nat → Int32) (L : Nat → Nat → Int64) (b9 nE : Nat) (xa : Int32) (hM : MD cy G o Ar Iv F L) (hb9 : b9 < 2) (hbk : Iv 42 = nI b9) (hcn : F 4 b9 = nI nE) (hnE : nE ≤ 12) : Met l yX14_code [.code yX14_code cX14_code 3 (some .int)] ({ frames := 0, cells := 0, slots := 0, locals := 0 }) (mk_Pre D vwCl (tyL cy) A X G [.ref o, .int xa]) (va_Qi (fun (r : Int32) (G2 : Nat → Option va_E) => r = coM Iv F b9 nE xa ∧ MD cy G2 o Ar (upd Iv 38 0) F L ∧ MF G G2 o Ar) (mk_B D vwCl A) A) 0 0 A := by
  refine Met.ofW (cc := cX14_code) (maxL := 3) (ret := (some .int)) (by decide) rfl ?_
  intro p e s m args below meth c s₁ B hml hv
  obtain ⟨rfl, hG, hK, hA, hX⟩ := hv
  have hx := B.exec
  have hb := B.bytes
  have hr := B.returns
  have hlocks := B.notSynchronized
  have hT := hXT s hX
  have hown : s.vm.findClass RX14 = some m.cls := findClass_of_methodNamed B.named
  have hf_X14 : ∀ w ∈ u_ws RX14 TX14 76, w.before ([.ref o, .int xa] : List Value).toArray s = true := tb_list hT fX14
  have hS : va_S A s.heap s.heap [] := va_S.rf
  have hl := lv_entry ([.ref o, .int xa]) (n := 3) (Nat.le_of_ble_eq_true rfl)
  rw [lg_entry_eq]
  generalize (lg_sl ([.ref o, .int xa]) ++ List.replicate (3 - (lg_sl ([.ref o, .int xa])).length) Slot.unset).toArray = ls at hl ⊢
  have hl : lv_has ls 3 [(0, .ref o), (1, .int xa)] := hl
  have hF : MF G G o Ar := MF.rf
  obtain ⟨RF, hR⟩ : ∃ y, fndF (fun j => decide (F 29 (12 * b9 + j) = xa)) nE 0 = y := ⟨_, rfl⟩
  have hloop : ∀ (n : Nat) (j9 : Nat) (Ij : Nat → Int32), (n + j9 = nE) → (fndF (fun j => decide (F 29 (12 * b9 + j) = xa)) n j9 = RF) → (Ij 42 = nI b9) → (Ij 43 = Iv 43) → (Ij = upd Iv 38 0) → ∀ (Gv : Nat → Option va_E), (MD cy Gv o Ar Ij F L) → (MF G Gv o Ar) → ∀ (H : Heap) (locs : List Loc), mm D vwCl A Gv H → va_S A s.heap H locs → ∀ ls : Array Slot, lv_has ls 3 [(0, .ref o), (1, .int xa), (2, .int (nI j9))] → W p l e (headSpec [.code yX14_code cX14_code 3 (some .int)] ({ frames := 0, cells := 0, slots := 0, locals := 0 })).room s m ([.ref o, .int xa] : List Value).toArray below meth c H locs 0 0 (MQ below (va_Qi (fun (r : Int32) (G2 : Nat → Option va_E) => r = coM Iv F b9 nE xa ∧ MD cy G2 o Ar (upd Iv 38 0) F L ∧ MF G G2 o Ar) (mk_B D vwCl A) A) ([.ref o, .int xa] : List Value).toArray s 0 0 A) (F0 m 7 ls []) := by
    intro n
    induction n with
    | zero =>
      intro j9 Ij hjn hq hj42 hj43 hIj Gv hM hF H locs hG hS ls hl
      refine lv_iload_n hx hb dX14_code_7 rfl (lv_at hl 2 rfl) ?_
      refine lv_aload_n hx hb dX14_code_8 rfl (lv_at hl 0 rfl) ?_
      refine mm_get (v := .ref (Ar 4)) hx hb hf_X14 (fun _ h9 => h9) hown hK hG hM.1 rfl 4 (by decide) (tb_use hT tw_1395) (fun _ h9 => h9) (mfs_g4 _ _) dX14_code_9 ?_
      refine lv_aload_n hx hb dX14_code_12 rfl (lv_at hl 0 rfl) ?_
      refine mm_get (v := .int (Ij 42)) hx hb hf_X14 (fun _ h9 => h9) hown hK hG hM.1 rfl 42 (by decide) (tb_use hT tw_1433) (fun _ h9 => h9) (mfs_g42 _ _) dX14_code_13 ?_
      refine mm_iald (n := 2) (f := F 4) hx hb hK hG 1 (hM.2.1 4 rfl) rfl (by rw [hj42]; exact nI_in (N := 2) hb9 (by decide)) dX14_code_16 ?_
      refine lv_topi (fun x1 ex1 => ?_)
      refine lv_icmp_ge (tgt := 66) hx hb dX14_code_17 (by decide) (fun c_17 => ?_) (fun c_17 => ?_)
      · skip
        refine lv_iconst (v := 0) hx hb dX14_code_66 (by decide) ?_
        have hz : RF = none := by rw [← hq]; first | rfl | (rw [show n = 0 by omega]; rfl)
        exact W.iret (v := 0) hx hb hr (fun t ht hW => ⟨⟨_, _, rfl, ⟨(by rw [coM, hR, hz]; split <;> rfl), (by rw [← hIj]; exact hM), hF⟩, mk_end hG ht⟩, hS.F ht⟩) hS.2.2 dX14_code_67
      · skip
        exact absurd (by rw [ex1, hj42, nI_clamp (by omega), hcn, show j9 = nE by omega]; exact Int32.le_refl _) c_17
    | succ n ih =>
      intro j9 Ij hjn hq hj42 hj43 hIj Gv hM hF H locs hG hS ls hl
      refine lv_iload_n hx hb dX14_code_7 rfl (lv_at hl 2 rfl) ?_
      refine lv_aload_n hx hb dX14_code_8 rfl (lv_at hl 0 rfl) ?_
      refine mm_get (v := .ref (Ar 4)) hx hb hf_X14 (fun _ h9 => h9) hown hK hG hM.1 rfl 4 (by decide) (tb_use hT tw_1395) (fun _ h9 => h9) (mfs_g4 _ _) dX14_code_9 ?_
      refine lv_aload_n hx hb dX14_code_12 rfl (lv_at hl 0 rfl) ?_
      refine mm_get (v := .int (Ij 42)) hx hb hf_X14 (fun _ h9 => h9) hown hK hG hM.1 rfl 42 (by decide) (tb_use hT tw_1433) (fun _ h9 => h9) (mfs_g42 _ _) dX14_code_13 ?_
      refine mm_iald (n := 2) (f := F 4) hx hb hK hG 1 (hM.2.1 4 rfl) rfl (by rw [hj42]; exact nI_in (N := 2) hb9 (by decide)) dX14_code_16 ?_
      refine lv_topi (fun x2 ex2 => ?_)
      refine lv_icmp_ge (tgt := 66) hx hb dX14_code_17 (by decide) (fun c_17 => ?_) (fun c_17 => ?_)
      · skip
        exact absurd (by have z := c_17; rw [ex2, hj42, nI_clamp (by omega), hcn] at z; exact z) (nI_ge (a := j9) (b := nE) (by omega) (by omega))
      · skip
        refine lv_aload_n hx hb dX14_code_20 rfl (lv_at hl 0 rfl) ?_
        refine mm_get (v := .int (Ij 43)) hx hb hf_X14 (fun _ h9 => h9) hown hK hG hM.1 rfl 43 (by decide) (tb_use hT tw_1434) (fun _ h9 => h9) (mfs_g43 _ _) dX14_code_21 ?_
        refine lv_if_eq (tgt := 66) hx hb dX14_code_24 (by decide) (fun c_24 => ?_) (fun c_24 => ?_)
        · skip
          refine lv_iconst (v := 0) hx hb dX14_code_66 (by decide) ?_
          exact W.iret (v := 0) hx hb hr (fun t ht hW => ⟨⟨_, _, rfl, ⟨(by rw [coM, if_pos (by rw [← hj43]; exact c_24)]), (by rw [← hIj]; exact hM), hF⟩, mk_end hG ht⟩, hS.F ht⟩) hS.2.2 dX14_code_67
        · skip
          refine lv_aload_n hx hb dX14_code_27 rfl (lv_at hl 0 rfl) ?_
          refine mm_get (v := .ref (Ar 29)) hx hb hf_X14 (fun _ h9 => h9) hown hK hG hM.1 rfl 29 (by decide) (tb_use hT tw_1420) (fun _ h9 => h9) (mfs_g29 _ _) dX14_code_28 ?_
          refine lv_bipush (v := 12) hx hb dX14_code_31 (by decide) ?_
          refine lv_aload_n hx hb dX14_code_33 rfl (lv_at hl 0 rfl) ?_
          refine mm_get (v := .int (Ij 42)) hx hb hf_X14 (fun _ h9 => h9) hown hK hG hM.1 rfl 42 (by decide) (tb_use hT tw_1433) (fun _ h9 => h9) (mfs_g42 _ _) dX14_code_34 ?_
          refine lv_imul hx hb dX14_code_37 ?_
          refine lv_iload_n hx hb dX14_code_38 rfl (lv_at hl 2 rfl) ?_
          refine lv_iadd hx hb dX14_code_39 ?_
          refine mm_iald (n := 24) (f := F 29) hx hb hK hG 1 (hM.2.1 29 rfl) rfl (by rw [show (12 : Int32) * Ij 42 + nI j9 = nI (12 * b9 + j9) by rw [hj42]; exact nI_ma 12 b9 j9]; exact nI_in (N := 24) (by omega) (by decide)) dX14_code_40 ?_
          refine lv_topi (fun x3 ex3 => ?_)
          refine lv_iload_n hx hb dX14_code_41 rfl (lv_at hl 1 rfl) ?_
          refine lv_icmp_ne (tgt := 60) hx hb dX14_code_42 (by decide) (fun c_42 => ?_) (fun c_42 => ?_)
          · skip
            obtain ⟨x4, ex4⟩ : ∃ y : Int32, y = (nI j9) + 1 := ⟨_, rfl⟩
            refine lv_iinc (v := x4) (lv' := [(2, .int x4), (0, .ref o), (1, .int xa)]) hx hb dX14_code_60 hl (k := 2) rfl (by rw [ex4]; rfl) (by decide) rfl (fun ls hl => ?_)
            refine lv_goto (tgt := 7) hx hb dX14_code_63 (by decide) ?_
            rw [show x4 = nI (j9 + 1) by rw [ex4]; exact (nI_succ j9).symm] at hl
            have hx9 : ¬ F 29 (12 * b9 + j9) = xa := fun z => c_42 (by rw [ex3, show (12 : Int32) * Ij 42 + nI j9 = nI (12 * b9 + j9) by rw [hj42]; exact nI_ma 12 b9 j9, nI_clamp (by omega)]; exact z)
            have hq2 : fndF (fun j => decide (F 29 (12 * b9 + j) = xa)) n (j9 + 1) = RF := by rw [← hq, fndF, if_neg (by rw [decide_eq_false hx9]; exact Bool.false_ne_true)]
            exact ih (j9 + 1) Ij (by omega) hq2 hj42 hj43 hIj Gv hM hF _ _ hG hS ls (lv_sub hl [1, 2, 0] rfl)
          · skip
            refine lv_aload_n hx hb dX14_code_45 rfl (lv_at hl 0 rfl) ?_
            refine mm_get (v := .ref (Ar 30)) hx hb hf_X14 (fun _ h9 => h9) hown hK hG hM.1 rfl 30 (by decide) (tb_use hT tw_1421) (fun _ h9 => h9) (mfs_g30 _ _) dX14_code_46 ?_
            refine lv_bipush (v := 12) hx hb dX14_code_49 (by decide) ?_
            refine lv_aload_n hx hb dX14_code_51 rfl (lv_at hl 0 rfl) ?_
            refine mm_get (v := .int (Ij 42)) hx hb hf_X14 (fun _ h9 => h9) hown hK hG hM.1 rfl 42 (by decide) (tb_use hT tw_1433) (fun _ h9 => h9) (mfs_g42 _ _) dX14_code_52 ?_
            refine lv_imul hx hb dX14_code_55 ?_
            refine lv_iload_n hx hb dX14_code_56 rfl (lv_at hl 2 rfl) ?_
            refine lv_iadd hx hb dX14_code_57 ?_
            refine mm_iald (n := 24) (f := F 30) hx hb hK hG 1 (hM.2.1 30 rfl) rfl (by rw [show (12 : Int32) * Ij 42 + nI j9 = nI (12 * b9 + j9) by rw [hj42]; exact nI_ma 12 b9 j9]; exact nI_in (N := 24) (by omega) (by decide)) dX14_code_58 ?_
            refine lv_topi (fun x5 ex5 => ?_)
            have hx9 : F 29 (12 * b9 + j9) = xa := by have z := c_42; rw [ex3, show (12 : Int32) * Ij 42 + nI j9 = nI (12 * b9 + j9) by rw [hj42]; exact nI_ma 12 b9 j9, nI_clamp (by omega)] at z; exact z
            have hz : RF = some j9 := by rw [← hq, fndF, if_pos (decide_eq_true hx9)]
            exact W.iret (v := x5) hx hb hr (fun t ht hW => ⟨⟨_, _, rfl, ⟨(by rw [coM, if_neg (by rw [← hj43]; exact c_24), hR, hz, ex5, show (12 : Int32) * Ij 42 + nI j9 = nI (12 * b9 + j9) by rw [hj42]; exact nI_ma 12 b9 j9, nI_clamp (by omega)]), (by rw [← hIj]; exact hM), hF⟩, mk_end hG ht⟩, hS.F ht⟩) hS.2.2 dX14_code_59
  refine lv_aload_n hx hb dX14_code_0 rfl (lv_at hl 0 rfl) ?_
  refine lv_iconst (v := 0) hx hb dX14_code_1 (by decide) ?_
  refine mm_put (v := .int 0) (ty := .int) hx hb hf_X14 (fun _ h9 => h9) tyX14 tyX14_ok nmX14 hown hK hG hS hM.1 rfl 38 (by decide) (tb_use hT tw_1429) (fun _ h9 => h9) rfl (by decide +kernel) rfl rfl (mfs_l38 _ _) dX14_code_2 (fun H locs hG hS => ?_)
  have hM := MD.puti (k := 38) (v := 0) hM (mfs_s38 _ _ _)
  have hF := hF.wo (e' := .inr (15, (mfs Ar Iv).set 38 (.int 0)))
  obtain ⟨I6, eI6⟩ : ∃ g, g = upd Iv 38 0 := ⟨_, rfl⟩
  rw [← eI6] at hM
  have hgn := gn_MD hG hM hF
  clear hG hM hF
  obtain ⟨G7, hG, hM, hF⟩ := hgn
  refine lv_iconst (v := 0) hx hb dX14_code_5 (by decide) ?_
  refine lv_istore_n (lv' := [(2, .int 0), (0, .ref o), (1, .int xa)]) hx hb dX14_code_6 rfl hl (by decide) rfl (fun ls hl => ?_)
  exact hloop nE 0 I6 (by omega) hR (by rw [eI6]; exact hbk) (by rw [eI6]; rfl) eI6 G7 hM hF _ _ hG hS ls (lv_sub hl [1, 2, 0] rfl)
