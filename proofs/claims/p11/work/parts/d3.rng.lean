/-- the layers on the way up from l -/
def orb (v : EdV) (l : Nat) : Nat → Nat
  | 0 => l
  | i + 1 => (nx v (orb v l i)).getD 0
def RGp (v : EdV) (F : Nat → Nat → Int32) (l m : Nat) : Prop := ∀ i, i < m → F 64 i = nI (orb v l i + 1)
/-- the way up comes back to l at its m-th step, and not before -/
def RGe (v : EdV) (l m : Nat) : Prop := nx v (orb v l (m - 1)) = some l ∧ ∀ i, i + 1 < m → nx v (orb v l i) ≠ some l ∧ ∃ k, nx v (orb v l i) = some k
def opI (o : Option Nat) : Int32 := match o with
  | none => -1
  | some k => nI k
theorem opI_eq {o : Option Nat} {l : Nat} (h : ∀ k, o = some k → k < 2 ^ 31) (hl : l < 2 ^ 31) : opI o = nI l ↔ o = some l := by
  cases o with
  | none => exact ⟨fun z => absurd z (fun y => nI_pos hl (by rw [← y]; decide)), fun z => by cases z⟩
  | some k => exact ⟨fun z => by rw [nI_inj (h k rfl) hl z], fun z => by injection z with z; rw [z]; rfl⟩
theorem opI_ge {o : Option Nat} (h : ∀ k, o = some k → k < 2 ^ 31) : 0 ≤ opI o ↔ ∃ k, o = some k := by
  cases o with
  | none => exact ⟨fun z => absurd z (by decide), fun ⟨k, z⟩ => by cases z⟩
  | some k => exact ⟨fun _ => ⟨k, rfl⟩, fun _ => nI_pos' (h k rfl)⟩
set_option maxHeartbeats 4000000 in
set_option maxRecDepth 100000 in
theorem c_M_isRing (l : Launch) (D : va_G) (cy : Nat → ClassId) (A : Nat → Prop) (X : State → Prop) (hst : mk_St A X) (hXT : ∀ U : State, X U → TB U) (G : Nat → Option va_E) (o : Nat) (Ar : Nat → Nat) (Iv : Nat → Int32) (F : Nat → Nat → Int32) (L : Nat → Nat → Int64) (ft : Nat → Int32) (en bo n9 l9 : Nat) (v9 : EdV) (hM : MD cy G o Ar Iv F L) (hbL : bkL (tkK ft en) (tkV ft en) n9 F bo v9) (hn30 : n9 < 2 ^ 30) (hbl : bo < 2) (h41 : Iv 41 = nI bo) (hl9 : l9 < v9.nL) : Met l yX14_isRing [.code yX14_isRing cX14_isRing 3 (some .boolean)] ({ frames := 1, cells := 0, slots := 0, locals := 30 }) (mk_Pre D vwCl (tyL cy) A X G [.ref o, .int (nI l9)]) (va_Qi (fun (r : Int32) (G2 : Nat → Option va_E) => r = b2i (inR v9 l9 6 (nx v9 l9)) ∧ ∃ (I2 : Nat → Int32) (F2 : Nat → Nat → Int32), MD cy G2 o Ar I2 F2 L ∧ MF G G2 o Ar ∧ (∀ j, ¬ j = 63 → I2 j = Iv j) ∧ (∀ j, ¬ j = 64 → F2 j = F j) ∧ (¬ r = 0 → ∃ m, 1 ≤ m ∧ m ≤ 6 ∧ I2 63 = nI m ∧ RGp v9 F2 l9 m ∧ RGe v9 l9 m) ∧ (r = 0 → I2 63 = 0)) (mk_B D vwCl A) A) 0 0 A := by
  refine Met.ofW (cc := cX14_isRing) (maxL := 3) (ret := (some .boolean)) (by decide) rfl ?_
  intro p e s m args below meth c s₁ B hml hv
  obtain ⟨rfl, hG, hK, hA, hX⟩ := hv
  have hx := B.exec
  have hb := B.bytes
  have hr := B.returns
  have hlocks := B.notSynchronized
  have hT := hXT s hX
  have hown : s.vm.findClass RX14 = some m.cls := findClass_of_methodNamed B.named
  have hf_X14 : ∀ w ∈ u_ws RX14 TX14 76, w.before ([.ref o, .int (nI l9)] : List Value).toArray s = true := tb_list hT fX14
  have hS : va_S A s.heap s.heap [] := va_S.rf
  have hl := lv_entry ([.ref o, .int (nI l9)]) (n := 3) (Nat.le_of_ble_eq_true rfl)
  rw [lg_entry_eq]
  generalize (lg_sl ([.ref o, .int (nI l9)]) ++ List.replicate (3 - (lg_sl ([.ref o, .int (nI l9)])).length) Slot.unset).toArray = ls at hl ⊢
  have hl : lv_has ls 3 [(0, .ref o), (1, .int (nI l9))] := hl
  have hF : MF G G o Ar := MF.rf
  have hnL6 := hbL.2.1
  obtain ⟨RB, hRB⟩ : ∃ y, inR v9 l9 6 (nx v9 l9) = y := ⟨_, rfl⟩
  have hRB0 := hRB
  have hlp : ∀ (n : Nat) (k9 m9 : Nat) (Ij : Nat → Int32) (Fj : Nat → Nat → Int32), (n + m9 = 6) → (k9 < v9.nL) → (inR v9 l9 n (nx v9 k9) = RB) → (orb v9 l9 m9 = k9) → (∀ i, i < m9 → nx v9 (orb v9 l9 i) ≠ some l9 ∧ ∃ k, nx v9 (orb v9 l9 i) = some k) → (RGp v9 Fj l9 m9) → (Ij 63 = nI m9) → (∀ j, ¬ j = 63 → Ij j = Iv j) → (∀ j, ¬ j = 64 → Fj j = F j) → ∀ (Gv : Nat → Option va_E), (MD cy Gv o Ar Ij Fj L) → (MF G Gv o Ar) → ∀ (H : Heap) (locs : List Loc), mm D vwCl A Gv H → va_S A s.heap H locs → ∀ ls : Array Slot, lv_has ls 3 [(0, .ref o), (1, .int (nI l9)), (2, .int (nI k9))] → W p l e (headSpec [.code yX14_isRing cX14_isRing 3 (some .boolean)] ({ frames := 1, cells := 0, slots := 0, locals := 30 })).room s m ([.ref o, .int (nI l9)] : List Value).toArray below meth c H locs 0 0 (MQ below (va_Qi (fun (r : Int32) (G2 : Nat → Option va_E) => r = b2i (inR v9 l9 6 (nx v9 l9)) ∧ ∃ (I2 : Nat → Int32) (F2 : Nat → Nat → Int32), MD cy G2 o Ar I2 F2 L ∧ MF G G2 o Ar ∧ (∀ j, ¬ j = 63 → I2 j = Iv j) ∧ (∀ j, ¬ j = 64 → F2 j = F j) ∧ (¬ r = 0 → ∃ m, 1 ≤ m ∧ m ≤ 6 ∧ I2 63 = nI m ∧ RGp v9 F2 l9 m ∧ RGe v9 l9 m) ∧ (r = 0 → I2 63 = 0)) (mk_B D vwCl A) A) ([.ref o, .int (nI l9)] : List Value).toArray s 0 0 A) (F0 m 7 ls []) := by
    intro n
    induction n with
    | zero =>
      intro k9 m9 Ij Fj hn hk9 hR hob hmn hrg h63 hIo hFo Gv hM hF H locs hG hS ls hl
      refine lv_aload_n hx hb dX14_isRing_7 rfl (lv_at hl 0 rfl) ?_
      refine mm_get (v := .int (Ij 63)) hx hb hf_X14 (fun _ h9 => h9) hown hK hG hM.1 rfl 63 (by decide) (tb_use hT tw_1454) (fun _ h9 => h9) (mfs_g63 _ _) dX14_isRing_8 ?_
      refine lv_bipush (v := 6) hx hb dX14_isRing_11 (by decide) ?_
      refine lv_icmp_ge (tgt := 96) hx hb dX14_isRing_13 (by decide) (fun c_13 => ?_) (fun c_13 => ?_)
      · skip
        refine lv_aload_n hx hb dX14_isRing_96 rfl (lv_at hl 0 rfl) ?_
        refine lv_iconst (v := 0) hx hb dX14_isRing_97 (by decide) ?_
        refine mm_put (v := .int 0) (ty := .int) hx hb hf_X14 (fun _ h9 => h9) tyX14 tyX14_ok nmX14 hown hK hG hS hM.1 rfl 63 (by decide) (tb_use hT tw_1454) (fun _ h9 => h9) rfl (by decide +kernel) rfl rfl (mfs_l63 _ _) dX14_isRing_98 (fun H locs hG hS => ?_)
        have hM := MD.puti (k := 63) (v := 0) hM (mfs_s63 _ _ _)
        have hF := hF.wo (e' := .inr (15, (mfs Ar Ij).set 63 (.int 0)))
        obtain ⟨I1, eI1⟩ : ∃ g, g = upd Ij 63 0 := ⟨_, rfl⟩
        rw [← eI1] at hM
        have hgn := gn_MD hG hM hF
        clear hG hM hF
        obtain ⟨G2, hG, hM, hF⟩ := hgn
        refine lv_iconst (v := 0) hx hb dX14_isRing_101 (by decide) ?_
        have hz : RB = false := by rw [← hR]; rfl
        exact W.zret (v := 0) hx hb hr rfl (fun t ht hW => ⟨⟨_, _, rfl, ⟨(by rw [hRB, hz]; rfl), _, _, hM, hF, (fun j hj => by rw [eI1, pk_un hj]; exact hIo j hj), hFo, (fun z => absurd rfl z), (fun _ => by rw [eI1]; rfl)⟩, mk_end hG ht⟩, hS.F ht⟩) hS.2.2 dX14_isRing_102
      · skip
        exact absurd (by rw [h63, show m9 = 6 by omega]; decide) c_13
    | succ n ih =>
      intro k9 m9 Ij Fj hn hk9 hR hob hmn hrg h63 hIo hFo Gv hM hF H locs hG hS ls hl
      have hnl : ∀ k, nx v9 k9 = some k → k < 2 ^ 31 := fun k hk => by have := nx_lt hk; omega
      refine lv_aload_n hx hb dX14_isRing_7 rfl (lv_at hl 0 rfl) ?_
      refine mm_get (v := .int (Ij 63)) hx hb hf_X14 (fun _ h9 => h9) hown hK hG hM.1 rfl 63 (by decide) (tb_use hT tw_1454) (fun _ h9 => h9) (mfs_g63 _ _) dX14_isRing_8 ?_
      refine lv_bipush (v := 6) hx hb dX14_isRing_11 (by decide) ?_
      refine lv_icmp_ge (tgt := 96) hx hb dX14_isRing_13 (by decide) (fun c_13 => ?_) (fun c_13 => ?_)
      · skip
        exact absurd (by have z := c_13; rw [h63] at z; exact z) (nI_ge (b := 6) (by omega) (by decide))
      · skip
        refine lv_aload_n hx hb dX14_isRing_16 rfl (lv_at hl 0 rfl) ?_
        refine mm_get (v := .ref (Ar 64)) hx hb hf_X14 (fun _ h9 => h9) hown hK hG hM.1 rfl 64 (by decide) (tb_use hT tw_1455) (fun _ h9 => h9) (mfs_g64 _ _) dX14_isRing_17 ?_
        refine lv_aload_n hx hb dX14_isRing_20 rfl (lv_at hl 0 rfl) ?_
        refine mm_get (v := .int (Ij 63)) hx hb hf_X14 (fun _ h9 => h9) hown hK hG hM.1 rfl 63 (by decide) (tb_use hT tw_1454) (fun _ h9 => h9) (mfs_g63 _ _) dX14_isRing_21 ?_
        refine lv_iload_n hx hb dX14_isRing_24 rfl (lv_at hl 2 rfl) ?_
        refine lv_iconst (v := 1) hx hb dX14_isRing_25 (by decide) ?_
        refine lv_iadd hx hb dX14_isRing_26 ?_
        refine lv_topi (fun x3 ex3 => ?_)
        refine mm_iast (n := mdN 64) (f := Fj 64) hx hb hK hG hS 1 (hM.2.1 64 rfl) rfl (by rw [h63]; exact nI_in (N := mdN 64) (by show _ < 6; omega) (by decide)) dX14_isRing_27 (fun H locs hG hS => ?_)
        have hM := MD.seti (k := 64) (upd (Fj 64) (Ij 63).toNatClampNeg x3) hM rfl
        have hF := hF.wa (k := 64) (e' := .inl (cy 1, mdN 64, .inl (upd (Fj 64) (Ij 63).toNatClampNeg x3))) rfl
        obtain ⟨F4, eF4⟩ : ∃ g, g = va_up Fj 64 (upd (Fj 64) (Ij 63).toNatClampNeg x3) := ⟨_, rfl⟩
        rw [← eF4] at hM
        have hgn := gn_MD hG hM hF
        clear hG hM hF
        obtain ⟨G5, hG, hM, hF⟩ := hgn
        refine lv_aload_n hx hb dX14_isRing_28 rfl (lv_at hl 0 rfl) ?_
        refine lv_dup hx hb dX14_isRing_29 rfl ?_
        refine mm_get (v := .int (Ij 63)) hx hb hf_X14 (fun _ h9 => h9) hown hK hG hM.1 rfl 63 (by decide) (tb_use hT tw_1454) (fun _ h9 => h9) (mfs_g63 _ _) dX14_isRing_30 ?_
        refine lv_iconst (v := 1) hx hb dX14_isRing_33 (by decide) ?_
        refine lv_iadd hx hb dX14_isRing_34 ?_
        refine lv_topi (fun x6 ex6 => ?_)
        refine mm_put (v := .int x6) (ty := .int) hx hb hf_X14 (fun _ h9 => h9) tyX14 tyX14_ok nmX14 hown hK hG hS hM.1 rfl 63 (by decide) (tb_use hT tw_1454) (fun _ h9 => h9) rfl (by decide +kernel) rfl rfl (mfs_l63 _ _) dX14_isRing_35 (fun H locs hG hS => ?_)
        have hM := MD.puti (k := 63) (v := x6) hM (mfs_s63 _ _ _)
        have hF := hF.wo (e' := .inr (15, (mfs Ar Ij).set 63 (.int x6)))
        obtain ⟨I7, eI7⟩ : ∃ g, g = upd Ij 63 x6 := ⟨_, rfl⟩
        rw [← eI7] at hM
        have hgn := gn_MD hG hM hF
        clear hG hM hF
        obtain ⟨G8, hG, hM, hF⟩ := hgn
        refine lv_aload_n hx hb dX14_isRing_38 rfl (lv_at hl 0 rfl) ?_
        refine mm_get (v := .ref (Ar 19)) hx hb hf_X14 (fun _ h9 => h9) hown hK hG hM.1 rfl 19 (by decide) (tb_use hT tw_1410) (fun _ h9 => h9) (mfs_g19 _ _) dX14_isRing_39 ?_
        refine lv_bipush (v := 6) hx hb dX14_isRing_42 (by decide) ?_
        refine lv_aload_n hx hb dX14_isRing_44 rfl (lv_at hl 0 rfl) ?_
        refine mm_get (v := .int (Ij 41)) hx hb hf_X14 (fun _ h9 => h9) hown hK hG hM.1 rfl 41 (by decide) (tb_use hT tw_1432) (fun _ h9 => h9) (by rw [mfs_g41, eI7] <;> rfl) dX14_isRing_45 ?_
        rw [show (Ij 41) = nI bo from (hIo 41 (by decide)).trans h41]
        refine lv_imul hx hb dX14_isRing_48 ?_
        refine lv_iload_n hx hb dX14_isRing_49 rfl (lv_at hl 2 rfl) ?_
        refine lv_iadd hx hb dX14_isRing_50 ?_
        refine mm_iald (n := 12) (f := F4 19) hx hb hK hG 1 (hM.2.1 19 rfl) rfl (by rw [show (6 : Int32) * nI bo + nI k9 = nI (6 * bo + k9) from nI_ma 6 bo k9]; exact nI_in (N := 12) (by omega) (by decide)) dX14_isRing_51 ?_
        refine lv_topi (fun x9 ex9 => ?_)
        have h19 : x9 = F 19 (6 * bo + k9) := by rw [ex9, show (6 : Int32) * nI bo + nI k9 = nI (6 * bo + k9) from nI_ma 6 bo k9, nI_clamp (by omega), eF4, va_up_ne _ _ (by decide), hFo 19 (by decide)]
        have hof := (hbL.2.2 k9 hk9).2
        refine lv_if_ne (tgt := 59) hx hb dX14_isRing_52 (by decide) (fun c_52 => ?_) (fun c_52 => ?_)
        · skip
          refine lv_aload_n hx hb dX14_isRing_59 rfl (lv_at hl 0 rfl) ?_
          refine lv_aload_n hx hb dX14_isRing_60 rfl (lv_at hl 0 rfl) ?_
          refine mm_get (v := .int (Ij 41)) hx hb hf_X14 (fun _ h9 => h9) hown hK hG hM.1 rfl 41 (by decide) (tb_use hT tw_1432) (fun _ h9 => h9) (by rw [mfs_g41, eI7] <;> rfl) dX14_isRing_61 ?_
          rw [show (Ij 41) = nI bo from (hIo 41 (by decide)).trans h41]
          refine lv_aload_n hx hb dX14_isRing_64 rfl (lv_at hl 0 rfl) ?_
          refine mm_get (v := .ref (Ar 19)) hx hb hf_X14 (fun _ h9 => h9) hown hK hG hM.1 rfl 19 (by decide) (tb_use hT tw_1410) (fun _ h9 => h9) (mfs_g19 _ _) dX14_isRing_65 ?_
          refine lv_bipush (v := 6) hx hb dX14_isRing_68 (by decide) ?_
          refine lv_aload_n hx hb dX14_isRing_70 rfl (lv_at hl 0 rfl) ?_
          refine mm_get (v := .int (Ij 41)) hx hb hf_X14 (fun _ h9 => h9) hown hK hG hM.1 rfl 41 (by decide) (tb_use hT tw_1432) (fun _ h9 => h9) (by rw [mfs_g41, eI7] <;> rfl) dX14_isRing_71 ?_
          rw [show (Ij 41) = nI bo from (hIo 41 (by decide)).trans h41]
          refine lv_imul hx hb dX14_isRing_74 ?_
          refine lv_iload_n hx hb dX14_isRing_75 rfl (lv_at hl 2 rfl) ?_
          refine lv_iadd hx hb dX14_isRing_76 ?_
          refine mm_iald (n := 12) (f := F4 19) hx hb hK hG 1 (hM.2.1 19 rfl) rfl (by rw [show (6 : Int32) * nI bo + nI k9 = nI (6 * bo + k9) from nI_ma 6 bo k9]; exact nI_in (N := 12) (by omega) (by decide)) dX14_isRing_77 ?_
          refine lv_topi (fun x10 ex10 => ?_)
          have h19b : x10 = F 19 (6 * bo + k9) := by rw [ex10, show (6 : Int32) * nI bo + nI k9 = nI (6 * bo + k9) from nI_ma 6 bo k9, nI_clamp (by omega), eF4, va_up_ne _ _ (by decide), hFo 19 (by decide)]
          refine va_calli (va_runV (As := [.int (nI bo), .int x10]) (rest := []) ⟨hx, hb, hml, hown, (fun _ h9 => absurd h9 List.not_mem_nil : ∀ w ∈ ([] : List Cond), w.before _ s = true)⟩ (c_M_layerAt l D cy A X hst hXT G8 o Ar I7 F4 L bo v9.nL x10 hM hbl (by rw [eF4, va_up_ne _ _ (by decide), hFo 2 (by decide)]; exact hbL.1) hbL.2.1) (tb_cw (C := RX14) 2 hT tw_1786 tw_109 tw_1783 tw_1785 tw_90 rfl rfl hq_X14_layerAt ⟨Nat.le_of_ble_eq_true rfl, Nat.le_of_ble_eq_true rfl⟩) (mk_preC hst hG hK hA hX hS vc_15 hM.1) rfl rfl hl.1 rfl (lv_room (Nat.le_of_ble_eq_true rfl)) dX14_isRing_78 ⟨Nat.le_of_ble_eq_true rfl, Nat.le_of_ble_eq_true rfl⟩) hS (fun q _ h => h) (fun q h => h) (fun r11 G12 t H locs ht hvm hw hB hz1 hk1 hS => ?_)
          have hG : mm D vwCl A G12 H := by rw [← ht]; exact hB
          clear hB hz1 hk1 hvm ht
          obtain ⟨er11, hw⟩ := hw
          rw [hw] at hG
          have hy : r11 = opI (nx v9 k9) := by rw [er11]; unfold nx; rw [if_neg (fun z => c_52 (h19.trans ((hof.z0 hn30).mpr z)))]; rw [show (fun j => decide (F4 18 (6 * bo + j) = x10)) = (fun j => decide (F 18 (6 * bo + j) = F 19 (6 * bo + k9))) from funext (fun j => by rw [h19b, eF4, va_up_ne _ _ (by decide), hFo 18 (by decide)])]; exact hbL.at hn30 hof
          rw [hy]
          refine lv_topi (fun x13 ex13 => ?_)
          refine lv_istore_n (lv' := [(2, .int x13), (0, .ref o), (1, .int (nI l9))]) hx hb dX14_isRing_81 rfl hl (by decide) rfl (fun ls hl => ?_)
          refine lv_iload_n hx hb dX14_isRing_82 rfl (lv_at hl 0 rfl) ?_
          refine lv_iload_n hx hb dX14_isRing_83 rfl (lv_at hl 2 rfl) ?_
          refine lv_icmp_ne (tgt := 89) hx hb dX14_isRing_84 (by decide) (fun c_84 => ?_) (fun c_84 => ?_)
          · skip
            refine lv_iload_n hx hb dX14_isRing_89 rfl (lv_at hl 0 rfl) ?_
            refine lv_if_ge (tgt := 7) hx hb dX14_isRing_90 (by decide) (fun c_90 => ?_) (fun c_90 => ?_)
            · skip
              have hrg2 : RGp v9 F4 l9 (m9 + 1) := by
                intro i hi
                rw [eF4, va_up_self, h63, nI_clamp (by omega)]
                by_cases z : i = m9
                · rw [z, pk_us, hob, ex3]; exact nI_1 k9
                · rw [pk_un z]; exact hrg i (by omega)
              have h63b : I7 63 = nI (m9 + 1) := by rw [eI7]; show x6 = _; rw [ex6, h63]; exact nI_1 m9
              rw [ex13] at c_84 c_90
              have hFo2 : ∀ j, ¬ j = 64 → F4 j = F j := fun j hj => by rw [eF4, va_up_ne _ _ hj]; exact hFo j hj
              obtain ⟨k2, hk2⟩ := (opI_ge hnl).mp c_90
              have hkl := nx_lt hk2
              rw [show x13 = nI k2 by rw [ex13, hk2]; rfl] at hl
              have hR2 : inR v9 l9 n (nx v9 k2) = RB := by rw [← hR, hk2, inR, if_neg (fun z => c_84 (by rw [hk2, z]; rfl))]
              have hmn2 : ∀ i, i < m9 + 1 → nx v9 (orb v9 l9 i) ≠ some l9 ∧ ∃ k, nx v9 (orb v9 l9 i) = some k := fun i hi => by
                by_cases y : i = m9
                · rw [y, hob, hk2]; exact ⟨fun z => c_84 (by rw [hk2, Option.some.inj z]; rfl), k2, rfl⟩
                · exact hmn i (by omega)
              exact ih k2 (m9 + 1) I7 F4 (by omega) hkl hR2 (by show (nx v9 (orb v9 l9 m9)).getD 0 = k2; rw [hob, hk2]; rfl) hmn2 hrg2 h63b (fun j hj => by rw [eI7, pk_un hj]; exact hIo j hj) hFo2 G8 hM hF _ _ hG hS ls (lv_sub hl [1, 2, 0] rfl)
            · skip
              refine lv_goto (tgt := 96) hx hb dX14_isRing_93 (by decide) ?_
              refine lv_aload_n hx hb dX14_isRing_96 rfl (lv_at hl 1 rfl) ?_
              refine lv_iconst (v := 0) hx hb dX14_isRing_97 (by decide) ?_
              refine mm_put (v := .int 0) (ty := .int) hx hb hf_X14 (fun _ h9 => h9) tyX14 tyX14_ok nmX14 hown hK hG hS hM.1 rfl 63 (by decide) (tb_use hT tw_1454) (fun _ h9 => h9) rfl (by decide +kernel) rfl rfl (mfs_l63 _ _) dX14_isRing_98 (fun H locs hG hS => ?_)
              have hM := MD.puti (k := 63) (v := 0) hM (mfs_s63 _ _ _)
              have hF := hF.wo (e' := .inr (15, (mfs Ar I7).set 63 (.int 0)))
              obtain ⟨I14, eI14⟩ : ∃ g, g = upd I7 63 0 := ⟨_, rfl⟩
              rw [← eI14] at hM
              have hgn := gn_MD hG hM hF
              clear hG hM hF
              obtain ⟨G15, hG, hM, hF⟩ := hgn
              refine lv_iconst (v := 0) hx hb dX14_isRing_101 (by decide) ?_
              have hrg2 : RGp v9 F4 l9 (m9 + 1) := by
                intro i hi
                rw [eF4, va_up_self, h63, nI_clamp (by omega)]
                by_cases z : i = m9
                · rw [z, pk_us, hob, ex3]; exact nI_1 k9
                · rw [pk_un z]; exact hrg i (by omega)
              rw [ex13] at c_84 c_90
              have hFo2 : ∀ j, ¬ j = 64 → F4 j = F j := fun j hj => by rw [eF4, va_up_ne _ _ hj]; exact hFo j hj
              have hk2 : nx v9 k9 = none := by cases hq : nx v9 k9 with | none => rfl | some k => exact absurd ((opI_ge hnl).mpr ⟨k, hq⟩) c_90
              have hz : RB = false := by rw [← hR, hk2, inR]
              exact W.zret (v := 0) hx hb hr rfl (fun t ht hW => ⟨⟨_, _, rfl, ⟨(by rw [hRB, hz]; rfl), _, _, hM, hF, (fun j hj => by rw [eI14, eI7, pk_un hj, pk_un hj]; exact hIo j hj), hFo2, (fun z => absurd rfl z), (fun _ => by rw [eI14, eI7]; rfl)⟩, mk_end hG ht⟩, hS.F ht⟩) hS.2.2 dX14_isRing_102
          · skip
            refine lv_iconst (v := 1) hx hb dX14_isRing_87 (by decide) ?_
            have hrg2 : RGp v9 F4 l9 (m9 + 1) := by
              intro i hi
              rw [eF4, va_up_self, h63, nI_clamp (by omega)]
              by_cases z : i = m9
              · rw [z, pk_us, hob, ex3]; exact nI_1 k9
              · rw [pk_un z]; exact hrg i (by omega)
            have h63b : I7 63 = nI (m9 + 1) := by rw [eI7]; show x6 = _; rw [ex6, h63]; exact nI_1 m9
            rw [ex13] at c_84
            have hFo2 : ∀ j, ¬ j = 64 → F4 j = F j := fun j hj => by rw [eF4, va_up_ne _ _ hj]; exact hFo j hj
            have hk2 : nx v9 k9 = some l9 := (opI_eq hnl (by omega)).mp c_84
            have hz : RB = true := by rw [← hR, hk2, inR, if_pos rfl]
            exact W.zret (v := 1) hx hb hr rfl (fun t ht hW => ⟨⟨_, _, rfl, ⟨(by rw [hRB, hz]; rfl), _, _, hM, hF, (fun j hj => by rw [eI7, pk_un hj]; exact hIo j hj), hFo2, (fun _ => ⟨m9 + 1, by omega, by omega, h63b, hrg2, ⟨by rw [Nat.add_sub_cancel, hob]; exact hk2, fun i hi => hmn i (by omega)⟩⟩), (fun z => absurd z (by decide))⟩, mk_end hG ht⟩, hS.F ht⟩) hS.2.2 dX14_isRing_88
        · skip
          refine lv_iconst (v := (-1)) hx hb dX14_isRing_55 (by decide) ?_
          refine lv_goto (tgt := 81) hx hb dX14_isRing_56 (by decide) ?_
          have hy : (-1 : Int32) = opI (nx v9 k9) := by unfold nx; rw [if_pos ((hof.z0 hn30).mp (h19.symm.trans c_52))]; rfl
          rw [hy]
          refine lv_topi (fun x16 ex16 => ?_)
          refine lv_istore_n (lv' := [(2, .int x16), (0, .ref o), (1, .int (nI l9))]) hx hb dX14_isRing_81 rfl hl (by decide) rfl (fun ls hl => ?_)
          refine lv_iload_n hx hb dX14_isRing_82 rfl (lv_at hl 0 rfl) ?_
          refine lv_iload_n hx hb dX14_isRing_83 rfl (lv_at hl 2 rfl) ?_
          refine lv_icmp_ne (tgt := 89) hx hb dX14_isRing_84 (by decide) (fun c_84 => ?_) (fun c_84 => ?_)
          · skip
            refine lv_iload_n hx hb dX14_isRing_89 rfl (lv_at hl 0 rfl) ?_
            refine lv_if_ge (tgt := 7) hx hb dX14_isRing_90 (by decide) (fun c_90 => ?_) (fun c_90 => ?_)
            · skip
              have hrg2 : RGp v9 F4 l9 (m9 + 1) := by
                intro i hi
                rw [eF4, va_up_self, h63, nI_clamp (by omega)]
                by_cases z : i = m9
                · rw [z, pk_us, hob, ex3]; exact nI_1 k9
                · rw [pk_un z]; exact hrg i (by omega)
              have h63b : I7 63 = nI (m9 + 1) := by rw [eI7]; show x6 = _; rw [ex6, h63]; exact nI_1 m9
              rw [ex16] at c_84 c_90
              have hFo2 : ∀ j, ¬ j = 64 → F4 j = F j := fun j hj => by rw [eF4, va_up_ne _ _ hj]; exact hFo j hj
              obtain ⟨k2, hk2⟩ := (opI_ge hnl).mp c_90
              have hkl := nx_lt hk2
              rw [show x16 = nI k2 by rw [ex16, hk2]; rfl] at hl
              have hR2 : inR v9 l9 n (nx v9 k2) = RB := by rw [← hR, hk2, inR, if_neg (fun z => c_84 (by rw [hk2, z]; rfl))]
              have hmn2 : ∀ i, i < m9 + 1 → nx v9 (orb v9 l9 i) ≠ some l9 ∧ ∃ k, nx v9 (orb v9 l9 i) = some k := fun i hi => by
                by_cases y : i = m9
                · rw [y, hob, hk2]; exact ⟨fun z => c_84 (by rw [hk2, Option.some.inj z]; rfl), k2, rfl⟩
                · exact hmn i (by omega)
              exact ih k2 (m9 + 1) I7 F4 (by omega) hkl hR2 (by show (nx v9 (orb v9 l9 m9)).getD 0 = k2; rw [hob, hk2]; rfl) hmn2 hrg2 h63b (fun j hj => by rw [eI7, pk_un hj]; exact hIo j hj) hFo2 G8 hM hF _ _ hG hS ls (lv_sub hl [1, 2, 0] rfl)
            · skip
              refine lv_goto (tgt := 96) hx hb dX14_isRing_93 (by decide) ?_
              refine lv_aload_n hx hb dX14_isRing_96 rfl (lv_at hl 1 rfl) ?_
              refine lv_iconst (v := 0) hx hb dX14_isRing_97 (by decide) ?_
              refine mm_put (v := .int 0) (ty := .int) hx hb hf_X14 (fun _ h9 => h9) tyX14 tyX14_ok nmX14 hown hK hG hS hM.1 rfl 63 (by decide) (tb_use hT tw_1454) (fun _ h9 => h9) rfl (by decide +kernel) rfl rfl (mfs_l63 _ _) dX14_isRing_98 (fun H locs hG hS => ?_)
              have hM := MD.puti (k := 63) (v := 0) hM (mfs_s63 _ _ _)
              have hF := hF.wo (e' := .inr (15, (mfs Ar I7).set 63 (.int 0)))
              obtain ⟨I17, eI17⟩ : ∃ g, g = upd I7 63 0 := ⟨_, rfl⟩
              rw [← eI17] at hM
              have hgn := gn_MD hG hM hF
              clear hG hM hF
              obtain ⟨G18, hG, hM, hF⟩ := hgn
              refine lv_iconst (v := 0) hx hb dX14_isRing_101 (by decide) ?_
              have hrg2 : RGp v9 F4 l9 (m9 + 1) := by
                intro i hi
                rw [eF4, va_up_self, h63, nI_clamp (by omega)]
                by_cases z : i = m9
                · rw [z, pk_us, hob, ex3]; exact nI_1 k9
                · rw [pk_un z]; exact hrg i (by omega)
              rw [ex16] at c_84 c_90
              have hFo2 : ∀ j, ¬ j = 64 → F4 j = F j := fun j hj => by rw [eF4, va_up_ne _ _ hj]; exact hFo j hj
              have hk2 : nx v9 k9 = none := by cases hq : nx v9 k9 with | none => rfl | some k => exact absurd ((opI_ge hnl).mpr ⟨k, hq⟩) c_90
              have hz : RB = false := by rw [← hR, hk2, inR]
              exact W.zret (v := 0) hx hb hr rfl (fun t ht hW => ⟨⟨_, _, rfl, ⟨(by rw [hRB, hz]; rfl), _, _, hM, hF, (fun j hj => by rw [eI17, eI7, pk_un hj, pk_un hj]; exact hIo j hj), hFo2, (fun z => absurd rfl z), (fun _ => by rw [eI17, eI7]; rfl)⟩, mk_end hG ht⟩, hS.F ht⟩) hS.2.2 dX14_isRing_102
          · skip
            refine lv_iconst (v := 1) hx hb dX14_isRing_87 (by decide) ?_
            have hrg2 : RGp v9 F4 l9 (m9 + 1) := by
              intro i hi
              rw [eF4, va_up_self, h63, nI_clamp (by omega)]
              by_cases z : i = m9
              · rw [z, pk_us, hob, ex3]; exact nI_1 k9
              · rw [pk_un z]; exact hrg i (by omega)
            have h63b : I7 63 = nI (m9 + 1) := by rw [eI7]; show x6 = _; rw [ex6, h63]; exact nI_1 m9
            rw [ex16] at c_84
            have hFo2 : ∀ j, ¬ j = 64 → F4 j = F j := fun j hj => by rw [eF4, va_up_ne _ _ hj]; exact hFo j hj
            have hk2 : nx v9 k9 = some l9 := (opI_eq hnl (by omega)).mp c_84
            have hz : RB = true := by rw [← hR, hk2, inR, if_pos rfl]
            exact W.zret (v := 1) hx hb hr rfl (fun t ht hW => ⟨⟨_, _, rfl, ⟨(by rw [hRB, hz]; rfl), _, _, hM, hF, (fun j hj => by rw [eI7, pk_un hj]; exact hIo j hj), hFo2, (fun _ => ⟨m9 + 1, by omega, by omega, h63b, hrg2, ⟨by rw [Nat.add_sub_cancel, hob]; exact hk2, fun i hi => hmn i (by omega)⟩⟩), (fun z => absurd z (by decide))⟩, mk_end hG ht⟩, hS.F ht⟩) hS.2.2 dX14_isRing_88
  refine lv_aload_n hx hb dX14_isRing_0 rfl (lv_at hl 0 rfl) ?_
  refine lv_iconst (v := 0) hx hb dX14_isRing_1 (by decide) ?_
  refine mm_put (v := .int 0) (ty := .int) hx hb hf_X14 (fun _ h9 => h9) tyX14 tyX14_ok nmX14 hown hK hG hS hM.1 rfl 63 (by decide) (tb_use hT tw_1454) (fun _ h9 => h9) rfl (by decide +kernel) rfl rfl (mfs_l63 _ _) dX14_isRing_2 (fun H locs hG hS => ?_)
  have hM := MD.puti (k := 63) (v := 0) hM (mfs_s63 _ _ _)
  have hF := hF.wo (e' := .inr (15, (mfs Ar Iv).set 63 (.int 0)))
  obtain ⟨I19, eI19⟩ : ∃ g, g = upd Iv 63 0 := ⟨_, rfl⟩
  rw [← eI19] at hM
  have hgn := gn_MD hG hM hF
  clear hG hM hF
  obtain ⟨G20, hG, hM, hF⟩ := hgn
  refine lv_iload_n hx hb dX14_isRing_5 rfl (lv_at hl 1 rfl) ?_
  refine lv_istore_n (lv' := [(2, .int (nI l9)), (0, .ref o), (1, .int (nI l9))]) hx hb dX14_isRing_6 rfl hl (by decide) rfl (fun ls hl => ?_)
  exact hlp 6 l9 0 I19 F (by omega) hl9 hRB0 rfl (fun i hi => absurd hi (Nat.not_lt_zero i)) (fun i hi => absurd hi (Nat.not_lt_zero i)) (by rw [eI19]; rfl) (fun j hj => by rw [eI19]; exact pk_un hj) (fun _ _ => rfl) G20 hM hF _ _ hG hS ls (lv_sub hl [1, 2, 0] rfl)
