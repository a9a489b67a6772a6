set_option maxHeartbeats 4000000 in
set_option maxRecDepth 100000 in
theorem c_M_firstWrong (l : Launch) (D : va_G) (cy : Nat → ClassId) (A : Nat → Prop) (X : State → Prop) (hst : mk_St A X) (hXT : ∀ U : State, X U → TB U) (G : Nat → Option va_E) (o : Nat) (Ar : Nat → Nat) (Iv : Nat → Int32) (F : Nat → Nat → Int32) (L : Nat → Nat → Int64) (ft : Nat → Int32) (en bo n9 c9 hh9 : Nat) (cl : List CLi) (v9 : EdV) (hM : MD cy G o Ar Iv F L) (hB : BK (tkK ft en) (tkV ft en) n9 F bo v9) (hLS : LSv v9) (hn30 : n9 < 2 ^ 30) (hbl : bo < 2) (h41 : Iv 41 = nI bo) (hC : CLq Iv F ft en cl c9) (hc9 : c9 ≤ 2001) (hcl : CLn (tkS ft en) (PK v9) 0 hh9 cl) (hhn : hh9 ≤ tkN ft en) (hen : en ≤ 2000) (h63 : Iv 63 = 0) : Met l yX14_firstWrong [.code yX14_firstWrong cX14_firstWrong 2 (some .int)] ({ frames := 3, cells := 0, slots := 0, locals := 90 }) (mk_Pre D vwCl (tyL cy) A X G [.ref o]) (va_Qi (fun (r : Int32) (G2 : Nat → Option va_E) => ∃ (I2 : Nat → Int32) (F2 : Nat → Nat → Int32), MD cy G2 o Ar I2 F2 L ∧ MF G G2 o Ar ∧ (∀ j, ¬ j = 63 → I2 j = Iv j) ∧ (∀ j, ¬ j = 64 → F2 j = F j) ∧ r = (if (mAll v9 (-1, none)).1 < 0 then 0 else lnc ft (mAll v9 (-1, none)).1.toNatClampNeg) ∧ (¬ (mAll v9 (-1, none)).1 < 0 → (mAll v9 (-1, none)).1.toNatClampNeg ≤ en) ∧ ((mAll v9 (-1, none)).2 = none → I2 63 = 0) ∧ ∀ l9, (mAll v9 (-1, none)).2 = some l9 → RGS v9 I2 F2 l9) (mk_B D vwCl A) A) 0 0 A := by
  refine Met.ofW (cc := cX14_firstWrong) (maxL := 2) (ret := (some .int)) (by decide) rfl ?_
  intro p e s m args below meth c s₁ B hml hv
  obtain ⟨rfl, hG, hK, hA, hX⟩ := hv
  have hx := B.exec
  have hb := B.bytes
  have hr := B.returns
  have hlocks := B.notSynchronized
  have hT := hXT s hX
  have hown : s.vm.findClass RX14 = some m.cls := findClass_of_methodNamed B.named
  have hf_X14 : ∀ w ∈ u_ws RX14 TX14 76, w.before ([.ref o] : List Value).toArray s = true := tb_list hT fX14
  have hS : va_S A s.heap s.heap [] := va_S.rf
  have hl := lv_entry ([.ref o]) (n := 2) (Nat.le_of_ble_eq_true rfl)
  rw [lg_entry_eq]
  generalize (lg_sl ([.ref o]) ++ List.replicate (2 - (lg_sl ([.ref o])).length) Slot.unset).toArray = ls at hl ⊢
  have hl : lv_has ls 2 [(0, .ref o)] := hl
  have hF : MF G G o Ar := MF.rf
  have hln := hC.2.1
  have hSn : ∀ p, ¬ tkS ft en p < 0 := fun p => tkS_ge hen p
  have hSm : ∀ i j, i < j → j < hh9 → tkS ft en i < tkS ft en j := fun i j hij hj => by obtain ⟨m, n, g1, g2, g3, g4⟩ := @tkS_lt ft en i j hij (by omega); rw [g1, g2]; exact nI_lt g3 (by omega)
  have hP8 : ∀ s, s < v9.nS → v9.nP s ≤ 8 := fun s hs => (hB.2.2.1.2.2 s hs).2.2.2.2.1
  have hO8 : ∀ j, j < v9.nJ → v9.nO j ≤ 80 := fun j hj => (hB.2.2.2.2.2.2.2 j hj).2.2.1
  have hlp : ∀ (n : Nat) (j9 : Nat) (Ij : Nat → Int32) (Fj : Nat → Nat → Int32), (n + j9 = cl.length) → (∀ j y, j < j9 → cl[j]? = some y → wrC v9 y.1 y.2.2.1 y.2.2.2 = false) → (Ij 63 = 0) → (∀ j, ¬ j = 63 → Ij j = Iv j) → (∀ j, ¬ j = 64 → Fj j = F j) → ∀ (Gv : Nat → Option va_E), (MD cy Gv o Ar Ij Fj L) → (MF G Gv o Ar) → ∀ (H : Heap) (locs : List Loc), mm D vwCl A Gv H → va_S A s.heap H locs → ∀ ls : Array Slot, lv_has ls 2 [(0, .ref o), (1, .int (nI j9))] → W p l e (headSpec [.code yX14_firstWrong cX14_firstWrong 2 (some .int)] ({ frames := 3, cells := 0, slots := 0, locals := 90 })).room s m ([.ref o] : List Value).toArray below meth c H locs 0 0 (MQ below (va_Qi (fun (r : Int32) (G2 : Nat → Option va_E) => ∃ (I2 : Nat → Int32) (F2 : Nat → Nat → Int32), MD cy G2 o Ar I2 F2 L ∧ MF G G2 o Ar ∧ (∀ j, ¬ j = 63 → I2 j = Iv j) ∧ (∀ j, ¬ j = 64 → F2 j = F j) ∧ r = (if (mAll v9 (-1, none)).1 < 0 then 0 else lnc ft (mAll v9 (-1, none)).1.toNatClampNeg) ∧ (¬ (mAll v9 (-1, none)).1 < 0 → (mAll v9 (-1, none)).1.toNatClampNeg ≤ en) ∧ ((mAll v9 (-1, none)).2 = none → I2 63 = 0) ∧ ∀ l9, (mAll v9 (-1, none)).2 = some l9 → RGS v9 I2 F2 l9) (mk_B D vwCl A) A) ([.ref o] : List Value).toArray s 0 0 A) (F0 m 2 ls []) := by
    intro n
    induction n with
    | zero =>
      intro j9 Ij Fj hjn hpr h63 hIo hFo Gv hM hF H locs hG hS ls hl
      have h58 : Ij 58 = nI cl.length := (hIo 58 (by decide)).trans hC.1
      refine lv_iload_n hx hb dX14_firstWrong_2 rfl (lv_at hl 1 rfl) ?_
      refine lv_aload_n hx hb dX14_firstWrong_3 rfl (lv_at hl 0 rfl) ?_
      refine mm_get (v := .int (Ij 58)) hx hb hf_X14 (fun _ h9 => h9) hown hK hG hM.1 rfl 58 (by decide) (tb_use hT tw_1449) (fun _ h9 => h9) (mfs_g58 _ _) dX14_firstWrong_4 ?_
      refine lv_icmp_ge (tgt := 48) hx hb dX14_firstWrong_7 (by decide) (fun c_7 => ?_) (fun c_7 => ?_)
      · skip
        refine lv_iconst (v := 0) hx hb dX14_firstWrong_48 (by decide) ?_
        have hno : ∀ x, x ∈ cl → wrC v9 x.1 x.2.2.1 x.2.2.2 = false := fun x hx => by obtain ⟨j, hj⟩ := List.mem_iff_getElem?.mp hx; obtain ⟨hjl, _⟩ := List.getElem?_eq_some_iff.mp hj; exact hpr j x (by omega) hj
        have hA := fw_none hcl hSn hP8 hO8 hno
        exact W.iret (v := 0) hx hb hr (fun t ht hW => ⟨⟨_, _, rfl, ⟨Ij, Fj, hM, hF, hIo, hFo, (by rw [hA]; rfl), (by rw [hA]; exact fun z => absurd (by decide) z), (fun _ => h63), (by rw [hA]; intro l9 z; cases z)⟩, mk_end hG ht⟩, hS.F ht⟩) hS.2.2 dX14_firstWrong_49
      · skip
        exact absurd (by rw [h58, show j9 = cl.length by omega]; exact Int32.le_refl _) c_7
    | succ n ih =>
      intro j9 Ij Fj hjn hpr h63 hIo hFo Gv hM hF H locs hG hS ls hl
      obtain ⟨x9, hx9e⟩ : ∃ y, cl[j9]? = some y := ⟨cl[j9], List.getElem?_eq_getElem (by omega)⟩
      have hxm : x9 ∈ cl := List.mem_of_getElem? hx9e
      have hx9 := hC.2.2 j9 x9 hx9e
      have h58 : Ij 58 = nI cl.length := (hIo 58 (by decide)).trans hC.1
      refine lv_iload_n hx hb dX14_firstWrong_2 rfl (lv_at hl 1 rfl) ?_
      refine lv_aload_n hx hb dX14_firstWrong_3 rfl (lv_at hl 0 rfl) ?_
      refine mm_get (v := .int (Ij 58)) hx hb hf_X14 (fun _ h9 => h9) hown hK hG hM.1 rfl 58 (by decide) (tb_use hT tw_1449) (fun _ h9 => h9) (mfs_g58 _ _) dX14_firstWrong_4 ?_
      refine lv_icmp_ge (tgt := 48) hx hb dX14_firstWrong_7 (by decide) (fun c_7 => ?_) (fun c_7 => ?_)
      · skip
        exact absurd (by have z := c_7; rw [h58] at z; exact z) (nI_ge (a := j9) (b := cl.length) (by omega) (by omega))
      · skip
        refine lv_aload_n hx hb dX14_firstWrong_10 rfl (lv_at hl 0 rfl) ?_
        refine lv_aload_n hx hb dX14_firstWrong_11 rfl (lv_at hl 0 rfl) ?_
        refine mm_get (v := .ref (Ar 59)) hx hb hf_X14 (fun _ h9 => h9) hown hK hG hM.1 rfl 59 (by decide) (tb_use hT tw_1450) (fun _ h9 => h9) (mfs_g59 _ _) dX14_firstWrong_12 ?_
        refine lv_iload_n hx hb dX14_firstWrong_15 rfl (lv_at hl 1 rfl) ?_
        refine mm_iald (n := 2000) (f := Fj 59) hx hb hK hG 1 (hM.2.1 59 rfl) rfl (nI_in (N := 2000) (by omega) (by decide)) dX14_firstWrong_16 ?_
        refine lv_topi (fun x1 ex1 => ?_)
        rw [show x1 = nI x9.1 from by rw [ex1, nI_clamp (by omega), hFo 59 (by decide)]; exact hx9.1]
        refine lv_aload_n hx hb dX14_firstWrong_17 rfl (lv_at hl 0 rfl) ?_
        refine mm_get (v := .ref (Ar 61)) hx hb hf_X14 (fun _ h9 => h9) hown hK hG hM.1 rfl 61 (by decide) (tb_use hT tw_1452) (fun _ h9 => h9) (mfs_g61 _ _) dX14_firstWrong_18 ?_
        refine lv_iload_n hx hb dX14_firstWrong_21 rfl (lv_at hl 1 rfl) ?_
        refine mm_iald (n := 2000) (f := Fj 61) hx hb hK hG 1 (hM.2.1 61 rfl) rfl (nI_in (N := 2000) (by omega) (by decide)) dX14_firstWrong_22 ?_
        refine lv_topi (fun x2 ex2 => ?_)
        rw [show x2 = nI x9.2.2.1 from by rw [ex2, nI_clamp (by omega), hFo 61 (by decide)]; exact hx9.2.2.1]
        refine lv_aload_n hx hb dX14_firstWrong_23 rfl (lv_at hl 0 rfl) ?_
        refine mm_get (v := .ref (Ar 62)) hx hb hf_X14 (fun _ h9 => h9) hown hK hG hM.1 rfl 62 (by decide) (tb_use hT tw_1453) (fun _ h9 => h9) (mfs_g62 _ _) dX14_firstWrong_24 ?_
        refine lv_iload_n hx hb dX14_firstWrong_27 rfl (lv_at hl 1 rfl) ?_
        refine mm_iald (n := 2000) (f := Fj 62) hx hb hK hG 1 (hM.2.1 62 rfl) rfl (nI_in (N := 2000) (by omega) (by decide)) dX14_firstWrong_28 ?_
        refine lv_topi (fun x3 ex3 => ?_)
        rw [show x3 = nI x9.2.2.2 from by rw [ex3, nI_clamp (by omega), hFo 62 (by decide)]; exact hx9.2.2.2]
        refine va_calli (va_runV (As := [.int (nI x9.1), .int (nI x9.2.2.1), .int (nI x9.2.2.2)]) (rest := []) ⟨hx, hb, hml, hown, (fun _ h9 => absurd h9 List.not_mem_nil : ∀ w ∈ ([] : List Cond), w.before _ s = true)⟩ (c_M_isWrong l D cy A X hst hXT Gv o Ar Ij Fj L ft en bo n9 x9.1 x9.2.2.1 x9.2.2.2 (tkS ft en x9.2.1) v9 hM (hB.f hFo) hLS hn30 hbl ((hIo 41 (by decide)).trans h41) (hcl.1 x9 hxm)) (tb_cw (C := RX14) 3 hT tw_1778 tw_109 tw_1775 tw_1777 tw_88 rfl rfl hq_X14_isWrong ⟨Nat.le_of_ble_eq_true rfl, Nat.le_of_ble_eq_true rfl⟩) (mk_preC hst hG hK hA hX hS vc_15 hM.1) rfl rfl hl.1 rfl (lv_room (Nat.le_of_ble_eq_true rfl)) dX14_firstWrong_29 ⟨Nat.le_of_ble_eq_true rfl, Nat.le_of_ble_eq_true rfl⟩) hS (fun q _ h => h) (fun q h => h) (fun r4 G5 t H locs ht hvm hw hB hz1 hk1 hS => ?_)
        have hG : mm D vwCl A G5 H := by rw [← ht]; exact hB
        clear hB hz1 hk1 hvm ht
        obtain ⟨er4, I9, F9, hM2, hF2, hi9, hf9, hg0, hg1⟩ := hw
        replace hF := hF.tr hF2; replace hM := hM2; clear hM2 hF2
        refine lv_if_eq (tgt := 42) hx hb dX14_firstWrong_32 (by decide) (fun c_32 => ?_) (fun c_32 => ?_)
        · skip
          obtain ⟨x6, ex6⟩ : ∃ y : Int32, y = (nI j9) + 1 := ⟨_, rfl⟩
          refine lv_iinc (v := x6) (lv' := [(1, .int x6), (0, .ref o)]) hx hb dX14_firstWrong_42 hl (k := 1) rfl (by rw [ex6]; rfl) (by decide) rfl (fun ls hl => ?_)
          refine lv_goto (tgt := 2) hx hb dX14_firstWrong_45 (by decide) ?_
          rw [show x6 = nI (j9 + 1) by rw [ex6]; exact (nI_succ j9).symm] at hl
          have hnw : wrC v9 x9.1 x9.2.2.1 x9.2.2.2 = false := b2i_f (by rw [← er4]; exact c_32)
          have hpr2 : ∀ j y, j < j9 + 1 → cl[j]? = some y → wrC v9 y.1 y.2.2.1 y.2.2.2 = false := fun j y hj hy => by rcases Nat.lt_or_ge j j9 with u | u; exact hpr j y u hy; rw [show j = j9 by omega, hx9e] at hy; injection hy with hy; rw [← hy]; exact hnw
          exact ih (j9 + 1) I9 F9 (by omega) hpr2 (hg0 (rgC_w hnw) h63) (fun j hj => (hi9 j hj).trans (hIo j hj)) (fun j hj => (hf9 j hj).trans (hFo j hj)) G5 hM hF _ _ hG hS ls (lv_sub hl [1, 0] rfl)
        · skip
          refine lv_aload_n hx hb dX14_firstWrong_35 rfl (lv_at hl 0 rfl) ?_
          refine mm_get (v := .ref (Ar 60)) hx hb hf_X14 (fun _ h9 => h9) hown hK hG hM.1 rfl 60 (by decide) (tb_use hT tw_1451) (fun _ h9 => h9) (mfs_g60 _ _) dX14_firstWrong_36 ?_
          refine lv_iload_n hx hb dX14_firstWrong_39 rfl (lv_at hl 1 rfl) ?_
          refine mm_iald (n := 2000) (f := F9 60) hx hb hK hG 1 (hM.2.1 60 rfl) rfl (nI_in (N := 2000) (by omega) (by decide)) dX14_firstWrong_40 ?_
          refine lv_topi (fun x7 ex7 => ?_)
          have hw9 : wrC v9 x9.1 x9.2.2.1 x9.2.2.2 = true := b2i_t (by rw [← er4]; exact c_32)
          have hA := fw_some hcl hSm hSn hP8 hO8 hx9e hw9 hpr
          have hx60 : x7 = lnc ft (tkS ft en x9.2.1).toNatClampNeg := by rw [ex7, nI_clamp (by omega), hf9 60 (by decide), hFo 60 (by decide)]; exact hx9.2.1
          exact W.iret (v := x7) hx hb hr (fun t ht hW => ⟨⟨_, _, rfl, ⟨I9, F9, hM, hF, (fun j hj => (hi9 j hj).trans (hIo j hj)), (fun j hj => (hf9 j hj).trans (hFo j hj)), (by rw [hA]; dsimp only; rw [if_neg (hSn _)]; exact hx60), (by rw [hA]; intro _; obtain ⟨m, g1, g2⟩ := @tkS_le ft en x9.2.1 (Nat.lt_of_lt_of_le (hcl.2.2.1 x9 hxm).2 hhn); dsimp only; rw [g1, nI_clamp (by omega)]; exact g2), (by rw [hA]; intro z; exact hg0 z h63), (by rw [hA]; exact hg1)⟩, mk_end hG ht⟩, hS.F ht⟩) hS.2.2 dX14_firstWrong_41
  refine lv_iconst (v := 0) hx hb dX14_firstWrong_0 (by decide) ?_
  refine lv_istore_n (lv' := [(1, .int 0), (0, .ref o)]) hx hb dX14_firstWrong_1 rfl hl (by decide) rfl (fun ls hl => ?_)
  exact hlp cl.length 0 Iv F (by omega) (fun j y hj => absurd hj (Nat.not_lt_zero j)) h63 (fun _ _ => rfl) (fun _ _ => rfl) G hM hF _ _ hG hS ls (lv_sub hl [1, 0] rfl)
