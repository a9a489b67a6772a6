theorem lnc_pos {f : Nat → Int32} : ∀ {n : Nat}, n < 2 ^ 30 → ∃ m : Nat, m ≤ n ∧ lnc f n = nI (m + 1) := by
  intro n
  induction n with
  | zero => intro _; exact ⟨0, Nat.le_refl _, rfl⟩
  | succ n ih =>
    intro h
    obtain ⟨m, h1, h2⟩ := ih (by omega)
    rw [lnc]
    split
    · exact ⟨m + 1, by omega, by rw [h2]; exact nI_1 (m + 1)⟩
    · exact ⟨m, by omega, h2⟩
theorem lnc_gt {f : Nat → Int32} {n : Nat} (h : n < 2 ^ 30) : ¬ lnc f n ≤ 0 := by
  obtain ⟨m, h1, h2⟩ := @lnc_pos f n h
  rw [h2]
  exact fun y => absurd y (nI_ge (a := 0) (b := m + 1) (by omega) (by omega))
theorem nI_kx (k b j : Nat) : nI k * (nI (b + 1) - 1) + nI j = nI (k * b + j) := by
  rw [show nI (b + 1) - 1 = nI b from (nI_sb (a := 1) (b := b + 1) (by omega)).trans (by rw [Nat.add_sub_cancel])]
  exact nI_ma k b j
/-- a read that failed -/
def RDx (Iv : Nat → Int32) (F : Nat → Nat → Int32) (bo : Nat) (I2 : Nat → Int32) (F2 : Nat → Nat → Int32) : Prop := (∀ j, ¬ (j = 38 ∨ j = 39) → ¬ (48 ≤ j ∧ j ≤ 58) → ¬ j = 63 → I2 j = Iv j) ∧ I2 38 = 0 ∧ I2 39 = 0 ∧ ∀ j i, ¬ lxA j → ¬ wB bo j i → ¬ j = 64 → F2 j i = F j i
/-- a read that went well, but for what is in use -/
def RDs (Iv : Nat → Int32) (F : Nat → Nat → Int32) (ft : Nat → Int32) (en bo N : Nat) (v : EdV) (I2 : Nat → Int32) (F2 : Nat → Nat → Int32) : Prop := (∀ j, ¬ (38 ≤ j ∧ j ≤ 44) → ¬ (48 ≤ j ∧ j ≤ 58) → ¬ j = 63 → ¬ j = 69 → I2 j = Iv j) ∧ I2 38 = 0 ∧ I2 39 = 0 ∧ I2 41 = nI (1 - bo) ∧ I2 42 = nI bo ∧ I2 43 = 1 ∧ I2 44 = nI (N + 1) ∧ I2 63 = 0 ∧ (∃ n9, n9 < 2 ^ 30 ∧ BK (tkK ft en) (tkV ft en) n9 F2 bo v) ∧ (∀ j i, ¬ lxA j → ¬ wB bo j i → ¬ j = 64 → ¬ j = 45 → ¬ j = 46 → F2 j i = F j i) ∧ (∀ i, F2 45 i = if N < 4 ∧ i = N then nI en else F 45 i) ∧ ∀ i, F2 46 i = if N < 4 ∧ 2000 * N ≤ i ∧ i < 2000 * N + en then F 40 (i - 2000 * N) else F 46 i
theorem RDs.put {Iv : Nat → Int32} {F : Nat → Nat → Int32} {ft : Nat → Int32} {en bo N : Nat} {v : EdV} {I2 : Nat → Int32} {F2 : Nat → Nat → Int32} {x : Int32} (h : RDs Iv F ft en bo N v I2 F2) : RDs Iv F ft en bo N v (upd I2 69 x) F2 := by
  obtain ⟨a1, a2, a3, a4, a5, a6, a7, a8, a9⟩ := h
  exact ⟨fun j h1 h2 h3 h4 => (pk_un h4).trans (a1 j h1 h2 h3 h4), (pk_un (by decide)).trans a2, (pk_un (by decide)).trans a3, (pk_un (by decide)).trans a4, (pk_un (by decide)).trans a5, (pk_un (by decide)).trans a6, (pk_un (by decide)).trans a7, (pk_un (by decide)).trans a8, a9⟩
set_option maxHeartbeats 4000000 in
set_option maxRecDepth 100000 in
theorem c_M_read (l : Launch) (D : va_G) (cy : Nat → ClassId) (A : Nat → Prop) (X : State → Prop) (hst : mk_St A X) (hXT : ∀ U : State, X U → TB U) (G : Nat → Option va_E) (o : Nat) (Az : Nat → Nat) (Iv : Nat → Int32) (F : Nat → Nat → Int32) (L : Nat → Nat → Int64) (ft : Nat → Int32) (en bo N9 : Nat) (hM : MD cy G o Az Iv F L) (hen : en ≤ 2000) (hbl : bo < 2) (h39 : Iv 39 = nI en) (h41 : Iv 41 = nI bo) (h44 : Iv 44 = nI N9) (hN9 : N9 < 2 ^ 20) (htx : ∀ i, i < en → chr (F 40 i) (ft i)) : Met l yX14_read [.code yX14_read cX14_read 4 (some .int)] ({ frames := 11, cells := 0, slots := 0, locals := 330 }) (mk_Pre D vwCl (tyL cy) A X G [.ref o]) (va_Qi (fun (r : Int32) (G2 : Nat → Option va_E) => r = rdA ft en ∧ ∃ (A2 : Nat → Nat) (I2 : Nat → Int32) (F2 : Nat → Nat → Int32) (L2 : Nat → Nat → Int64), A2 = va_up Az 47 (Az 40) ∧ MD cy G2 o A2 I2 F2 L2 ∧ MF G G2 o A2 ∧ (¬ rdP ft en < 0 → RDx Iv F bo I2 F2 ∧ L2 = L ∧ ((rdG ft en).2 = none → I2 63 = 0) ∧ ∀ l9, (rdG ft en).2 = some l9 → RGS (rdV ft en) I2 F2 l9) ∧ (rdP ft en < 0 → ∃ v9, v9 = (rdF ft en).1 ∧ RDs Iv F ft en bo N9 v9 I2 F2 ∧ I2 69 = (if 0 < v9.nL then 1 else 0) ∧ (∀ k, k < 128 → L2 70 k = 0) ∧ ∀ j, ¬ j = 70 → L2 j = L j)) (mk_B D vwCl A) A) 0 0 A := by
  refine Met.ofW (cc := cX14_read) (maxL := 4) (ret := (some .int)) (by decide) rfl ?_
  intro p e s m args below meth c s₁ B hml hv
  obtain ⟨rfl, hG, hK, hA, hX⟩ := hv
  have hx := B.exec
  have hb := B.bytes
  have hr := B.returns
  have hlocks := B.notSynchronized
  have hT := hXT s hX
  have hown : s.vm.findClass RX14 = some m.cls := findClass_of_methodNamed B.named
  have hf_X14 : ∀ w ∈ u_ws RX14 TX14 76, w.before ([.ref o] : List Value).toArray s = true := tb_list hT fX14
  have hS : va_S A s.heap s.heap [] := va_S.rf
  have hl := lv_entry ([.ref o]) (n := 4) (Nat.le_of_ble_eq_true rfl)
  rw [lg_entry_eq]
  generalize (lg_sl ([.ref o]) ++ List.replicate (4 - (lg_sl ([.ref o])).length) Slot.unset).toArray = ls at hl ⊢
  have hl : lv_has ls 4 [(0, .ref o)] := hl
  have hF : MF G G o Az := MF.rf
  have hlw : ∀ (n : Nat) (v9 : EdV) (j9 : Nat) (Ij : Nat → Int32) (Fj : Nat → Nat → Int32) (Lj : Nat → Nat → Int64) (Ar : Nat → Nat), (n + j9 = 128) → (∀ k, k < j9 → Lj 70 k = 0) → (∀ j, ¬ j = 70 → Lj j = L j) → (rdP ft en < 0) → ((rdF ft en).1 = v9) → (RDs Iv F ft en bo N9 v9 Ij Fj) → (Ar = va_up Az 47 (Az 40)) → ∀ (Gv : Nat → Option va_E), (MD cy Gv o Ar Ij Fj Lj) → (MF G Gv o Ar) → ∀ (H : Heap) (locs : List Loc), mm D vwCl A Gv H → va_S A s.heap H locs → ∀ ls : Array Slot, lv_has ls 4 [(0, .ref o), (3, .int (nI j9))] → W p l e (headSpec [.code yX14_read cX14_read 4 (some .int)] ({ frames := 11, cells := 0, slots := 0, locals := 330 })).room s m ([.ref o] : List Value).toArray below meth c H locs 0 0 (MQ below (va_Qi (fun (r : Int32) (G2 : Nat → Option va_E) => r = rdA ft en ∧ ∃ (A2 : Nat → Nat) (I2 : Nat → Int32) (F2 : Nat → Nat → Int32) (L2 : Nat → Nat → Int64), A2 = va_up Az 47 (Az 40) ∧ MD cy G2 o A2 I2 F2 L2 ∧ MF G G2 o A2 ∧ (¬ rdP ft en < 0 → RDx Iv F bo I2 F2 ∧ L2 = L ∧ ((rdG ft en).2 = none → I2 63 = 0) ∧ ∀ l9, (rdG ft en).2 = some l9 → RGS (rdV ft en) I2 F2 l9) ∧ (rdP ft en < 0 → ∃ v9, v9 = (rdF ft en).1 ∧ RDs Iv F ft en bo N9 v9 I2 F2 ∧ I2 69 = (if 0 < v9.nL then 1 else 0) ∧ (∀ k, k < 128 → L2 70 k = 0) ∧ ∀ j, ¬ j = 70 → L2 j = L j)) (mk_B D vwCl A) A) ([.ref o] : List Value).toArray s 0 0 A) (F0 m 142 ls []) := by
    intro n
    induction n with
    | zero =>
      intro v9 j9 Ij Fj Lj Ar hjn hL0 hLn hzP hv9 hk9 hAr Gv hM hF H locs hG hS ls hl
      obtain ⟨n7, hn7, hB7⟩ := hk9.2.2.2.2.2.2.2.2.1
      have hs16 := hB7.2.2.1.2.1
      have hl6 := hB7.2.1.2.1
      have h42 : Ij 42 = nI bo := hk9.2.2.2.2.1
      refine lv_iload_n hx hb dX14_read_142 rfl (lv_at hl 1 rfl) ?_
      refine lv_sipush (v := 128) hx hb dX14_read_143 (by decide) ?_
      refine lv_icmp_ge (tgt := 162) hx hb dX14_read_146 (by decide) (fun c_146 => ?_) (fun c_146 => ?_)
      · skip
        refine lv_aload_n hx hb dX14_read_162 rfl (lv_at hl 0 rfl) ?_
        refine lv_aload_n hx hb dX14_read_163 rfl (lv_at hl 0 rfl) ?_
        refine mm_get (v := .ref (Ar 2)) hx hb hf_X14 (fun _ h9 => h9) hown hK hG hM.1 rfl 2 (by decide) (tb_use hT tw_1393) (fun _ h9 => h9) (mfs_g2 _ _) dX14_read_164 ?_
        refine lv_aload_n hx hb dX14_read_167 rfl (lv_at hl 0 rfl) ?_
        refine mm_get (v := .int (Ij 42)) hx hb hf_X14 (fun _ h9 => h9) hown hK hG hM.1 rfl 42 (by decide) (tb_use hT tw_1433) (fun _ h9 => h9) (mfs_g42 _ _) dX14_read_168 ?_
        rw [h42]
        refine mm_iald (n := 2) (f := Fj 2) hx hb hK hG 1 (hM.2.1 2 rfl) rfl (nI_in (N := 2) hbl (by decide)) dX14_read_171 ?_
        refine lv_topi (fun x1 ex1 => ?_)
        have hxl : x1 = nI v9.nL := by rw [ex1, nI_clamp (by omega)]; exact hB7.2.1.1
        refine lv_if_le (tgt := 179) hx hb dX14_read_172 (by decide) (fun c_172 => ?_) (fun c_172 => ?_)
        · skip
          refine lv_iconst (v := 0) hx hb dX14_read_179 (by decide) ?_
          refine mm_put (v := .int 0) (ty := .int) hx hb hf_X14 (fun _ h9 => h9) tyX14 tyX14_ok nmX14 hown hK hG hS hM.1 rfl 69 (by decide) (tb_use hT tw_1460) (fun _ h9 => h9) rfl (by decide +kernel) rfl rfl (mfs_l69 _ _) dX14_read_180 (fun H locs hG hS => ?_)
          have hM := MD.puti (k := 69) (v := 0) hM (mfs_s69 _ _ _)
          have hF := hF.wo (e' := .inr (15, (mfs Ar Ij).set 69 (.int 0)))
          obtain ⟨I2, eI2⟩ : ∃ g, g = upd Ij 69 0 := ⟨_, rfl⟩
          rw [← eI2] at hM
          have hgn := gn_MD hG hM hF
          clear hG hM hF
          obtain ⟨G3, hG, hM, hF⟩ := hgn
          refine lv_aload_n hx hb dX14_read_183 rfl (lv_at hl 0 rfl) ?_
          refine mm_get (v := .ref (Ar 3)) hx hb hf_X14 (fun _ h9 => h9) hown hK hG hM.1 rfl 3 (by decide) (tb_use hT tw_1394) (fun _ h9 => h9) (mfs_g3 _ _) dX14_read_184 ?_
          refine lv_aload_n hx hb dX14_read_187 rfl (lv_at hl 0 rfl) ?_
          refine mm_get (v := .int (Ij 42)) hx hb hf_X14 (fun _ h9 => h9) hown hK hG hM.1 rfl 42 (by decide) (tb_use hT tw_1433) (fun _ h9 => h9) (by rw [mfs_g42, eI2] <;> rfl) dX14_read_188 ?_
          rw [h42]
          refine mm_iald (n := 2) (f := Fj 3) hx hb hK hG 1 (hM.2.1 3 rfl) rfl (nI_in (N := 2) hbl (by decide)) dX14_read_191 ?_
          refine lv_topi (fun x4 ex4 => ?_)
          have hxs : x4 = nI v9.nS := by rw [ex4, nI_clamp (by omega)]; exact hB7.2.2.1.1
          have hans : x4 = rdA ft en := by unfold rdA rdV; rw [if_pos hzP, hv9]; exact hxs
          have huse : (0 : Int32) = (if 0 < v9.nL then 1 else 0) := by
            rw [if_neg (fun y => absurd c_172 (by rw [hxl]; exact nI_ge (a := 0) (b := v9.nL) y (by omega)))]
          exact W.iret (v := x4) hx hb hr (fun t ht hW => ⟨⟨_, _, rfl, ⟨hans, Ar, I2, Fj, Lj, hAr, hM, hF, (fun z => absurd hzP z), (fun _ => ⟨v9, hv9.symm, (by rw [eI2]; exact hk9.put), (by rw [eI2, pk_us]; exact huse), (fun k hk => hL0 k (by omega)), hLn⟩)⟩, mk_end hG ht⟩, hS.F ht⟩) hS.2.2 dX14_read_192
        · skip
          refine lv_iconst (v := 1) hx hb dX14_read_175 (by decide) ?_
          refine lv_goto (tgt := 180) hx hb dX14_read_176 (by decide) ?_
          refine mm_put (v := .int 1) (ty := .int) hx hb hf_X14 (fun _ h9 => h9) tyX14 tyX14_ok nmX14 hown hK hG hS hM.1 rfl 69 (by decide) (tb_use hT tw_1460) (fun _ h9 => h9) rfl (by decide +kernel) rfl rfl (mfs_l69 _ _) dX14_read_180 (fun H locs hG hS => ?_)
          have hM := MD.puti (k := 69) (v := 1) hM (mfs_s69 _ _ _)
          have hF := hF.wo (e' := .inr (15, (mfs Ar Ij).set 69 (.int 1)))
          obtain ⟨I5, eI5⟩ : ∃ g, g = upd Ij 69 1 := ⟨_, rfl⟩
          rw [← eI5] at hM
          have hgn := gn_MD hG hM hF
          clear hG hM hF
          obtain ⟨G6, hG, hM, hF⟩ := hgn
          refine lv_aload_n hx hb dX14_read_183 rfl (lv_at hl 0 rfl) ?_
          refine mm_get (v := .ref (Ar 3)) hx hb hf_X14 (fun _ h9 => h9) hown hK hG hM.1 rfl 3 (by decide) (tb_use hT tw_1394) (fun _ h9 => h9) (mfs_g3 _ _) dX14_read_184 ?_
          refine lv_aload_n hx hb dX14_read_187 rfl (lv_at hl 0 rfl) ?_
          refine mm_get (v := .int (Ij 42)) hx hb hf_X14 (fun _ h9 => h9) hown hK hG hM.1 rfl 42 (by decide) (tb_use hT tw_1433) (fun _ h9 => h9) (by rw [mfs_g42, eI5] <;> rfl) dX14_read_188 ?_
          rw [h42]
          refine mm_iald (n := 2) (f := Fj 3) hx hb hK hG 1 (hM.2.1 3 rfl) rfl (nI_in (N := 2) hbl (by decide)) dX14_read_191 ?_
          refine lv_topi (fun x7 ex7 => ?_)
          have hxs : x7 = nI v9.nS := by rw [ex7, nI_clamp (by omega)]; exact hB7.2.2.1.1
          have hans : x7 = rdA ft en := by unfold rdA rdV; rw [if_pos hzP, hv9]; exact hxs
          have huse : (1 : Int32) = (if 0 < v9.nL then 1 else 0) := by
            rw [if_pos (show 0 < v9.nL from Nat.pos_of_ne_zero (fun y => c_172 (by rw [hxl, y]; exact Int32.le_refl 0)))]
          exact W.iret (v := x7) hx hb hr (fun t ht hW => ⟨⟨_, _, rfl, ⟨hans, Ar, I5, Fj, Lj, hAr, hM, hF, (fun z => absurd hzP z), (fun _ => ⟨v9, hv9.symm, (by rw [eI5]; exact hk9.put), (by rw [eI5, pk_us]; exact huse), (fun k hk => hL0 k (by omega)), hLn⟩)⟩, mk_end hG ht⟩, hS.F ht⟩) hS.2.2 dX14_read_192
      · skip
        exact absurd (by rw [show j9 = 128 by omega]; decide) c_146
    | succ n ih =>
      intro v9 j9 Ij Fj Lj Ar hjn hL0 hLn hzP hv9 hk9 hAr Gv hM hF H locs hG hS ls hl
      refine lv_iload_n hx hb dX14_read_142 rfl (lv_at hl 1 rfl) ?_
      refine lv_sipush (v := 128) hx hb dX14_read_143 (by decide) ?_
      refine lv_icmp_ge (tgt := 162) hx hb dX14_read_146 (by decide) (fun c_146 => ?_) (fun c_146 => ?_)
      · skip
        exact absurd c_146 (nI_ge (a := j9) (b := 128) (by omega) (by decide))
      · skip
        refine lv_aload_n hx hb dX14_read_149 rfl (lv_at hl 0 rfl) ?_
        refine mm_get (v := .ref (Ar 70)) hx hb hf_X14 (fun _ h9 => h9) hown hK hG hM.1 rfl 70 (by decide) (tb_use hT tw_1461) (fun _ h9 => h9) (mfs_g70 _ _) dX14_read_150 ?_
        refine lv_iload_n hx hb dX14_read_153 rfl (lv_at hl 1 rfl) ?_
        refine lv_lconst (v := 0) hx hb dX14_read_154 (by decide) ?_
        refine mm_last (n := mdN 70) (f := Lj 70) hx hb hK hG hS 2 (hM.2.2.1 70 rfl) rfl (nI_in (N := mdN 70) (by show _ < 128; omega) (by decide)) dX14_read_155 (fun H locs hG hS => ?_)
        have hM := MD.setj (k := 70) (vp_updL (Lj 70) (nI j9).toNatClampNeg 0) hM rfl
        have hF := hF.wa (k := 70) (e' := .inl (cy 2, mdN 70, .inr (.inl (vp_updL (Lj 70) (nI j9).toNatClampNeg 0)))) rfl
        obtain ⟨L8, eL8⟩ : ∃ g, g = va_up Lj 70 (vp_updL (Lj 70) (nI j9).toNatClampNeg 0) := ⟨_, rfl⟩
        rw [← eL8] at hM
        have hgn := gn_MD hG hM hF
        clear hG hM hF
        obtain ⟨G9, hG, hM, hF⟩ := hgn
        obtain ⟨x10, ex10⟩ : ∃ y : Int32, y = (nI j9) + 1 := ⟨_, rfl⟩
        refine lv_iinc (v := x10) (lv' := [(3, .int x10), (0, .ref o)]) hx hb dX14_read_156 hl (k := 1) rfl (by rw [ex10]; rfl) (by decide) rfl (fun ls hl => ?_)
        refine lv_goto (tgt := 142) hx hb dX14_read_159 (by decide) ?_
        rw [show x10 = nI (j9 + 1) by rw [ex10]; exact (nI_succ j9).symm] at hl
        have hL02 : ∀ k, k < j9 + 1 → L8 70 k = 0 := fun k hk => by rw [eL8, va_up_self, nI_clamp (by omega)]; unfold vp_updL; split; rfl; exact hL0 k (by omega)
        exact ih v9 (j9 + 1) Ij Fj L8 Ar (by omega) hL02 (fun j hj => by rw [eL8, va_up_ne _ _ hj]; exact hLn j hj) hzP hv9 hk9 hAr G9 hM hF _ _ hG hS ls (lv_sub hl [1, 0] rfl)
  refine lv_aload_n hx hb dX14_read_0 rfl (lv_at hl 0 rfl) ?_
  refine lv_iconst (v := 0) hx hb dX14_read_1 (by decide) ?_
  refine mm_put (v := .int 0) (ty := .int) hx hb hf_X14 (fun _ h9 => h9) tyX14 tyX14_ok nmX14 hown hK hG hS hM.1 rfl 38 (by decide) (tb_use hT tw_1429) (fun _ h9 => h9) rfl (by decide +kernel) rfl rfl (mfs_l38 _ _) dX14_read_2 (fun H locs hG hS => ?_)
  have hM := MD.puti (k := 38) (v := 0) hM (mfs_s38 _ _ _)
  have hF := hF.wo (e' := .inr (15, (mfs Az Iv).set 38 (.int 0)))
  obtain ⟨I11, eI11⟩ : ∃ g, g = upd Iv 38 0 := ⟨_, rfl⟩
  rw [← eI11] at hM
  have hgn := gn_MD hG hM hF
  clear hG hM hF
  obtain ⟨G12, hG, hM, hF⟩ := hgn
  refine lv_aload_n hx hb dX14_read_5 rfl (lv_at hl 0 rfl) ?_
  refine lv_iconst (v := 0) hx hb dX14_read_6 (by decide) ?_
  refine mm_put (v := .int 0) (ty := .int) hx hb hf_X14 (fun _ h9 => h9) tyX14 tyX14_ok nmX14 hown hK hG hS hM.1 rfl 63 (by decide) (tb_use hT tw_1454) (fun _ h9 => h9) rfl (by decide +kernel) rfl rfl (mfs_l63 _ _) dX14_read_7 (fun H locs hG hS => ?_)
  have hM := MD.puti (k := 63) (v := 0) hM (mfs_s63 _ _ _)
  have hF := hF.wo (e' := .inr (15, (mfs Az I11).set 63 (.int 0)))
  obtain ⟨I13, eI13⟩ : ∃ g, g = upd I11 63 0 := ⟨_, rfl⟩
  rw [← eI13] at hM
  have hgn := gn_MD hG hM hF
  clear hG hM hF
  obtain ⟨G14, hG, hM, hF⟩ := hgn
  refine lv_aload_n hx hb dX14_read_10 rfl (lv_at hl 0 rfl) ?_
  refine mm_get (v := .int (Iv 39)) hx hb hf_X14 (fun _ h9 => h9) hown hK hG hM.1 rfl 39 (by decide) (tb_use hT tw_1430) (fun _ h9 => h9) (by rw [mfs_g39, eI13, eI11] <;> rfl) dX14_read_11 ?_
  rw [h39]
  refine lv_istore_n (lv' := [(1, .int (nI en)), (0, .ref o)]) hx hb dX14_read_14 rfl hl (by decide) rfl (fun ls hl => ?_)
  refine lv_aload_n hx hb dX14_read_15 rfl (lv_at hl 1 rfl) ?_
  refine lv_iconst (v := 0) hx hb dX14_read_16 (by decide) ?_
  refine mm_put (v := .int 0) (ty := .int) hx hb hf_X14 (fun _ h9 => h9) tyX14 tyX14_ok nmX14 hown hK hG hS hM.1 rfl 39 (by decide) (tb_use hT tw_1430) (fun _ h9 => h9) rfl (by decide +kernel) rfl rfl (mfs_l39 _ _) dX14_read_17 (fun H locs hG hS => ?_)
  have hM := MD.puti (k := 39) (v := 0) hM (mfs_s39 _ _ _)
  have hF := hF.wo (e' := .inr (15, (mfs Az I13).set 39 (.int 0)))
  obtain ⟨I15, eI15⟩ : ∃ g, g = upd I13 39 0 := ⟨_, rfl⟩
  rw [← eI15] at hM
  have hgn := gn_MD hG hM hF
  clear hG hM hF
  obtain ⟨G16, hG, hM, hF⟩ := hgn
  refine lv_aload_n hx hb dX14_read_20 rfl (lv_at hl 1 rfl) ?_
  refine lv_aload_n hx hb dX14_read_21 rfl (lv_at hl 1 rfl) ?_
  refine mm_get (v := .ref (Az 40)) hx hb hf_X14 (fun _ h9 => h9) hown hK hG hM.1 rfl 40 (by decide) (tb_use hT tw_1431) (fun _ h9 => h9) (mfs_g40 _ _) dX14_read_22 ?_
  refine lv_iconst (v := 0) hx hb dX14_read_25 (by decide) ?_
  refine lv_iload_n hx hb dX14_read_26 rfl (lv_at hl 0 rfl) ?_
  refine va_calli (va_runV (As := [.ref (Az 40), .int 0, .int (nI en)]) (rest := []) ⟨hx, hb, hml, hown, (fun _ h9 => absurd h9 List.not_mem_nil : ∀ w ∈ ([] : List Cond), w.before _ s = true)⟩ (c_M_readInto l D cy A X hst hXT G16 o Az I15 F L ft 40 0 en bo (Az 40) hM rfl (Or.inl rfl) (by show 0 + en ≤ 2000; omega) hen hbl (by rw [eI15, eI13, eI11]; exact h41) (fun i hi => by rw [Nat.zero_add]; exact htx i hi)) (tb_cw (C := RX14) 3 hT tw_1632 tw_109 tw_1629 tw_1631 tw_60 rfl rfl hq_X14_readInto ⟨Nat.le_of_ble_eq_true rfl, Nat.le_of_ble_eq_true rfl⟩) (mk_preC hst hG hK hA hX hS vc_15 hM.1) rfl rfl hl.1 rfl (lv_room (Nat.le_of_ble_eq_true rfl)) dX14_read_27 ⟨Nat.le_of_ble_eq_true rfl, Nat.le_of_ble_eq_true rfl⟩) hS (fun q _ h => h) (fun q h => h) (fun r17 G18 t H locs ht hvm hw hB hz1 hk1 hS => ?_)
  have hG : mm D vwCl A G18 H := by rw [← ht]; exact hB
  clear hB hz1 hk1 hvm ht
  rw [show q_fill (tkK ft en) (tkS ft en) (tkV ft en) (tkN ft en) EdV.nil (0, -1) = rdF ft en from rfl] at hw
  obtain ⟨RP, eRP⟩ : ∃ y, rdF ft en = y := ⟨_, rfl⟩
  rw [eRP] at hw
  obtain ⟨Ar, I9, F9, cl9, hAr, hM2, hF2, hQ, hIZ, hFr, hs9, hf9⟩ := hw
  replace hF := (hF.ar (Ar2 := Ar) (fun k hk => by rw [hAr]; exact va_up_ne _ _ (fun z => by rw [z] at hk; exact absurd hk (by decide)))).tr hF2; replace hM := hM2; clear hM2 hF2
  have hI9 : ∀ j, ¬ (j = 38 ∨ j = 39) → ¬ (48 ≤ j ∧ j ≤ 58) → ¬ j = 63 → I9 j = Iv j := fun j h1 h2 h3 => by rw [IZe hIZ (by omega), pk_un (by omega), pk_un (by omega), eI15, pk_un (by omega), eI13, pk_un (by omega), eI11, pk_un (by omega)]
  have h9_38 : I9 38 = 0 := by rw [IZe hIZ (by decide), pk_un (by decide), pk_un (by decide)]; rw [eI15, eI13, eI11]; rfl
  have h9_39 : I9 39 = 0 := by rw [IZe hIZ (by decide), pk_un (by decide), pk_un (by decide)]; rw [eI15, eI13, eI11]; rfl
  have h9_63 : I9 63 = 0 := by rw [IZe hIZ (by decide), pk_un (by decide), pk_un (by decide)]; rw [eI15, eI13, eI11]; rfl
  have hq1 := hQ.2.1
  refine lv_istore_n (lv' := [(2, .int r17), (1, .int (nI en)), (0, .ref o)]) hx hb dX14_read_30 rfl hl (by decide) rfl (fun ls hl => ?_)
  refine lv_iload_n hx hb dX14_read_31 rfl (lv_at hl 0 rfl) ?_
  refine lv_if_le (tgt := 39) hx hb dX14_read_32 (by decide) (fun c_32 => ?_) (fun c_32 => ?_)
  · skip
    refine lv_aload_n hx hb dX14_read_39 rfl (lv_at hl 2 rfl) ?_
    have hgd : RP.2.2 < 0 := by refine Classical.byContradiction (fun z => ?_); obtain ⟨x9, g1, g2, g3⟩ := hQ.2.2.2.1; have y := hf9 z; rw [y] at c_32; exact lnc_gt (by rw [g2, nI_clamp (by omega)]; omega) c_32
    obtain ⟨hr0, hB0, hcl0, hC0⟩ := hs9 hgd
    have hcl9 : CLn (tkS ft en) (PK RP.1) 0 RP.2.1 cl9 := by rw [hcl0]; exact clFi_n (fun p => tkS_ge hen p) (fun p hp => tkV_ne hp) (show q_fill (tkK ft en) (tkS ft en) (tkV ft en) (tkN ft en) EdV.nil (0, -1) = RP from eRP) hgd (CLn.nil (fun k a b p => PK_nil))
    have hLS : LSv RP.1 := by rw [← eRP]; exact rdV_ls
    refine va_calli (va_runV (As := []) (rest := []) ⟨hx, hb, hml, hown, (fun _ h9 => absurd h9 List.not_mem_nil : ∀ w ∈ ([] : List Cond), w.before _ s = true)⟩ (c_M_firstWrong l D cy A X hst hXT G18 o Ar I9 F9 L ft en bo (RP.2.1 + 1) (RP.2.1 + 1) RP.2.1 cl9 RP.1 hM hB0 hLS (by omega) hbl ((hI9 41 (by decide) (by decide) (by decide)).trans h41) hC0 (by omega) hcl9 (Nat.le_of_lt hq1.1) hen h9_63) (tb_cw (C := RX14) 0 hT tw_1774 tw_109 tw_1771 tw_1773 tw_87 rfl rfl hq_X14_firstWrong ⟨Nat.le_of_ble_eq_true rfl, Nat.le_of_ble_eq_true rfl⟩) (mk_preC hst hG hK hA hX hS vc_15 hM.1) rfl rfl hl.1 rfl (lv_room (Nat.le_of_ble_eq_true rfl)) dX14_read_40 ⟨Nat.le_of_ble_eq_true rfl, Nat.le_of_ble_eq_true rfl⟩) hS (fun q _ h => h) (fun q h => h) (fun r19 G20 t H locs ht hvm hw hB hz1 hk1 hS => ?_)
    have hG : mm D vwCl A G20 H := by rw [← ht]; exact hB
    clear hB hz1 hk1 hvm ht
    obtain ⟨RM, eRM⟩ : ∃ y, mAll RP.1 (-1, none) = y := ⟨_, rfl⟩
    rw [eRM] at hw
    have hrG : rdG ft en = RM := by unfold rdG rdV; rw [eRP, if_pos hgd]; exact eRM
    have hrP : rdP ft en = RM.1 := by unfold rdP; rw [eRP, if_pos hgd, hrG]
    obtain ⟨I8, F8, hM2, hF2, hi8, hf8, er19, hle8, hg80, hg81⟩ := hw
    replace hF := hF.tr hF2; replace hM := hM2; clear hM2 hF2
    have hI8 : ∀ j, ¬ (j = 38 ∨ j = 39) → ¬ (48 ≤ j ∧ j ≤ 58) → ¬ j = 63 → I8 j = Iv j := fun j h1 h2 h3 => (hi8 j h3).trans (hI9 j h1 h2 h3)
    have h8_38 : I8 38 = 0 := (hi8 38 (by decide)).trans h9_38
    have h8_39 : I8 39 = 0 := (hi8 39 (by decide)).trans h9_39
    have hFr8 : ∀ j i, ¬ lxA j → ¬ wB bo j i → ¬ j = 64 → F8 j i = F j i := fun j i h1 h2 h3 => by rw [hf8 j h3]; exact hFr j i h1 h2
    refine lv_istore_n (lv' := [(2, .int r19), (1, .int (nI en)), (0, .ref o)]) hx hb dX14_read_43 rfl hl (by decide) rfl (fun ls hl => ?_)
    refine lv_iload_n hx hb dX14_read_44 rfl (lv_at hl 0 rfl) ?_
    refine lv_if_le (tgt := 51) hx hb dX14_read_45 (by decide) (fun c_45 => ?_) (fun c_45 => ?_)
    · skip
      have hz9 : RM.1 < 0 := by refine Classical.byContradiction (fun z => ?_); rw [er19, if_neg z] at c_45; exact lnc_gt (Nat.lt_of_le_of_lt (hle8 z) (by omega)) c_45
      have hrv : RM.2 = none := by
        have hN9 : ∀ k a b p, PK RP.1 k a b p → ¬ p < 0 := fun k a b p z => by obtain ⟨t, -, e⟩ := hcl9.2.1 k a b p z; rw [e]; exact tkS_ge hen t
        have y := (mAll_mn hN9 (fun s hs => (hB0.2.2.1.2.2 s hs).2.2.2.2.1) (fun j hj => (hB0.2.2.2.2.2.2.2 j hj).2.2.1) (w := (-1, none))).1
        rw [eRM] at y
        rcases y with y | ⟨k, a, b, y, -, -⟩
        · rw [y]
        · exact absurd hz9 (hN9 k a b _ y)
      have h8_63 : I8 63 = 0 := hg80 hrv
      have h8_41 : I8 41 = nI bo := (hI8 41 (by decide) (by decide) (by decide)).trans h41
      have h8_44 : I8 44 = nI N9 := (hI8 44 (by decide) (by decide) (by decide)).trans h44
      have hB8 : BK (tkK ft en) (tkV ft en) (RP.2.1 + 1) F8 bo RP.1 := hB0.f hf8
      refine lv_aload_n hx hb dX14_read_51 rfl (lv_at hl 2 rfl) ?_
      refine lv_aload_n hx hb dX14_read_52 rfl (lv_at hl 2 rfl) ?_
      refine mm_get (v := .int (I8 41)) hx hb hf_X14 (fun _ h9 => h9) hown hK hG hM.1 rfl 41 (by decide) (tb_use hT tw_1432) (fun _ h9 => h9) (mfs_g41 _ _) dX14_read_53 ?_
      rw [show (I8 41) = (nI bo) from h8_41]
      refine lv_topi (fun x21 ex21 => ?_)
      refine mm_put (v := .int x21) (ty := .int) hx hb hf_X14 (fun _ h9 => h9) tyX14 tyX14_ok nmX14 hown hK hG hS hM.1 rfl 42 (by decide) (tb_use hT tw_1433) (fun _ h9 => h9) rfl (by decide +kernel) rfl rfl (mfs_l42 _ _) dX14_read_56 (fun H locs hG hS => ?_)
      have hM := MD.puti (k := 42) (v := x21) hM (mfs_s42 _ _ _)
      have hF := hF.wo (e' := .inr (15, (mfs Ar I8).set 42 (.int x21)))
      obtain ⟨I22, eI22⟩ : ∃ g, g = upd I8 42 x21 := ⟨_, rfl⟩
      rw [← eI22] at hM
      have hgn := gn_MD hG hM hF
      clear hG hM hF
      obtain ⟨G23, hG, hM, hF⟩ := hgn
      refine lv_aload_n hx hb dX14_read_59 rfl (lv_at hl 2 rfl) ?_
      refine lv_iconst (v := 1) hx hb dX14_read_60 (by decide) ?_
      refine lv_aload_n hx hb dX14_read_61 rfl (lv_at hl 2 rfl) ?_
      refine mm_get (v := .int x21) hx hb hf_X14 (fun _ h9 => h9) hown hK hG hM.1 rfl 42 (by decide) (tb_use hT tw_1433) (fun _ h9 => h9) (by rw [mfs_g42, eI22] <;> rfl) dX14_read_62 ?_
      refine lv_isub hx hb dX14_read_65 ?_
      refine lv_topi (fun x24 ex24 => ?_)
      refine mm_put (v := .int x24) (ty := .int) hx hb hf_X14 (fun _ h9 => h9) tyX14 tyX14_ok nmX14 hown hK hG hS hM.1 rfl 41 (by decide) (tb_use hT tw_1432) (fun _ h9 => h9) rfl (by decide +kernel) rfl rfl (mfs_l41 _ _) dX14_read_66 (fun H locs hG hS => ?_)
      have hM := MD.puti (k := 41) (v := x24) hM (mfs_s41 _ _ _)
      have hF := hF.wo (e' := .inr (15, (mfs Ar I22).set 41 (.int x24)))
      obtain ⟨I25, eI25⟩ : ∃ g, g = upd I22 41 x24 := ⟨_, rfl⟩
      rw [← eI25] at hM
      have hgn := gn_MD hG hM hF
      clear hG hM hF
      obtain ⟨G26, hG, hM, hF⟩ := hgn
      refine lv_aload_n hx hb dX14_read_69 rfl (lv_at hl 2 rfl) ?_
      refine lv_iconst (v := 1) hx hb dX14_read_70 (by decide) ?_
      refine mm_put (v := .int 1) (ty := .boolean) hx hb hf_X14 (fun _ h9 => h9) tyX14 tyX14_ok nmX14 hown hK hG hS hM.1 rfl 43 (by decide) (tb_use hT tw_1434) (fun _ h9 => h9) rfl (by decide +kernel) rfl rfl (mfs_l43 _ _) dX14_read_71 (fun H locs hG hS => ?_)
      have hM := MD.puti (k := 43) (v := 1) hM (mfs_s43 _ _ _)
      have hF := hF.wo (e' := .inr (15, (mfs Ar I25).set 43 (.int 1)))
      obtain ⟨I27, eI27⟩ : ∃ g, g = upd I25 43 1 := ⟨_, rfl⟩
      rw [← eI27] at hM
      have hgn := gn_MD hG hM hF
      clear hG hM hF
      obtain ⟨G28, hG, hM, hF⟩ := hgn
      refine lv_aload_n hx hb dX14_read_74 rfl (lv_at hl 2 rfl) ?_
      refine lv_dup hx hb dX14_read_75 rfl ?_
      refine mm_get (v := .int (I8 44)) hx hb hf_X14 (fun _ h9 => h9) hown hK hG hM.1 rfl 44 (by decide) (tb_use hT tw_1435) (fun _ h9 => h9) (by rw [mfs_g44, eI27, eI25, eI22] <;> rfl) dX14_read_76 ?_
      refine lv_iconst (v := 1) hx hb dX14_read_79 (by decide) ?_
      refine lv_iadd hx hb dX14_read_80 ?_
      refine lv_topi (fun x29 ex29 => ?_)
      refine mm_put (v := .int x29) (ty := .int) hx hb hf_X14 (fun _ h9 => h9) tyX14 tyX14_ok nmX14 hown hK hG hS hM.1 rfl 44 (by decide) (tb_use hT tw_1435) (fun _ h9 => h9) rfl (by decide +kernel) rfl rfl (mfs_l44 _ _) dX14_read_81 (fun H locs hG hS => ?_)
      have hM := MD.puti (k := 44) (v := x29) hM (mfs_s44 _ _ _)
      have hF := hF.wo (e' := .inr (15, (mfs Ar I27).set 44 (.int x29)))
      obtain ⟨I30, eI30⟩ : ∃ g, g = upd I27 44 x29 := ⟨_, rfl⟩
      rw [← eI30] at hM
      have hgn := gn_MD hG hM hF
      clear hG hM hF
      obtain ⟨G31, hG, hM, hF⟩ := hgn
      have hzP : rdP ft en < 0 := by rw [hrP]; exact hz9
      have eRP1 : (rdF ft en).1 = RP.1 := by rw [eRP]
      have h42 : I30 42 = nI bo := by rw [eI30, eI27, eI25, eI22]; show x21 = _; rw [ex21]
      have h41b : I30 41 = nI (1 - bo) := by rw [eI30, eI27, eI25, eI22]; show x24 = _; rw [ex24, ex21]; exact nI_sb (a := bo) (b := 1) (by omega)
      have h43 : I30 43 = 1 := by rw [eI30, eI27, eI25, eI22]; show 1 = _; first | rfl | rw [e1]
      have h44b : I30 44 = nI (N9 + 1) := by rw [eI30, eI27, eI25, eI22]; show x29 = _; rw [ex29, h8_44]; exact nI_1 N9
      have hIo : ∀ j, ¬ (41 ≤ j ∧ j ≤ 44) → I30 j = I8 j := fun j hj => by rw [eI30, pk_un (by omega), eI27, pk_un (by omega), eI25, pk_un (by omega), eI22, pk_un (by omega)]
      obtain ⟨I7, eI7⟩ : ∃ y, y = I30 := ⟨_, rfl⟩
      rw [← eI7] at hM h42 h41b h43 h44b hIo
      have hsc : ∀ F7 : Nat → Nat → Int32, (∀ j, ¬ j = 45 → ¬ j = 46 → F7 j = F8 j) → (∀ i, F7 45 i = if N9 < 4 ∧ i = N9 then nI en else F 45 i) → (∀ i, F7 46 i = if N9 < 4 ∧ 2000 * N9 ≤ i ∧ i < 2000 * N9 + en then F 40 (i - 2000 * N9) else F 46 i) → RDs Iv F ft en bo N9 RP.1 I7 F7 := fun F7 g1 g2 g3 => ⟨fun j h1 h2 h3 h4 => (hIo j (by omega)).trans (hI8 j (by omega) h2 h3), (hIo 38 (by decide)).trans h8_38, (hIo 39 (by decide)).trans h8_39, h41b, h42, h43, h44b, (hIo 63 (by decide)).trans h8_63, ⟨RP.2.1 + 1, by omega, ⟨hB8.1.mv (Nat.le_refl _) (fun k i hk => by rw [g1 k (by omega) (by omega)]) rfl rfl rfl rfl, hB8.2.1.mv (Nat.le_refl _) (fun k i hk => by rw [g1 k (by omega) (by omega)]) rfl rfl, hB8.2.2.1.mv (Nat.le_refl _) (fun k i hk => by rw [g1 k (by omega) (by omega)]) rfl rfl rfl rfl, hB8.2.2.2.1.mv (Nat.le_refl _) (fun k i hk => by rw [g1 k (by omega) (by omega)]) rfl rfl, hB8.2.2.2.2.1.mv (Nat.le_refl _) (fun k i hk => by rw [g1 k (by omega) (by omega)]) rfl rfl, hB8.2.2.2.2.2.mv (Nat.le_refl _) (fun k i hk => by rw [g1 k (by omega) (by omega)]) rfl rfl rfl rfl⟩⟩, fun j i h1 h2 h3 h4 h5 => by rw [g1 j h4 h5]; exact hFr8 j i h1 h2 h3, g2, g3⟩
      have h8_45 : ∀ i, F8 45 i = F 45 i := fun i => hFr8 45 i (by unfold lxA; omega) (by unfold wB; omega) (by decide)
      have h8_46 : ∀ i, F8 46 i = F 46 i := fun i => hFr8 46 i (by unfold lxA; omega) (by unfold wB; omega) (by decide)
      have h8_40 : ∀ i, F8 40 i = F 40 i := fun i => hFr8 40 i (by unfold lxA; omega) (by unfold wB; omega) (by decide)
      refine lv_aload_n hx hb dX14_read_84 rfl (lv_at hl 2 rfl) ?_
      refine mm_get (v := .int (I7 44)) hx hb hf_X14 (fun _ h9 => h9) hown hK hG hM.1 rfl 44 (by decide) (tb_use hT tw_1435) (fun _ h9 => h9) (mfs_g44 _ _) dX14_read_85 ?_
      rw [h44b]
      refine lv_iconst (v := 4) hx hb dX14_read_88 (by decide) ?_
      refine lv_icmp_gt (tgt := 140) hx hb dX14_read_89 (by decide) (fun c_89 => ?_) (fun c_89 => ?_)
      · skip
        have hN4 : ¬ N9 < 4 := fun y => absurd c_89 (Int32.not_lt.mpr (nI_le (a := N9 + 1) (b := 4) (by omega) (by decide)))
        have hsuc : RDs Iv F ft en bo N9 RP.1 I7 F8 := hsc F8 (fun _ _ _ => rfl) (fun i => by rw [if_neg (fun y => hN4 y.1)]; exact h8_45 i) (fun i => by rw [if_neg (fun y => hN4 y.1)]; exact h8_46 i)
        refine lv_iconst (v := 0) hx hb dX14_read_140 (by decide) ?_
        refine lv_istore_n (lv' := [(3, .int 0), (2, .int r19), (1, .int (nI en)), (0, .ref o)]) hx hb dX14_read_141 rfl hl (by decide) rfl (fun ls hl => ?_)
        exact hlw 128 RP.1 0 I7 F8 L Ar (by omega) (fun k hk => absurd hk (Nat.not_lt_zero k)) (fun _ _ => rfl) hzP eRP1 hsuc hAr G31 hM hF _ _ hG hS ls (lv_sub hl [3, 0] rfl)
      · skip
        have hN4 : N9 < 4 := by have y := nI_ge_of (a := 4) (b := N9 + 1) (by decide) (by omega) (Int32.not_lt.mp c_89); omega
        have hcN : (nI (N9 + 1) - 1).toNatClampNeg = N9 := by rw [show nI (N9 + 1) - 1 = nI N9 from (nI_sb (a := 1) (b := N9 + 1) (by omega)).trans (by rw [Nat.add_sub_cancel])]; exact nI_clamp (by omega)
        refine lv_aload_n hx hb dX14_read_92 rfl (lv_at hl 2 rfl) ?_
        refine mm_get (v := .ref (Ar 45)) hx hb hf_X14 (fun _ h9 => h9) hown hK hG hM.1 rfl 45 (by decide) (tb_use hT tw_1436) (fun _ h9 => h9) (mfs_g45 _ _) dX14_read_93 ?_
        refine lv_aload_n hx hb dX14_read_96 rfl (lv_at hl 2 rfl) ?_
        refine mm_get (v := .int (I7 44)) hx hb hf_X14 (fun _ h9 => h9) hown hK hG hM.1 rfl 44 (by decide) (tb_use hT tw_1435) (fun _ h9 => h9) (mfs_g44 _ _) dX14_read_97 ?_
        rw [h44b]
        refine lv_iconst (v := 1) hx hb dX14_read_100 (by decide) ?_
        refine lv_isub hx hb dX14_read_101 ?_
        refine lv_iload_n hx hb dX14_read_102 rfl (lv_at hl 1 rfl) ?_
        refine lv_topi (fun x32 ex32 => ?_)
        refine mm_iast (n := mdN 45) (f := F8 45) hx hb hK hG hS 1 (hM.2.1 45 rfl) rfl (by rw [show nI (N9 + 1) - 1 = nI N9 from (nI_sb (a := 1) (b := N9 + 1) (by omega)).trans (by rw [Nat.add_sub_cancel])]; exact nI_in (N := mdN 45) (by show _ < 4; omega) (by decide)) dX14_read_103 (fun H locs hG hS => ?_)
        have hM := MD.seti (k := 45) (upd (F8 45) ((nI (N9 + 1)) - 1).toNatClampNeg x32) hM rfl
        have hF := hF.wa (k := 45) (e' := .inl (cy 1, mdN 45, .inl (upd (F8 45) ((nI (N9 + 1)) - 1).toNatClampNeg x32))) rfl
        obtain ⟨F33, eF33⟩ : ∃ g, g = va_up F8 45 (upd (F8 45) ((nI (N9 + 1)) - 1).toNatClampNeg x32) := ⟨_, rfl⟩
        rw [← eF33] at hM
        have hgn := gn_MD hG hM hF
        clear hG hM hF
        obtain ⟨G34, hG, hM, hF⟩ := hgn
        have hlk : ∀ (nk : Nat) (j9 : Nat) (Fk : Nat → Nat → Int32), (nk + j9 = en) → (∀ i, Fk 46 i = if 2000 * N9 ≤ i ∧ i < 2000 * N9 + j9 then F 40 (i - 2000 * N9) else F8 46 i) → (∀ j, ¬ j = 46 → Fk j = F33 j) → ∀ (Gv : Nat → Option va_E), (MD cy Gv o Ar I7 Fk L) → (MF G Gv o Ar) → ∀ (H : Heap) (locs : List Loc), mm D vwCl A Gv H → va_S A s.heap H locs → ∀ ls : Array Slot, lv_has ls 4 [(0, .ref o), (1, .int (nI en)), (3, .int (nI j9))] → W p l e (headSpec [.code yX14_read cX14_read 4 (some .int)] ({ frames := 11, cells := 0, slots := 0, locals := 330 })).room s m ([.ref o] : List Value).toArray below meth c H locs 0 0 (MQ below (va_Qi (fun (r : Int32) (G2 : Nat → Option va_E) => r = rdA ft en ∧ ∃ (A2 : Nat → Nat) (I2 : Nat → Int32) (F2 : Nat → Nat → Int32) (L2 : Nat → Nat → Int64), A2 = va_up Az 47 (Az 40) ∧ MD cy G2 o A2 I2 F2 L2 ∧ MF G G2 o A2 ∧ (¬ rdP ft en < 0 → RDx Iv F bo I2 F2 ∧ L2 = L ∧ ((rdG ft en).2 = none → I2 63 = 0) ∧ ∀ l9, (rdG ft en).2 = some l9 → RGS (rdV ft en) I2 F2 l9) ∧ (rdP ft en < 0 → ∃ v9, v9 = (rdF ft en).1 ∧ RDs Iv F ft en bo N9 v9 I2 F2 ∧ I2 69 = (if 0 < v9.nL then 1 else 0) ∧ (∀ k, k < 128 → L2 70 k = 0) ∧ ∀ j, ¬ j = 70 → L2 j = L j)) (mk_B D vwCl A) A) ([.ref o] : List Value).toArray s 0 0 A) (F0 m 106 ls []) := by
          intro nk
          induction nk with
          | zero =>
            intro j9 Fk hjn hk46 hko Gv hM hF H locs hG hS ls hl
            refine lv_iload_n hx hb dX14_read_106 rfl (lv_at hl 2 rfl) ?_
            refine lv_iload_n hx hb dX14_read_107 rfl (lv_at hl 1 rfl) ?_
            refine lv_icmp_ge (tgt := 140) hx hb dX14_read_108 (by decide) (fun c_108 => ?_) (fun c_108 => ?_)
            · skip
              have hje : j9 = en := by omega
              have hsuc : RDs Iv F ft en bo N9 RP.1 I7 Fk := hsc Fk (fun j g1 g2 => by rw [hko j g2, eF33, va_up_ne _ _ g1]) (fun i => by rw [hko 45 (by decide), eF33, va_up_self, show (nI (N9 + 1) - 1).toNatClampNeg = N9 from hcN]; by_cases y : i = N9; (rw [y, pk_us, if_pos ⟨hN4, rfl⟩]; exact ex32); (rw [pk_un y, if_neg (fun u => y u.2)]; exact h8_45 i)) (fun i => by rw [hk46 i, hje]; by_cases y : 2000 * N9 ≤ i ∧ i < 2000 * N9 + en; (rw [if_pos y, if_pos ⟨hN4, y⟩]); (rw [if_neg y, if_neg (fun u => y u.2)]; exact h8_46 i))
              refine lv_iconst (v := 0) hx hb dX14_read_140 (by decide) ?_
              refine lv_istore_n (lv' := [(3, .int 0), (0, .ref o), (1, .int (nI en))]) hx hb dX14_read_141 rfl hl (by decide) rfl (fun ls hl => ?_)
              exact hlw 128 RP.1 0 I7 Fk L Ar (by omega) (fun k hk => absurd hk (Nat.not_lt_zero k)) (fun _ _ => rfl) hzP eRP1 hsuc hAr Gv hM hF _ _ hG hS ls (lv_sub hl [1, 0] rfl)
            · skip
              exact absurd (by rw [show j9 = en by omega]; exact Int32.le_refl _) c_108
          | succ nk ihk =>
            intro j9 Fk hjn hk46 hko Gv hM hF H locs hG hS ls hl
            refine lv_iload_n hx hb dX14_read_106 rfl (lv_at hl 2 rfl) ?_
            refine lv_iload_n hx hb dX14_read_107 rfl (lv_at hl 1 rfl) ?_
            refine lv_icmp_ge (tgt := 140) hx hb dX14_read_108 (by decide) (fun c_108 => ?_) (fun c_108 => ?_)
            · skip
              exact absurd c_108 (nI_ge (a := j9) (b := en) (by omega) (by omega))
            · skip
              refine lv_aload_n hx hb dX14_read_111 rfl (lv_at hl 0 rfl) ?_
              refine mm_get (v := .ref (Ar 46)) hx hb hf_X14 (fun _ h9 => h9) hown hK hG hM.1 rfl 46 (by decide) (tb_use hT tw_1437) (fun _ h9 => h9) (mfs_g46 _ _) dX14_read_112 ?_
              refine lv_sipush (v := 2000) hx hb dX14_read_115 (by decide) ?_
              refine lv_aload_n hx hb dX14_read_118 rfl (lv_at hl 0 rfl) ?_
              refine mm_get (v := .int (I7 44)) hx hb hf_X14 (fun _ h9 => h9) hown hK hG hM.1 rfl 44 (by decide) (tb_use hT tw_1435) (fun _ h9 => h9) (mfs_g44 _ _) dX14_read_119 ?_
              rw [h44b]
              refine lv_iconst (v := 1) hx hb dX14_read_122 (by decide) ?_
              refine lv_isub hx hb dX14_read_123 ?_
              refine lv_imul hx hb dX14_read_124 ?_
              refine lv_iload_n hx hb dX14_read_125 rfl (lv_at hl 2 rfl) ?_
              refine lv_iadd hx hb dX14_read_126 ?_
              refine lv_aload_n hx hb dX14_read_127 rfl (lv_at hl 0 rfl) ?_
              refine mm_get (v := .ref (Ar 40)) hx hb hf_X14 (fun _ h9 => h9) hown hK hG hM.1 rfl 40 (by decide) (tb_use hT tw_1431) (fun _ h9 => h9) (mfs_g40 _ _) dX14_read_128 ?_
              refine lv_iload_n hx hb dX14_read_131 rfl (lv_at hl 2 rfl) ?_
              refine mm_iald (n := 2000) (f := Fk 40) hx hb hK hG 1 (hM.2.1 40 rfl) rfl (nI_in (N := mdN 40) (by show _ < 2000; omega) (by decide)) dX14_read_132 ?_
              refine lv_topi (fun x35 ex35 => ?_)
              refine mm_iast (n := mdN 46) (f := Fk 46) hx hb hK hG hS 1 (hM.2.1 46 rfl) rfl (by rw [show (2000 : Int32) * (nI (N9 + 1) - 1) + nI j9 = nI (2000 * N9 + j9) from nI_kx 2000 N9 j9]; exact nI_in (N := mdN 46) (by show _ < 8000; omega) (by decide)) dX14_read_133 (fun H locs hG hS => ?_)
              have hM := MD.seti (k := 46) (upd (Fk 46) ((2000 * ((nI (N9 + 1)) - 1)) + (nI j9)).toNatClampNeg x35) hM rfl
              have hF := hF.wa (k := 46) (e' := .inl (cy 1, mdN 46, .inl (upd (Fk 46) ((2000 * ((nI (N9 + 1)) - 1)) + (nI j9)).toNatClampNeg x35))) rfl
              obtain ⟨F36, eF36⟩ : ∃ g, g = va_up Fk 46 (upd (Fk 46) ((2000 * ((nI (N9 + 1)) - 1)) + (nI j9)).toNatClampNeg x35) := ⟨_, rfl⟩
              rw [← eF36] at hM
              have hgn := gn_MD hG hM hF
              clear hG hM hF
              obtain ⟨G37, hG, hM, hF⟩ := hgn
              obtain ⟨x38, ex38⟩ : ∃ y : Int32, y = (nI j9) + 1 := ⟨_, rfl⟩
              refine lv_iinc (v := x38) (lv' := [(3, .int x38), (0, .ref o), (1, .int (nI en))]) hx hb dX14_read_134 hl (k := 2) rfl (by rw [ex38]; rfl) (by decide) rfl (fun ls hl => ?_)
              refine lv_goto (tgt := 106) hx hb dX14_read_137 (by decide) ?_
              rw [show x38 = nI (j9 + 1) by rw [ex38]; exact (nI_succ j9).symm] at hl
              have hk2 : ∀ i, F36 46 i = if 2000 * N9 ≤ i ∧ i < 2000 * N9 + (j9 + 1) then F 40 (i - 2000 * N9) else F8 46 i := fun i => by
                rw [eF36, va_up_self, show (2000 : Int32) * (nI (N9 + 1) - 1) + nI j9 = nI (2000 * N9 + j9) from nI_kx 2000 N9 j9, nI_clamp (by omega)]
                by_cases y : i = 2000 * N9 + j9
                · rw [y, pk_us, if_pos (by omega), ex35, nI_clamp (by omega), hko 40 (by decide), eF33, va_up_ne _ _ (by decide), h8_40, show 2000 * N9 + j9 - 2000 * N9 = j9 by omega]
                · rw [pk_un y, hk46 i]
                  by_cases u : 2000 * N9 ≤ i ∧ i < 2000 * N9 + j9
                  · rw [if_pos u, if_pos (by omega)]
                  · rw [if_neg u, if_neg (by omega)]
              exact ihk (j9 + 1) F36 (by omega) hk2 (fun j hj => by rw [eF36, va_up_ne _ _ hj]; exact hko j hj) G37 hM hF _ _ hG hS ls (lv_sub hl [1, 2, 0] rfl)
        refine lv_iconst (v := 0) hx hb dX14_read_104 (by decide) ?_
        refine lv_istore_n (lv' := [(3, .int 0), (2, .int r19), (1, .int (nI en)), (0, .ref o)]) hx hb dX14_read_105 rfl hl (by decide) rfl (fun ls hl => ?_)
        exact hlk en 0 F33 (by omega) (fun i => by rw [if_neg (by omega), eF33, va_up_ne _ _ (by decide)]) (fun _ _ => rfl) G34 hM hF _ _ hG hS ls (lv_sub hl [3, 2, 0] rfl)
    · skip
      refine lv_iload_n hx hb dX14_read_48 rfl (lv_at hl 0 rfl) ?_
      refine lv_ineg hx hb dX14_read_49 ?_
      have hbd : ¬ RM.1 < 0 := fun z => c_45 (by rw [er19, if_pos z]; exact Int32.le_refl 0)
      have hans : -r19 = rdA ft en := by unfold rdA; rw [hrP, if_neg hbd, er19, if_neg hbd, Nat.min_eq_left (hle8 hbd)]
      exact W.iret (v := (-r19)) hx hb hr (fun t ht hW => ⟨⟨_, _, rfl, ⟨hans, Ar, I8, F8, L, hAr, hM, hF, (fun _ => ⟨⟨hI8, h8_38, h8_39, hFr8⟩, rfl, (by rw [hrG]; exact hg80), (by rw [hrG]; unfold rdV; rw [eRP]; exact hg81)⟩), (by rw [hrP]; exact fun z => absurd z hbd)⟩, mk_end hG ht⟩, hS.F ht⟩) hS.2.2 dX14_read_50
  · skip
    refine lv_iload_n hx hb dX14_read_35 rfl (lv_at hl 0 rfl) ?_
    refine lv_goto (tgt := 43) hx hb dX14_read_36 (by decide) ?_
    refine lv_istore_n (lv' := [(2, .int r17), (1, .int (nI en)), (0, .ref o)]) hx hb dX14_read_43 rfl hl (by decide) rfl (fun ls hl => ?_)
    refine lv_iload_n hx hb dX14_read_44 rfl (lv_at hl 0 rfl) ?_
    refine lv_if_le (tgt := 51) hx hb dX14_read_45 (by decide) (fun c_45 => ?_) (fun c_45 => ?_)
    · skip
      exact absurd c_45 c_32
    · skip
      refine lv_iload_n hx hb dX14_read_48 rfl (lv_at hl 0 rfl) ?_
      refine lv_ineg hx hb dX14_read_49 ?_
      have hbd : ¬ RP.2.2 < 0 := fun z => c_32 (by rw [(hs9 z).1]; exact Int32.le_refl 0)
      have hok := okq_fill (K := tkK ft en) (V := tkV ft en) (n := tkN ft en) (v := EdV.nil) (q := (0, -1)) (S := tkS ft en) (Or.inl (by decide))
      rw [show q_fill (tkK ft en) (tkS ft en) (tkV ft en) (tkN ft en) EdV.nil (0, -1) = rdF ft en from rfl, eRP] at hok
      have hfq : RP.2.2 = tkS ft en RP.2.1 := hok.resolve_left hbd
      obtain ⟨x9, g1, g2, g3⟩ := hQ.2.2.2.1
      have hrP : rdP ft en = RP.2.2 := by unfold rdP; rw [eRP, if_neg hbd]
      have hrG : rdG ft en = (-1, none) := by unfold rdG; rw [eRP, if_neg hbd]
      have hans : -r17 = rdA ft en := by unfold rdA; rw [hrP, if_neg hbd, hf9 hbd, hfq, g2, nI_clamp (by omega), Nat.min_eq_left g1]
      exact W.iret (v := (-r17)) hx hb hr (fun t ht hW => ⟨⟨_, _, rfl, ⟨hans, Ar, I9, F9, L, hAr, hM, hF, (fun _ => ⟨⟨hI9, h9_38, h9_39, (fun j i h1 h2 _ => hFr j i h1 h2)⟩, rfl, (fun _ => h9_63), (by rw [hrG]; intro l9 z; cases z)⟩), (by rw [hrP]; exact fun z => absurd z hbd)⟩, mk_end hG ht⟩, hS.F ht⟩) hS.2.2 dX14_read_50
