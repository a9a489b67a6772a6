theorem bl_of {b : Int32} (h : b = 9 ∨ b = 10 ∨ b = 13 ∨ b = 32) : isBl b = true := by
  rcases h with h | h | h | h <;> rw [h] <;> rfl
theorem bl_no {b : Int32} (h1 : ¬ b = 9) (h2 : ¬ b = 10) (h3 : ¬ b = 13) (h4 : ¬ b = 32) : isBl b = false := by
  unfold isBl
  rw [decide_eq_false h1, decide_eq_false h2, decide_eq_false h3, decide_eq_false h4]
  rfl
theorem hx_le {Ar : Nat → Nat} {Iv : Nat → Int32} {F : Nat → Nat → Int32} {ft : Nat → Int32} {sx fr en bo p : Nat} (h : LXs Ar Iv F ft sx fr en bo) : isLe (if p < en then F sx (fr + p) else -1) = (decide (p < en) && isLe (ft p)) := by
  by_cases e : p < en
  · rw [if_pos e, decide_eq_true e, chr_le (h.2.2.2.2.2.2.2 p e)]; rfl
  · rw [if_neg e, decide_eq_false e]; rfl
theorem hx_di {Ar : Nat → Nat} {Iv : Nat → Int32} {F : Nat → Nat → Int32} {ft : Nat → Int32} {sx fr en bo p : Nat} (h : LXs Ar Iv F ft sx fr en bo) : isDi (if p < en then F sx (fr + p) else -1) = (decide (p < en) && isDi (ft p)) := by
  by_cases e : p < en
  · rw [if_pos e, decide_eq_true e, chr_di (h.2.2.2.2.2.2.2 p e)]; rfl
  · rw [if_neg e, decide_eq_false e]; rfl
set_option maxHeartbeats 4000000 in
set_option maxRecDepth 100000 in
theorem c_M_next (l : Launch) (D : va_G) (cy : Nat → ClassId) (A : Nat → Prop) (X : State → Prop) (hst : mk_St A X) (hXT : ∀ U : State, X U → TB U) (G : Nat → Option va_E) (o : Nat) (Ar : Nat → Nat) (Iv : Nat → Int32) (F : Nat → Nat → Int32) (L : Nat → Nat → Int64) (ft : Nat → Int32) (sx fr en bo : Nat) (i9 p0 : Nat) (fa9 : Int32) (hM : MD cy G o Ar Iv F L) (hLp : LXp Ar Iv F ft sx fr en bo i9 p0) (hg : Iv 55 = 1) (hfa : fa9 < 0) : Met l yX14_next [.code yX14_next cX14_next 4 none] ({ frames := 3, cells := 0, slots := 0, locals := 90 }) (mk_Pre D vwCl (tyL cy) A X G [.ref o]) (va_Qv (fun (G2 : Nat → Option va_E) => ∃ (I2 : Nat → Int32) (F2 : Nat → Nat → Int32), MD cy G2 o Ar I2 F2 L ∧ MF G G2 o Ar ∧ LXq Ar I2 F2 ft sx fr en bo (i9, fa9) ∧ IX I2 = IX Iv ∧ FX F2 = FX F) (mk_B D vwCl A) A) 0 0 A := by
  refine Met.ofW (cc := cX14_next) (maxL := 4) (ret := none) (by decide) rfl ?_
  intro p e s m args below meth c s₁ B hml hv
  obtain ⟨rfl, hG, hK, hA, hX⟩ := hv
  have hx := B.exec
  have hb := B.bytes
  have hr := B.returns
  have hlocks := B.notSynchronized
  have hT := hXT s hX
  have hown : s.vm.findClass RX14 = some m.cls := findClass_of_methodNamed B.named
  have hf_X14 : ∀ w ∈ u_ws RX14 TX14 76, w.before ([.ref o] : List Value).toArray s = true := tb_list hT fX14
  have hS : va_S A s.heap s.heap [] := va_S.rf
  have hl := lv_entry ([.ref o]) (n := 4) (Nat.le_of_ble_eq_true rfl)
  rw [lg_entry_eq]
  generalize (lg_sl ([.ref o]) ++ List.replicate (4 - (lg_sl ([.ref o])).length) Slot.unset).toArray = ls at hl ⊢
  have hl : lv_has ls 4 [(0, .ref o)] := hl
  have hF : MF G G o Ar := MF.rf
  have hLs := hLp.1
  have hPA0 := hLp.2.1
  have h500 := hLp.2.2.1
  have h510 := hLp.2.2.2.1
  have hNT := hLp.2.2.2.2
  have hen := hLs.2.2.2.1
  have hbd := hLs.bd
  have hmN := hLs.2.2.1
  have hm8 := hLs.sN.2.1
  have hp0 := hPA0.2.1
  have hs31 : mdN sx < 2 ^ 31 := by omega
  have hla : ∀ (n : Nat) (p9 j9 : Nat) (Ij : Nat → Int32), (n + (p9 + j9) = en) → (PA ft en p9 i9) → (p9 < en) → (isLe (ft p9) = true) → (∀ k, k < j9 → aln (ft (p9 + k)) = true) → (Ij 54 = lnc ft p9) → (Ij 50 = nI (fr + (p9 + j9))) → (Ij 51 = lnc ft p9) → (IX Ij = IX Iv) → (Ij 55 = 1) → ∀ (Gv : Nat → Option va_E), (MD cy Gv o Ar Ij F L) → (MF G Gv o Ar) → ∀ (H : Heap) (locs : List Loc), mm D vwCl A Gv H → va_S A s.heap H locs → ∀ ls : Array Slot, lv_has ls 4 [(0, .ref o), (1, .int (nI (fr + p9)))] → W p l e (headSpec [.code yX14_next cX14_next 4 none] ({ frames := 3, cells := 0, slots := 0, locals := 90 })).room s m ([.ref o] : List Value).toArray below meth c H locs 0 0 (MQ below (va_Qv (fun (G2 : Nat → Option va_E) => ∃ (I2 : Nat → Int32) (F2 : Nat → Nat → Int32), MD cy G2 o Ar I2 F2 L ∧ MF G G2 o Ar ∧ LXq Ar I2 F2 ft sx fr en bo (i9, fa9) ∧ IX I2 = IX Iv ∧ FX F2 = FX F) (mk_B D vwCl A) A) ([.ref o] : List Value).toArray s 0 0 A) (F0 m 110 ls []) := by
    intro n
    induction n with
    | zero =>
      intro p9 j9 Ij hn hPA hp9 hle hal h54 h50 h51 hIX h55 Gv hM hF H locs hG hS ls hl
      have hpl : p9 + j9 ≤ en := by omega
      have hcs : ¬ p9 + j9 < en := by omega
      refine lv_aload_n hx hb dX14_next_110 rfl (lv_at hl 0 rfl) ?_
      have hLjIj : LXs Ar Ij F ft sx fr en bo := hLs.mx (by exact hIX) rfl
      refine va_calli (va_runV (As := []) (rest := []) ⟨hx, hb, hml, hown, (fun _ h9 => absurd h9 List.not_mem_nil : ∀ w ∈ ([] : List Cond), w.before _ s = true)⟩ (c_M_here l D cy A X hst hXT Gv o Ar Ij F L (mdN sx) (F sx) hM (hLs.src hM) hs31 (hLjIj.hlo (p := (p9 + j9)) hpl (by exact h50)) hLjIj.hhi) (tb_cw (C := RX14) 0 hT tw_1644 tw_109 tw_1641 tw_1643 tw_63 rfl rfl hq_X14_here ⟨Nat.le_of_ble_eq_true rfl, Nat.le_of_ble_eq_true rfl⟩) (mk_preC hst hG hK hA hX hS vc_15 hM.1) rfl rfl hl.1 rfl (lv_room (Nat.le_of_ble_eq_true rfl)) dX14_next_111 ⟨Nat.le_of_ble_eq_true rfl, Nat.le_of_ble_eq_true rfl⟩) hS (fun q _ h => h) (fun q h => h) (fun r1 G2 t H locs ht hvm hw hB hz1 hk1 hS => ?_)
      have hG : mm D vwCl A G2 H := by rw [← ht]; exact hB
      clear hB hz1 hk1 hvm ht
      obtain ⟨er1, hw⟩ := hw
      rw [hw] at hG
      rw [hLjIj.hr (p := (p9 + j9)) hpl (by exact h50)] at er1
      rw [if_neg hcs] at er1
      refine va_calli (va_runS (As := [.int r1]) (rest := []) ⟨hx, hb, hml, hown, (fun _ h9 => absurd h9 List.not_mem_nil : ∀ w ∈ ([] : List Cond), w.before _ s = true)⟩ (c_M_isLe l D cy A X hst hXT Gv r1) (tb_cs 1 hT tw_1647 tw_109 tw_1645 tw_1646 rfl rfl hq_X14_isLetter ⟨Nat.le_of_ble_eq_true rfl, Nat.le_of_ble_eq_true rfl⟩) (mk_preS hst hG hK hA hX hS) rfl rfl hl.1 rfl (lv_room (Nat.le_of_ble_eq_true rfl)) dX14_next_114 ⟨Nat.le_of_ble_eq_true rfl, Nat.le_of_ble_eq_true rfl⟩) hS (fun q _ h => h) (fun q h => h) (fun r3 G4 t H locs ht hvm hw hB hz1 hk1 hS => ?_)
      have hG : mm D vwCl A G4 H := by rw [← ht]; exact hB
      clear hB hz1 hk1 hvm ht
      obtain ⟨er3, hw⟩ := hw
      rw [hw] at hG
      refine lv_if_ne (tgt := 130) hx hb dX14_next_117 (by decide) (fun c_117 => ?_) (fun c_117 => ?_)
      · skip
        exact absurd c_117 (by rw [er3, er1]; decide)
      · skip
        refine lv_aload_n hx hb dX14_next_120 rfl (lv_at hl 0 rfl) ?_
        refine va_calli (va_runV (As := []) (rest := []) ⟨hx, hb, hml, hown, (fun _ h9 => absurd h9 List.not_mem_nil : ∀ w ∈ ([] : List Cond), w.before _ s = true)⟩ (c_M_here l D cy A X hst hXT Gv o Ar Ij F L (mdN sx) (F sx) hM (hLs.src hM) hs31 (hLjIj.hlo (p := (p9 + j9)) hpl (by exact h50)) hLjIj.hhi) (tb_cw (C := RX14) 0 hT tw_1644 tw_109 tw_1641 tw_1643 tw_63 rfl rfl hq_X14_here ⟨Nat.le_of_ble_eq_true rfl, Nat.le_of_ble_eq_true rfl⟩) (mk_preC hst hG hK hA hX hS vc_15 hM.1) rfl rfl hl.1 rfl (lv_room (Nat.le_of_ble_eq_true rfl)) dX14_next_121 ⟨Nat.le_of_ble_eq_true rfl, Nat.le_of_ble_eq_true rfl⟩) hS (fun q _ h => h) (fun q h => h) (fun r5 G6 t H locs ht hvm hw hB hz1 hk1 hS => ?_)
        have hG : mm D vwCl A G6 H := by rw [← ht]; exact hB
        clear hB hz1 hk1 hvm ht
        obtain ⟨er5, hw⟩ := hw
        rw [hw] at hG
        rw [hLjIj.hr (p := (p9 + j9)) hpl (by exact h50)] at er5
        rw [if_neg hcs] at er5
        refine va_calli (va_runS (As := [.int r5]) (rest := []) ⟨hx, hb, hml, hown, (fun _ h9 => absurd h9 List.not_mem_nil : ∀ w ∈ ([] : List Cond), w.before _ s = true)⟩ (c_M_isDi l D cy A X hst hXT Gv r5) (tb_cs 1 hT tw_1650 tw_109 tw_1648 tw_1649 rfl rfl hq_X14_isDigit ⟨Nat.le_of_ble_eq_true rfl, Nat.le_of_ble_eq_true rfl⟩) (mk_preS hst hG hK hA hX hS) rfl rfl hl.1 rfl (lv_room (Nat.le_of_ble_eq_true rfl)) dX14_next_124 ⟨Nat.le_of_ble_eq_true rfl, Nat.le_of_ble_eq_true rfl⟩) hS (fun q _ h => h) (fun q h => h) (fun r7 G8 t H locs ht hvm hw hB hz1 hk1 hS => ?_)
        have hG : mm D vwCl A G8 H := by rw [← ht]; exact hB
        clear hB hz1 hk1 hvm ht
        obtain ⟨er7, hw⟩ := hw
        rw [hw] at hG
        refine lv_if_eq (tgt := 143) hx hb dX14_next_127 (by decide) (fun c_127 => ?_) (fun c_127 => ?_)
        · skip
          have hi9 : i9 ≤ p9 := hPA.2.2.1
          have hend : p9 + j9 = en ∨ aln (ft (p9 + j9)) = false := Or.inl (by omega)
          have hj1 : 1 ≤ j9 := by rcases Nat.eq_zero_or_pos j9 with z | z; (rw [z, Nat.add_zero] at hend; rcases hend with z2 | z2; (exfalso; omega); (rw [le_al hle] at z2; cases z2)); exact z
          have hdj : Ij 50 - nI (fr + p9) = nI j9 := by rw [h50, nI_sb (by omega)]; congr 1; omega
          refine lv_aload_n hx hb dX14_next_143 rfl (lv_at hl 0 rfl) ?_
          refine lv_aload_n hx hb dX14_next_144 rfl (lv_at hl 0 rfl) ?_
          refine mm_get (v := .int (Ij 50)) hx hb hf_X14 (fun _ h9 => h9) hown hK hG hM.1 rfl 50 (by decide) (tb_use hT tw_1441) (fun _ h9 => h9) (mfs_g50 _ _) dX14_next_145 ?_
          refine lv_iload_n hx hb dX14_next_148 rfl (lv_at hl 1 rfl) ?_
          refine lv_isub hx hb dX14_next_149 ?_
          refine lv_bipush (v := 12) hx hb dX14_next_150 (by decide) ?_
          refine lv_icmp_le (tgt := 159) hx hb dX14_next_152 (by decide) (fun c_152 => ?_) (fun c_152 => ?_)
          · skip
            have hj12 : j9 ≤ 12 := nI_ge_of (a := 12) (by decide) (by omega) (by rw [← hdj]; exact c_152)
            have hw9 := wo_st (sf := F sx) (f := ft) (fr := fr) (a := p9) (n := j9) (fun k hk => by rw [Nat.add_assoc]; exact al_eq (hLs.2.2.2.2.2.2.2 (p9 + k) (by omega)) (hal k hk)) hal hle hj1
            obtain ⟨t2, t3, t4, t5⟩ := hPA.nam hp9 hle hal hend (by omega) hj12
            have hm9 : (ntL (tkK ft en) (tkV ft en) i9).1 < 1000 := by have z := hPA.m hp9 (le_al hle); omega
            refine lv_aload_n hx hb dX14_next_159 rfl (lv_at hl 0 rfl) ?_
            refine lv_iload_n hx hb dX14_next_160 rfl (lv_at hl 1 rfl) ?_
            refine lv_aload_n hx hb dX14_next_161 rfl (lv_at hl 0 rfl) ?_
            refine mm_get (v := .int (Ij 50)) hx hb hf_X14 (fun _ h9 => h9) hown hK hG hM.1 rfl 50 (by decide) (tb_use hT tw_1441) (fun _ h9 => h9) (mfs_g50 _ _) dX14_next_162 ?_
            rw [show Ij 50 = nI (fr + p9 + j9) by rw [h50, Nat.add_assoc]]
            refine va_calli (va_runV (As := [.int (nI (fr + p9)), .int (nI (fr + p9 + j9))]) (rest := [.ref o]) ⟨hx, hb, hml, hown, (fun _ h9 => absurd h9 List.not_mem_nil : ∀ w ∈ ([] : List Cond), w.before _ s = true)⟩ (c_M_wordOf l D cy A X hst hXT Gv o Ar Ij F L (mdN sx) (F sx) (fr + p9) (fr + p9 + j9) hM (hLs.src hM) (by omega) (by omega) (by omega)) (tb_cw (C := RX14) 2 hT tw_1654 tw_109 tw_1651 tw_1653 tw_64 rfl rfl hq_X14_wordOf ⟨Nat.le_of_ble_eq_true rfl, Nat.le_of_ble_eq_true rfl⟩) (mk_preC hst hG hK hA hX hS vc_15 hM.1) rfl rfl hl.1 rfl (lv_room (Nat.le_of_ble_eq_true rfl)) dX14_next_165 ⟨Nat.le_of_ble_eq_true rfl, Nat.le_of_ble_eq_true rfl⟩) hS (fun q _ h => h) (fun q h => h) (fun r9 G10 t H locs ht hvm hw hB hz1 hk1 hS => ?_)
            have hG : mm D vwCl A G10 H := by rw [← ht]; exact hB
            clear hB hz1 hk1 hvm ht
            obtain ⟨er9, hw⟩ := hw
            rw [hw] at hG
            refine mm_put (v := .int r9) (ty := .int) hx hb hf_X14 (fun _ h9 => h9) tyX14 tyX14_ok nmX14 hown hK hG hS hM.1 rfl 53 (by decide) (tb_use hT tw_1444) (fun _ h9 => h9) rfl (by decide +kernel) rfl rfl (mfs_l53 _ _) dX14_next_168 (fun H locs hG hS => ?_)
            have hM := MD.puti (k := 53) (v := r9) hM (mfs_s53 _ _ _)
            have hF := hF.wo (e' := .inr (15, (mfs Ar Ij).set 53 (.int r9)))
            obtain ⟨I11, eI11⟩ : ∃ g, g = upd Ij 53 r9 := ⟨_, rfl⟩
            rw [← eI11] at hM
            have hgn := gn_MD hG hM hF
            clear hG hM hF
            obtain ⟨G12, hG, hM, hF⟩ := hgn
            refine lv_aload_n hx hb dX14_next_171 rfl (lv_at hl 0 rfl) ?_
            refine lv_aload_n hx hb dX14_next_172 rfl (lv_at hl 0 rfl) ?_
            refine mm_get (v := .int (Ij 50)) hx hb hf_X14 (fun _ h9 => h9) hown hK hG hM.1 rfl 50 (by decide) (tb_use hT tw_1441) (fun _ h9 => h9) (by rw [mfs_g50, eI11] <;> rfl) dX14_next_173 ?_
            refine lv_iload_n hx hb dX14_next_176 rfl (lv_at hl 1 rfl) ?_
            refine lv_isub hx hb dX14_next_177 ?_
            refine lv_bipush (v := 12) hx hb dX14_next_178 (by decide) ?_
            refine lv_icmp_le (tgt := 187) hx hb dX14_next_180 (by decide) (fun c_180 => ?_) (fun c_180 => ?_)
            · skip
              refine lv_aload_n hx hb dX14_next_187 rfl (lv_at hl 0 rfl) ?_
              refine mm_get (v := .int r9) hx hb hf_X14 (fun _ h9 => h9) hown hK hG hM.1 rfl 53 (by decide) (tb_use hT tw_1444) (fun _ h9 => h9) (by rw [mfs_g53, eI11] <;> rfl) dX14_next_188 ?_
              refine lv_if_le (tgt := 198) hx hb dX14_next_191 (by decide) (fun c_191 => ?_) (fun c_191 => ?_)
              · skip
                refine lv_iconst (v := 2) hx hb dX14_next_198 (by decide) ?_
                refine mm_put (v := .int 2) (ty := .int) hx hb hf_X14 (fun _ h9 => h9) tyX14 tyX14_ok nmX14 hown hK hG hS hM.1 rfl 52 (by decide) (tb_use hT tw_1443) (fun _ h9 => h9) rfl (by decide +kernel) rfl rfl (mfs_l52 _ _) dX14_next_199 (fun H locs hG hS => ?_)
                have hM := MD.puti (k := 52) (v := 2) hM (mfs_s52 _ _ _)
                have hF := hF.wo (e' := .inr (15, (mfs Ar I11).set 52 (.int 2)))
                obtain ⟨I13, eI13⟩ : ∃ g, g = upd I11 52 2 := ⟨_, rfl⟩
                rw [← eI13] at hM
                have hgn := gn_MD hG hM hF
                clear hG hM hF
                obtain ⟨G14, hG, hM, hF⟩ := hgn
                refine lv_aload_n hx hb dX14_next_202 rfl (lv_at hl 0 rfl) ?_
                refine mm_get (v := .int 2) hx hb hf_X14 (fun _ h9 => h9) hown hK hG hM.1 rfl 52 (by decide) (tb_use hT tw_1443) (fun _ h9 => h9) (by rw [mfs_g52, eI13, eI11] <;> rfl) dX14_next_203 ?_
                refine lv_iconst (v := 2) hx hb dX14_next_206 (by decide) ?_
                refine lv_icmp_ne (tgt := 381) hx hb dX14_next_207 (by decide) (fun c_207 => ?_) (fun c_207 => ?_)
                · skip
                  exact absurd (by decide) c_207
                · skip
                  refine lv_aload_n hx hb dX14_next_210 rfl (lv_at hl 0 rfl) ?_
                  refine lv_aload_n hx hb dX14_next_211 rfl (lv_at hl 0 rfl) ?_
                  refine lv_iload_n hx hb dX14_next_212 rfl (lv_at hl 1 rfl) ?_
                  refine lv_aload_n hx hb dX14_next_213 rfl (lv_at hl 0 rfl) ?_
                  refine mm_get (v := .int (Ij 50)) hx hb hf_X14 (fun _ h9 => h9) hown hK hG hM.1 rfl 50 (by decide) (tb_use hT tw_1441) (fun _ h9 => h9) (by rw [mfs_g50, eI13, eI11] <;> rfl) dX14_next_214 ?_
                  rw [h50]
                  refine va_calli (va_runV (As := [.int (nI (fr + p9)), .int (nI (fr + (p9 + j9)))]) (rest := [.ref o]) ⟨hx, hb, hml, hown, (fun _ h9 => absurd h9 List.not_mem_nil : ∀ w ∈ ([] : List Cond), w.before _ s = true)⟩ (c_M_nameOf l D cy A X hst hXT G14 o Ar I13 F L ft sx fr en bo (ntL (tkK ft en) (tkV ft en) i9).1 p9 j9 (ntL (tkK ft en) (tkV ft en) i9).2 hM (hLs.mx (by rw [eI13, IX_up (by decide), eI11, IX_up (by decide)]; exact hIX) rfl) hNT hm9 (by omega) hj1 hj12 hal) (tb_cw (C := RX14) 2 hT tw_1689 tw_109 tw_1686 tw_1688 tw_66 rfl rfl hq_X14_nameOf ⟨Nat.le_of_ble_eq_true rfl, Nat.le_of_ble_eq_true rfl⟩) (mk_preC hst hG hK hA hX hS vc_15 hM.1) rfl rfl hl.1 rfl (lv_room (Nat.le_of_ble_eq_true rfl)) dX14_next_217 ⟨Nat.le_of_ble_eq_true rfl, Nat.le_of_ble_eq_true rfl⟩) hS (fun q _ h => h) (fun q h => h) (fun r15 G16 t H locs ht hvm hw hB hz1 hk1 hS => ?_)
                  have hG : mm D vwCl A G16 H := by rw [← ht]; exact hB
                  clear hB hz1 hk1 hvm ht
                  obtain ⟨er15, F2, hM2, hF2, hN2, hX2⟩ := hw
                  replace hF := hF.tr hF2
                  replace hM := hM2; clear hM2 hF2
                  refine mm_put (v := .int r15) (ty := .int) hx hb hf_X14 (fun _ h9 => h9) tyX14 tyX14_ok nmX14 hown hK hG hS hM.1 rfl 53 (by decide) (tb_use hT tw_1444) (fun _ h9 => h9) rfl (by decide +kernel) rfl rfl (mfs_l53 _ _) dX14_next_220 (fun H locs hG hS => ?_)
                  have hM := MD.puti (k := 53) (v := r15) hM (mfs_s53 _ _ _)
                  have hF := hF.wo (e' := .inr (15, (mfs Ar I13).set 53 (.int r15)))
                  obtain ⟨I17, eI17⟩ : ∃ g, g = upd I13 53 r15 := ⟨_, rfl⟩
                  rw [← eI17] at hM
                  have hgn := gn_MD hG hM hF
                  clear hG hM hF
                  obtain ⟨G18, hG, hM, hF⟩ := hgn
                  refine lv_goto (tgt := 381) hx hb dX14_next_223 (by decide) ?_
                  have w3 : stF ft p9 (p9 + j9) = none := by rcases hw9 with z | ⟨i, z1, z2, z3, z4⟩; exact z.1; exact absurd (by have y := c_191; rw [er9, z4] at y; exact y) (nI_ge (a := 0) (by omega) (by omega))
                  have t6 : tkK ft en i9 = 0 := by rw [t2, w3]; rfl
                  have t7 := ntL_z (V := tkV ft en) t6 (by omega)
                  rw [← t4] at hN2 er15
                  rw [← t7] at hN2
                  obtain ⟨u9, u1, u2, u3⟩ := @nuS_ok (ntL (tkK ft en) (tkV ft en) i9).1 (ntL (tkK ft en) (tkV ft en) i9).2 (tkV ft en i9)
                  rw [← t7] at u1 u3
                  have hJX : IX I17 = IX Iv := (by rw [eI17, IX_up (by decide), eI13, IX_up (by decide), eI11, IX_up (by decide)]; exact hIX)
                  exact W.vret hx hb hr (fun t ht hW => ⟨⟨_, rfl, ⟨_, _, hM, hF, ⟨hLs.mx hJX hX2, ⟨hPA.lt, (by omega)⟩, (by rw [eI17, eI13, eI11]; rw [t6]; exact Or.inl ⟨rfl, rfl, (by rw [t4]; exact pkd_pos hj12 hj1 hal), u9, u1, (by rw [← u2]; exact er15), u3⟩), ⟨p9, (by omega), t3, (by rw [eI17, eI13, eI11]; exact h54)⟩, (by rw [if_pos hfa]; rw [eI17, eI13, eI11]; exact h55), hN2, (fun _ _ => ⟨p9 + j9, t5, (by rw [eI17, eI13, eI11]; exact h50), (by rw [eI17, eI13, eI11]; rw [lnc_al hal]; exact h51)⟩)⟩, hJX, hX2⟩, mk_end hG ht⟩, hS.F ht⟩) hS.2.2 dX14_next_381
              · skip
                refine lv_iconst (v := 1) hx hb dX14_next_194 (by decide) ?_
                refine lv_goto (tgt := 199) hx hb dX14_next_195 (by decide) ?_
                refine mm_put (v := .int 1) (ty := .int) hx hb hf_X14 (fun _ h9 => h9) tyX14 tyX14_ok nmX14 hown hK hG hS hM.1 rfl 52 (by decide) (tb_use hT tw_1443) (fun _ h9 => h9) rfl (by decide +kernel) rfl rfl (mfs_l52 _ _) dX14_next_199 (fun H locs hG hS => ?_)
                have hM := MD.puti (k := 52) (v := 1) hM (mfs_s52 _ _ _)
                have hF := hF.wo (e' := .inr (15, (mfs Ar I11).set 52 (.int 1)))
                obtain ⟨I19, eI19⟩ : ∃ g, g = upd I11 52 1 := ⟨_, rfl⟩
                rw [← eI19] at hM
                have hgn := gn_MD hG hM hF
                clear hG hM hF
                obtain ⟨G20, hG, hM, hF⟩ := hgn
                refine lv_aload_n hx hb dX14_next_202 rfl (lv_at hl 0 rfl) ?_
                refine mm_get (v := .int 1) hx hb hf_X14 (fun _ h9 => h9) hown hK hG hM.1 rfl 52 (by decide) (tb_use hT tw_1443) (fun _ h9 => h9) (by rw [mfs_g52, eI19, eI11] <;> rfl) dX14_next_203 ?_
                refine lv_iconst (v := 2) hx hb dX14_next_206 (by decide) ?_
                refine lv_icmp_ne (tgt := 381) hx hb dX14_next_207 (by decide) (fun c_207 => ?_) (fun c_207 => ?_)
                · skip
                  obtain ⟨w9, w1, w2, w3, w4⟩ : ∃ i, 11 ≤ i ∧ i < 35 ∧ stF ft p9 (p9 + j9) = some i ∧ woR (F sx) (fr + p9) (fr + p9 + j9) = nI (i - 10) := by rcases hw9 with z | z; exact absurd (by rw [er9, z.2]; decide) c_191; exact z
                  have t6 : tkK ft en i9 = w9 := by rw [t2, w3]; rfl
                  have hJX : IX I19 = IX Iv := (by rw [eI19, IX_up (by decide), eI11, IX_up (by decide)]; exact hIX)
                  exact W.vret hx hb hr (fun t ht hW => ⟨⟨_, rfl, ⟨_, _, hM, hF, ⟨hLs.mx hJX rfl, ⟨hPA.lt, (by omega)⟩, (by rw [eI19, eI11]; rw [t6]; exact Or.inr (Or.inr (Or.inr (Or.inr (Or.inr ⟨w1, w2, rfl, er9.trans w4⟩))))), ⟨p9, (by omega), t3, (by rw [eI19, eI11]; exact h54)⟩, (by rw [if_pos hfa]; rw [eI19, eI11]; exact h55), (by rw [ntL_ne (by rw [t6]; omega)]; exact hNT), (fun _ _ => ⟨p9 + j9, t5, (by rw [eI19, eI11]; exact h50), (by rw [eI19, eI11]; rw [lnc_al hal]; exact h51)⟩)⟩, hJX, rfl⟩, mk_end hG ht⟩, hS.F ht⟩) hS.2.2 dX14_next_381
                · skip
                  exact absurd c_207 (by decide)
            · skip
              exact absurd c_152 c_180
          · skip
            refine lv_iconst (v := 0) hx hb dX14_next_155 (by decide) ?_
            refine lv_goto (tgt := 168) hx hb dX14_next_156 (by decide) ?_
            refine mm_put (v := .int 0) (ty := .int) hx hb hf_X14 (fun _ h9 => h9) tyX14 tyX14_ok nmX14 hown hK hG hS hM.1 rfl 53 (by decide) (tb_use hT tw_1444) (fun _ h9 => h9) rfl (by decide +kernel) rfl rfl (mfs_l53 _ _) dX14_next_168 (fun H locs hG hS => ?_)
            have hM := MD.puti (k := 53) (v := 0) hM (mfs_s53 _ _ _)
            have hF := hF.wo (e' := .inr (15, (mfs Ar Ij).set 53 (.int 0)))
            obtain ⟨I21, eI21⟩ : ∃ g, g = upd Ij 53 0 := ⟨_, rfl⟩
            rw [← eI21] at hM
            have hgn := gn_MD hG hM hF
            clear hG hM hF
            obtain ⟨G22, hG, hM, hF⟩ := hgn
            refine lv_aload_n hx hb dX14_next_171 rfl (lv_at hl 0 rfl) ?_
            refine lv_aload_n hx hb dX14_next_172 rfl (lv_at hl 0 rfl) ?_
            refine mm_get (v := .int (Ij 50)) hx hb hf_X14 (fun _ h9 => h9) hown hK hG hM.1 rfl 50 (by decide) (tb_use hT tw_1441) (fun _ h9 => h9) (by rw [mfs_g50, eI21] <;> rfl) dX14_next_173 ?_
            refine lv_iload_n hx hb dX14_next_176 rfl (lv_at hl 1 rfl) ?_
            refine lv_isub hx hb dX14_next_177 ?_
            refine lv_bipush (v := 12) hx hb dX14_next_178 (by decide) ?_
            refine lv_icmp_le (tgt := 187) hx hb dX14_next_180 (by decide) (fun c_180 => ?_) (fun c_180 => ?_)
            · skip
              exact absurd c_180 c_152
            · skip
              refine lv_iconst (v := 5) hx hb dX14_next_183 (by decide) ?_
              refine lv_goto (tgt := 199) hx hb dX14_next_184 (by decide) ?_
              refine mm_put (v := .int 5) (ty := .int) hx hb hf_X14 (fun _ h9 => h9) tyX14 tyX14_ok nmX14 hown hK hG hS hM.1 rfl 52 (by decide) (tb_use hT tw_1443) (fun _ h9 => h9) rfl (by decide +kernel) rfl rfl (mfs_l52 _ _) dX14_next_199 (fun H locs hG hS => ?_)
              have hM := MD.puti (k := 52) (v := 5) hM (mfs_s52 _ _ _)
              have hF := hF.wo (e' := .inr (15, (mfs Ar I21).set 52 (.int 5)))
              obtain ⟨I23, eI23⟩ : ∃ g, g = upd I21 52 5 := ⟨_, rfl⟩
              rw [← eI23] at hM
              have hgn := gn_MD hG hM hF
              clear hG hM hF
              obtain ⟨G24, hG, hM, hF⟩ := hgn
              refine lv_aload_n hx hb dX14_next_202 rfl (lv_at hl 0 rfl) ?_
              refine mm_get (v := .int 5) hx hb hf_X14 (fun _ h9 => h9) hown hK hG hM.1 rfl 52 (by decide) (tb_use hT tw_1443) (fun _ h9 => h9) (by rw [mfs_g52, eI23, eI21] <;> rfl) dX14_next_203 ?_
              refine lv_iconst (v := 2) hx hb dX14_next_206 (by decide) ?_
              refine lv_icmp_ne (tgt := 381) hx hb dX14_next_207 (by decide) (fun c_207 => ?_) (fun c_207 => ?_)
              · skip
                have hj12 : ¬ j9 ≤ 12 := fun z => c_152 (by rw [hdj]; exact nI_le (b := 12) z (by decide))
                obtain ⟨t2, x9, t3, t4, t5⟩ := hPA.nab hen hp9 hle hal hend (by omega) hj12
                have hJX : IX I23 = IX Iv := (by rw [eI23, IX_up (by decide), eI21, IX_up (by decide)]; exact hIX)
                exact W.vret hx hb hr (fun t ht hW => ⟨⟨_, rfl, ⟨_, _, hM, hF, ⟨hLs.mx hJX rfl, ⟨hPA.lt, (by omega)⟩, (by rw [eI23, eI21]; rw [t2]; exact Or.inr (Or.inr (Or.inr (Or.inl ⟨rfl, rfl⟩)))), ⟨x9, t3, t4, (by rw [eI23, eI21]; rw [t5]; exact h54)⟩, (by rw [if_pos hfa]; rw [eI23, eI21]; exact h55), (by rw [ntL_ne (by rw [t2]; decide)]; exact hNT), (fun _ z => absurd t2 z)⟩, hJX, rfl⟩, mk_end hG ht⟩, hS.F ht⟩) hS.2.2 dX14_next_381
              · skip
                exact absurd c_207 (by decide)
        · skip
          exact absurd c_127 (by rw [er7, er5]; decide)
    | succ n ih =>
      intro p9 j9 Ij hn hPA hp9 hle hal h54 h50 h51 hIX h55 Gv hM hF H locs hG hS ls hl
      have hpl : p9 + j9 ≤ en := by omega
      have hcs : p9 + j9 < en := by omega
      refine lv_aload_n hx hb dX14_next_110 rfl (lv_at hl 0 rfl) ?_
      have hLjIj : LXs Ar Ij F ft sx fr en bo := hLs.mx (by exact hIX) rfl
      refine va_calli (va_runV (As := []) (rest := []) ⟨hx, hb, hml, hown, (fun _ h9 => absurd h9 List.not_mem_nil : ∀ w ∈ ([] : List Cond), w.before _ s = true)⟩ (c_M_here l D cy A X hst hXT Gv o Ar Ij F L (mdN sx) (F sx) hM (hLs.src hM) hs31 (hLjIj.hlo (p := (p9 + j9)) hpl (by exact h50)) hLjIj.hhi) (tb_cw (C := RX14) 0 hT tw_1644 tw_109 tw_1641 tw_1643 tw_63 rfl rfl hq_X14_here ⟨Nat.le_of_ble_eq_true rfl, Nat.le_of_ble_eq_true rfl⟩) (mk_preC hst hG hK hA hX hS vc_15 hM.1) rfl rfl hl.1 rfl (lv_room (Nat.le_of_ble_eq_true rfl)) dX14_next_111 ⟨Nat.le_of_ble_eq_true rfl, Nat.le_of_ble_eq_true rfl⟩) hS (fun q _ h => h) (fun q h => h) (fun r25 G26 t H locs ht hvm hw hB hz1 hk1 hS => ?_)
      have hG : mm D vwCl A G26 H := by rw [← ht]; exact hB
      clear hB hz1 hk1 hvm ht
      obtain ⟨er25, hw⟩ := hw
      rw [hw] at hG
      rw [hLjIj.hr (p := (p9 + j9)) hpl (by exact h50)] at er25
      rw [if_pos hcs] at er25
      refine va_calli (va_runS (As := [.int r25]) (rest := []) ⟨hx, hb, hml, hown, (fun _ h9 => absurd h9 List.not_mem_nil : ∀ w ∈ ([] : List Cond), w.before _ s = true)⟩ (c_M_isLe l D cy A X hst hXT Gv r25) (tb_cs 1 hT tw_1647 tw_109 tw_1645 tw_1646 rfl rfl hq_X14_isLetter ⟨Nat.le_of_ble_eq_true rfl, Nat.le_of_ble_eq_true rfl⟩) (mk_preS hst hG hK hA hX hS) rfl rfl hl.1 rfl (lv_room (Nat.le_of_ble_eq_true rfl)) dX14_next_114 ⟨Nat.le_of_ble_eq_true rfl, Nat.le_of_ble_eq_true rfl⟩) hS (fun q _ h => h) (fun q h => h) (fun r27 G28 t H locs ht hvm hw hB hz1 hk1 hS => ?_)
      have hG : mm D vwCl A G28 H := by rw [← ht]; exact hB
      clear hB hz1 hk1 hvm ht
      obtain ⟨er27, hw⟩ := hw
      rw [hw] at hG
      refine lv_if_ne (tgt := 130) hx hb dX14_next_117 (by decide) (fun c_117 => ?_) (fun c_117 => ?_)
      · skip
        refine lv_aload_n hx hb dX14_next_130 rfl (lv_at hl 0 rfl) ?_
        refine lv_dup hx hb dX14_next_131 rfl ?_
        refine mm_get (v := .int (Ij 50)) hx hb hf_X14 (fun _ h9 => h9) hown hK hG hM.1 rfl 50 (by decide) (tb_use hT tw_1441) (fun _ h9 => h9) (mfs_g50 _ _) dX14_next_132 ?_
        refine lv_iconst (v := 1) hx hb dX14_next_135 (by decide) ?_
        refine lv_iadd hx hb dX14_next_136 ?_
        refine lv_topi (fun x29 ex29 => ?_)
        refine mm_put (v := .int x29) (ty := .int) hx hb hf_X14 (fun _ h9 => h9) tyX14 tyX14_ok nmX14 hown hK hG hS hM.1 rfl 50 (by decide) (tb_use hT tw_1441) (fun _ h9 => h9) rfl (by decide +kernel) rfl rfl (mfs_l50 _ _) dX14_next_137 (fun H locs hG hS => ?_)
        have hM := MD.puti (k := 50) (v := x29) hM (mfs_s50 _ _ _)
        have hF := hF.wo (e' := .inr (15, (mfs Ar Ij).set 50 (.int x29)))
        obtain ⟨I30, eI30⟩ : ∃ g, g = upd Ij 50 x29 := ⟨_, rfl⟩
        rw [← eI30] at hM
        have hgn := gn_MD hG hM hF
        clear hG hM hF
        obtain ⟨G31, hG, hM, hF⟩ := hgn
        refine lv_goto (tgt := 110) hx hb dX14_next_140 (by decide) ?_
        have hal1 : aln (ft (p9 + j9)) = true := le_al (by rw [← chr_le (hLs.2.2.2.2.2.2.2 (p9 + j9) hcs), ← er25]; exact b2i_t (by rw [← er27]; exact c_117))
        exact ih p9 (j9 + 1) I30 (by omega) hPA hp9 hle (fun k hk => by rcases Nat.lt_or_ge k j9 with z | z; exact hal k z; rw [show k = j9 by omega]; exact hal1) (by rw [eI30]; exact h54) (by rw [eI30]; show x29 = _; rw [ex29, h50, nI_1]; congr 1) (by rw [eI30]; exact h51) (by rw [eI30, IX_up (by decide)]; exact hIX) (by rw [eI30]; exact h55) G31 hM hF _ _ hG hS ls (lv_sub hl [0, 1] rfl)
      · skip
        refine lv_aload_n hx hb dX14_next_120 rfl (lv_at hl 0 rfl) ?_
        refine va_calli (va_runV (As := []) (rest := []) ⟨hx, hb, hml, hown, (fun _ h9 => absurd h9 List.not_mem_nil : ∀ w ∈ ([] : List Cond), w.before _ s = true)⟩ (c_M_here l D cy A X hst hXT Gv o Ar Ij F L (mdN sx) (F sx) hM (hLs.src hM) hs31 (hLjIj.hlo (p := (p9 + j9)) hpl (by exact h50)) hLjIj.hhi) (tb_cw (C := RX14) 0 hT tw_1644 tw_109 tw_1641 tw_1643 tw_63 rfl rfl hq_X14_here ⟨Nat.le_of_ble_eq_true rfl, Nat.le_of_ble_eq_true rfl⟩) (mk_preC hst hG hK hA hX hS vc_15 hM.1) rfl rfl hl.1 rfl (lv_room (Nat.le_of_ble_eq_true rfl)) dX14_next_121 ⟨Nat.le_of_ble_eq_true rfl, Nat.le_of_ble_eq_true rfl⟩) hS (fun q _ h => h) (fun q h => h) (fun r32 G33 t H locs ht hvm hw hB hz1 hk1 hS => ?_)
        have hG : mm D vwCl A G33 H := by rw [← ht]; exact hB
        clear hB hz1 hk1 hvm ht
        obtain ⟨er32, hw⟩ := hw
        rw [hw] at hG
        rw [hLjIj.hr (p := (p9 + j9)) hpl (by exact h50)] at er32
        rw [if_pos hcs] at er32
        refine va_calli (va_runS (As := [.int r32]) (rest := []) ⟨hx, hb, hml, hown, (fun _ h9 => absurd h9 List.not_mem_nil : ∀ w ∈ ([] : List Cond), w.before _ s = true)⟩ (c_M_isDi l D cy A X hst hXT Gv r32) (tb_cs 1 hT tw_1650 tw_109 tw_1648 tw_1649 rfl rfl hq_X14_isDigit ⟨Nat.le_of_ble_eq_true rfl, Nat.le_of_ble_eq_true rfl⟩) (mk_preS hst hG hK hA hX hS) rfl rfl hl.1 rfl (lv_room (Nat.le_of_ble_eq_true rfl)) dX14_next_124 ⟨Nat.le_of_ble_eq_true rfl, Nat.le_of_ble_eq_true rfl⟩) hS (fun q _ h => h) (fun q h => h) (fun r34 G35 t H locs ht hvm hw hB hz1 hk1 hS => ?_)
        have hG : mm D vwCl A G35 H := by rw [← ht]; exact hB
        clear hB hz1 hk1 hvm ht
        obtain ⟨er34, hw⟩ := hw
        rw [hw] at hG
        refine lv_if_eq (tgt := 143) hx hb dX14_next_127 (by decide) (fun c_127 => ?_) (fun c_127 => ?_)
        · skip
          have hi9 : i9 ≤ p9 := hPA.2.2.1
          have hend : p9 + j9 = en ∨ aln (ft (p9 + j9)) = false := Or.inr (by unfold aln; rw [show isLe (ft (p9 + j9)) = false by rw [← chr_le (hLs.2.2.2.2.2.2.2 (p9 + j9) hcs), ← er25]; exact b2i_f (by rw [← er27]; exact c_117), show isDi (ft (p9 + j9)) = false by rw [← chr_di (hLs.2.2.2.2.2.2.2 (p9 + j9) hcs), ← er32]; exact b2i_f (by rw [← er34]; exact c_127)]; rfl)
          have hj1 : 1 ≤ j9 := by rcases Nat.eq_zero_or_pos j9 with z | z; (rw [z, Nat.add_zero] at hend; rcases hend with z2 | z2; (exfalso; omega); (rw [le_al hle] at z2; cases z2)); exact z
          have hdj : Ij 50 - nI (fr + p9) = nI j9 := by rw [h50, nI_sb (by omega)]; congr 1; omega
          refine lv_aload_n hx hb dX14_next_143 rfl (lv_at hl 0 rfl) ?_
          refine lv_aload_n hx hb dX14_next_144 rfl (lv_at hl 0 rfl) ?_
          refine mm_get (v := .int (Ij 50)) hx hb hf_X14 (fun _ h9 => h9) hown hK hG hM.1 rfl 50 (by decide) (tb_use hT tw_1441) (fun _ h9 => h9) (mfs_g50 _ _) dX14_next_145 ?_
          refine lv_iload_n hx hb dX14_next_148 rfl (lv_at hl 1 rfl) ?_
          refine lv_isub hx hb dX14_next_149 ?_
          refine lv_bipush (v := 12) hx hb dX14_next_150 (by decide) ?_
          refine lv_icmp_le (tgt := 159) hx hb dX14_next_152 (by decide) (fun c_152 => ?_) (fun c_152 => ?_)
          · skip
            have hj12 : j9 ≤ 12 := nI_ge_of (a := 12) (by decide) (by omega) (by rw [← hdj]; exact c_152)
            have hw9 := wo_st (sf := F sx) (f := ft) (fr := fr) (a := p9) (n := j9) (fun k hk => by rw [Nat.add_assoc]; exact al_eq (hLs.2.2.2.2.2.2.2 (p9 + k) (by omega)) (hal k hk)) hal hle hj1
            obtain ⟨t2, t3, t4, t5⟩ := hPA.nam hp9 hle hal hend (by omega) hj12
            have hm9 : (ntL (tkK ft en) (tkV ft en) i9).1 < 1000 := by have z := hPA.m hp9 (le_al hle); omega
            refine lv_aload_n hx hb dX14_next_159 rfl (lv_at hl 0 rfl) ?_
            refine lv_iload_n hx hb dX14_next_160 rfl (lv_at hl 1 rfl) ?_
            refine lv_aload_n hx hb dX14_next_161 rfl (lv_at hl 0 rfl) ?_
            refine mm_get (v := .int (Ij 50)) hx hb hf_X14 (fun _ h9 => h9) hown hK hG hM.1 rfl 50 (by decide) (tb_use hT tw_1441) (fun _ h9 => h9) (mfs_g50 _ _) dX14_next_162 ?_
            rw [show Ij 50 = nI (fr + p9 + j9) by rw [h50, Nat.add_assoc]]
            refine va_calli (va_runV (As := [.int (nI (fr + p9)), .int (nI (fr + p9 + j9))]) (rest := [.ref o]) ⟨hx, hb, hml, hown, (fun _ h9 => absurd h9 List.not_mem_nil : ∀ w ∈ ([] : List Cond), w.before _ s = true)⟩ (c_M_wordOf l D cy A X hst hXT Gv o Ar Ij F L (mdN sx) (F sx) (fr + p9) (fr + p9 + j9) hM (hLs.src hM) (by omega) (by omega) (by omega)) (tb_cw (C := RX14) 2 hT tw_1654 tw_109 tw_1651 tw_1653 tw_64 rfl rfl hq_X14_wordOf ⟨Nat.le_of_ble_eq_true rfl, Nat.le_of_ble_eq_true rfl⟩) (mk_preC hst hG hK hA hX hS vc_15 hM.1) rfl rfl hl.1 rfl (lv_room (Nat.le_of_ble_eq_true rfl)) dX14_next_165 ⟨Nat.le_of_ble_eq_true rfl, Nat.le_of_ble_eq_true rfl⟩) hS (fun q _ h => h) (fun q h => h) (fun r36 G37 t H locs ht hvm hw hB hz1 hk1 hS => ?_)
            have hG : mm D vwCl A G37 H := by rw [← ht]; exact hB
            clear hB hz1 hk1 hvm ht
            obtain ⟨er36, hw⟩ := hw
            rw [hw] at hG
            refine mm_put (v := .int r36) (ty := .int) hx hb hf_X14 (fun _ h9 => h9) tyX14 tyX14_ok nmX14 hown hK hG hS hM.1 rfl 53 (by decide) (tb_use hT tw_1444) (fun _ h9 => h9) rfl (by decide +kernel) rfl rfl (mfs_l53 _ _) dX14_next_168 (fun H locs hG hS => ?_)
            have hM := MD.puti (k := 53) (v := r36) hM (mfs_s53 _ _ _)
            have hF := hF.wo (e' := .inr (15, (mfs Ar Ij).set 53 (.int r36)))
            obtain ⟨I38, eI38⟩ : ∃ g, g = upd Ij 53 r36 := ⟨_, rfl⟩
            rw [← eI38] at hM
            have hgn := gn_MD hG hM hF
            clear hG hM hF
            obtain ⟨G39, hG, hM, hF⟩ := hgn
            refine lv_aload_n hx hb dX14_next_171 rfl (lv_at hl 0 rfl) ?_
            refine lv_aload_n hx hb dX14_next_172 rfl (lv_at hl 0 rfl) ?_
            refine mm_get (v := .int (Ij 50)) hx hb hf_X14 (fun _ h9 => h9) hown hK hG hM.1 rfl 50 (by decide) (tb_use hT tw_1441) (fun _ h9 => h9) (by rw [mfs_g50, eI38] <;> rfl) dX14_next_173 ?_
            refine lv_iload_n hx hb dX14_next_176 rfl (lv_at hl 1 rfl) ?_
            refine lv_isub hx hb dX14_next_177 ?_
            refine lv_bipush (v := 12) hx hb dX14_next_178 (by decide) ?_
            refine lv_icmp_le (tgt := 187) hx hb dX14_next_180 (by decide) (fun c_180 => ?_) (fun c_180 => ?_)
            · skip
              refine lv_aload_n hx hb dX14_next_187 rfl (lv_at hl 0 rfl) ?_
              refine mm_get (v := .int r36) hx hb hf_X14 (fun _ h9 => h9) hown hK hG hM.1 rfl 53 (by decide) (tb_use hT tw_1444) (fun _ h9 => h9) (by rw [mfs_g53, eI38] <;> rfl) dX14_next_188 ?_
              refine lv_if_le (tgt := 198) hx hb dX14_next_191 (by decide) (fun c_191 => ?_) (fun c_191 => ?_)
              · skip
                refine lv_iconst (v := 2) hx hb dX14_next_198 (by decide) ?_
                refine mm_put (v := .int 2) (ty := .int) hx hb hf_X14 (fun _ h9 => h9) tyX14 tyX14_ok nmX14 hown hK hG hS hM.1 rfl 52 (by decide) (tb_use hT tw_1443) (fun _ h9 => h9) rfl (by decide +kernel) rfl rfl (mfs_l52 _ _) dX14_next_199 (fun H locs hG hS => ?_)
                have hM := MD.puti (k := 52) (v := 2) hM (mfs_s52 _ _ _)
                have hF := hF.wo (e' := .inr (15, (mfs Ar I38).set 52 (.int 2)))
                obtain ⟨I40, eI40⟩ : ∃ g, g = upd I38 52 2 := ⟨_, rfl⟩
                rw [← eI40] at hM
                have hgn := gn_MD hG hM hF
                clear hG hM hF
                obtain ⟨G41, hG, hM, hF⟩ := hgn
                refine lv_aload_n hx hb dX14_next_202 rfl (lv_at hl 0 rfl) ?_
                refine mm_get (v := .int 2) hx hb hf_X14 (fun _ h9 => h9) hown hK hG hM.1 rfl 52 (by decide) (tb_use hT tw_1443) (fun _ h9 => h9) (by rw [mfs_g52, eI40, eI38] <;> rfl) dX14_next_203 ?_
                refine lv_iconst (v := 2) hx hb dX14_next_206 (by decide) ?_
                refine lv_icmp_ne (tgt := 381) hx hb dX14_next_207 (by decide) (fun c_207 => ?_) (fun c_207 => ?_)
                · skip
                  exact absurd (by decide) c_207
                · skip
                  refine lv_aload_n hx hb dX14_next_210 rfl (lv_at hl 0 rfl) ?_
                  refine lv_aload_n hx hb dX14_next_211 rfl (lv_at hl 0 rfl) ?_
                  refine lv_iload_n hx hb dX14_next_212 rfl (lv_at hl 1 rfl) ?_
                  refine lv_aload_n hx hb dX14_next_213 rfl (lv_at hl 0 rfl) ?_
                  refine mm_get (v := .int (Ij 50)) hx hb hf_X14 (fun _ h9 => h9) hown hK hG hM.1 rfl 50 (by decide) (tb_use hT tw_1441) (fun _ h9 => h9) (by rw [mfs_g50, eI40, eI38] <;> rfl) dX14_next_214 ?_
                  rw [h50]
                  refine va_calli (va_runV (As := [.int (nI (fr + p9)), .int (nI (fr + (p9 + j9)))]) (rest := [.ref o]) ⟨hx, hb, hml, hown, (fun _ h9 => absurd h9 List.not_mem_nil : ∀ w ∈ ([] : List Cond), w.before _ s = true)⟩ (c_M_nameOf l D cy A X hst hXT G41 o Ar I40 F L ft sx fr en bo (ntL (tkK ft en) (tkV ft en) i9).1 p9 j9 (ntL (tkK ft en) (tkV ft en) i9).2 hM (hLs.mx (by rw [eI40, IX_up (by decide), eI38, IX_up (by decide)]; exact hIX) rfl) hNT hm9 (by omega) hj1 hj12 hal) (tb_cw (C := RX14) 2 hT tw_1689 tw_109 tw_1686 tw_1688 tw_66 rfl rfl hq_X14_nameOf ⟨Nat.le_of_ble_eq_true rfl, Nat.le_of_ble_eq_true rfl⟩) (mk_preC hst hG hK hA hX hS vc_15 hM.1) rfl rfl hl.1 rfl (lv_room (Nat.le_of_ble_eq_true rfl)) dX14_next_217 ⟨Nat.le_of_ble_eq_true rfl, Nat.le_of_ble_eq_true rfl⟩) hS (fun q _ h => h) (fun q h => h) (fun r42 G43 t H locs ht hvm hw hB hz1 hk1 hS => ?_)
                  have hG : mm D vwCl A G43 H := by rw [← ht]; exact hB
                  clear hB hz1 hk1 hvm ht
                  obtain ⟨er42, F2, hM2, hF2, hN2, hX2⟩ := hw
                  replace hF := hF.tr hF2
                  replace hM := hM2; clear hM2 hF2
                  refine mm_put (v := .int r42) (ty := .int) hx hb hf_X14 (fun _ h9 => h9) tyX14 tyX14_ok nmX14 hown hK hG hS hM.1 rfl 53 (by decide) (tb_use hT tw_1444) (fun _ h9 => h9) rfl (by decide +kernel) rfl rfl (mfs_l53 _ _) dX14_next_220 (fun H locs hG hS => ?_)
                  have hM := MD.puti (k := 53) (v := r42) hM (mfs_s53 _ _ _)
                  have hF := hF.wo (e' := .inr (15, (mfs Ar I40).set 53 (.int r42)))
                  obtain ⟨I44, eI44⟩ : ∃ g, g = upd I40 53 r42 := ⟨_, rfl⟩
                  rw [← eI44] at hM
                  have hgn := gn_MD hG hM hF
                  clear hG hM hF
                  obtain ⟨G45, hG, hM, hF⟩ := hgn
                  refine lv_goto (tgt := 381) hx hb dX14_next_223 (by decide) ?_
                  have w3 : stF ft p9 (p9 + j9) = none := by rcases hw9 with z | ⟨i, z1, z2, z3, z4⟩; exact z.1; exact absurd (by have y := c_191; rw [er36, z4] at y; exact y) (nI_ge (a := 0) (by omega) (by omega))
                  have t6 : tkK ft en i9 = 0 := by rw [t2, w3]; rfl
                  have t7 := ntL_z (V := tkV ft en) t6 (by omega)
                  rw [← t4] at hN2 er42
                  rw [← t7] at hN2
                  obtain ⟨u9, u1, u2, u3⟩ := @nuS_ok (ntL (tkK ft en) (tkV ft en) i9).1 (ntL (tkK ft en) (tkV ft en) i9).2 (tkV ft en i9)
                  rw [← t7] at u1 u3
                  have hJX : IX I44 = IX Iv := (by rw [eI44, IX_up (by decide), eI40, IX_up (by decide), eI38, IX_up (by decide)]; exact hIX)
                  exact W.vret hx hb hr (fun t ht hW => ⟨⟨_, rfl, ⟨_, _, hM, hF, ⟨hLs.mx hJX hX2, ⟨hPA.lt, (by omega)⟩, (by rw [eI44, eI40, eI38]; rw [t6]; exact Or.inl ⟨rfl, rfl, (by rw [t4]; exact pkd_pos hj12 hj1 hal), u9, u1, (by rw [← u2]; exact er42), u3⟩), ⟨p9, (by omega), t3, (by rw [eI44, eI40, eI38]; exact h54)⟩, (by rw [if_pos hfa]; rw [eI44, eI40, eI38]; exact h55), hN2, (fun _ _ => ⟨p9 + j9, t5, (by rw [eI44, eI40, eI38]; exact h50), (by rw [eI44, eI40, eI38]; rw [lnc_al hal]; exact h51)⟩)⟩, hJX, hX2⟩, mk_end hG ht⟩, hS.F ht⟩) hS.2.2 dX14_next_381
              · skip
                refine lv_iconst (v := 1) hx hb dX14_next_194 (by decide) ?_
                refine lv_goto (tgt := 199) hx hb dX14_next_195 (by decide) ?_
                refine mm_put (v := .int 1) (ty := .int) hx hb hf_X14 (fun _ h9 => h9) tyX14 tyX14_ok nmX14 hown hK hG hS hM.1 rfl 52 (by decide) (tb_use hT tw_1443) (fun _ h9 => h9) rfl (by decide +kernel) rfl rfl (mfs_l52 _ _) dX14_next_199 (fun H locs hG hS => ?_)
                have hM := MD.puti (k := 52) (v := 1) hM (mfs_s52 _ _ _)
                have hF := hF.wo (e' := .inr (15, (mfs Ar I38).set 52 (.int 1)))
                obtain ⟨I46, eI46⟩ : ∃ g, g = upd I38 52 1 := ⟨_, rfl⟩
                rw [← eI46] at hM
                have hgn := gn_MD hG hM hF
                clear hG hM hF
                obtain ⟨G47, hG, hM, hF⟩ := hgn
                refine lv_aload_n hx hb dX14_next_202 rfl (lv_at hl 0 rfl) ?_
                refine mm_get (v := .int 1) hx hb hf_X14 (fun _ h9 => h9) hown hK hG hM.1 rfl 52 (by decide) (tb_use hT tw_1443) (fun _ h9 => h9) (by rw [mfs_g52, eI46, eI38] <;> rfl) dX14_next_203 ?_
                refine lv_iconst (v := 2) hx hb dX14_next_206 (by decide) ?_
                refine lv_icmp_ne (tgt := 381) hx hb dX14_next_207 (by decide) (fun c_207 => ?_) (fun c_207 => ?_)
                · skip
                  obtain ⟨w9, w1, w2, w3, w4⟩ : ∃ i, 11 ≤ i ∧ i < 35 ∧ stF ft p9 (p9 + j9) = some i ∧ woR (F sx) (fr + p9) (fr + p9 + j9) = nI (i - 10) := by rcases hw9 with z | z; exact absurd (by rw [er36, z.2]; decide) c_191; exact z
                  have t6 : tkK ft en i9 = w9 := by rw [t2, w3]; rfl
                  have hJX : IX I46 = IX Iv := (by rw [eI46, IX_up (by decide), eI38, IX_up (by decide)]; exact hIX)
                  exact W.vret hx hb hr (fun t ht hW => ⟨⟨_, rfl, ⟨_, _, hM, hF, ⟨hLs.mx hJX rfl, ⟨hPA.lt, (by omega)⟩, (by rw [eI46, eI38]; rw [t6]; exact Or.inr (Or.inr (Or.inr (Or.inr (Or.inr ⟨w1, w2, rfl, er36.trans w4⟩))))), ⟨p9, (by omega), t3, (by rw [eI46, eI38]; exact h54)⟩, (by rw [if_pos hfa]; rw [eI46, eI38]; exact h55), (by rw [ntL_ne (by rw [t6]; omega)]; exact hNT), (fun _ _ => ⟨p9 + j9, t5, (by rw [eI46, eI38]; exact h50), (by rw [eI46, eI38]; rw [lnc_al hal]; exact h51)⟩)⟩, hJX, rfl⟩, mk_end hG ht⟩, hS.F ht⟩) hS.2.2 dX14_next_381
                · skip
                  exact absurd c_207 (by decide)
            · skip
              exact absurd c_152 c_180
          · skip
            refine lv_iconst (v := 0) hx hb dX14_next_155 (by decide) ?_
            refine lv_goto (tgt := 168) hx hb dX14_next_156 (by decide) ?_
            refine mm_put (v := .int 0) (ty := .int) hx hb hf_X14 (fun _ h9 => h9) tyX14 tyX14_ok nmX14 hown hK hG hS hM.1 rfl 53 (by decide) (tb_use hT tw_1444) (fun _ h9 => h9) rfl (by decide +kernel) rfl rfl (mfs_l53 _ _) dX14_next_168 (fun H locs hG hS => ?_)
            have hM := MD.puti (k := 53) (v := 0) hM (mfs_s53 _ _ _)
            have hF := hF.wo (e' := .inr (15, (mfs Ar Ij).set 53 (.int 0)))
            obtain ⟨I48, eI48⟩ : ∃ g, g = upd Ij 53 0 := ⟨_, rfl⟩
            rw [← eI48] at hM
            have hgn := gn_MD hG hM hF
            clear hG hM hF
            obtain ⟨G49, hG, hM, hF⟩ := hgn
            refine lv_aload_n hx hb dX14_next_171 rfl (lv_at hl 0 rfl) ?_
            refine lv_aload_n hx hb dX14_next_172 rfl (lv_at hl 0 rfl) ?_
            refine mm_get (v := .int (Ij 50)) hx hb hf_X14 (fun _ h9 => h9) hown hK hG hM.1 rfl 50 (by decide) (tb_use hT tw_1441) (fun _ h9 => h9) (by rw [mfs_g50, eI48] <;> rfl) dX14_next_173 ?_
            refine lv_iload_n hx hb dX14_next_176 rfl (lv_at hl 1 rfl) ?_
            refine lv_isub hx hb dX14_next_177 ?_
            refine lv_bipush (v := 12) hx hb dX14_next_178 (by decide) ?_
            refine lv_icmp_le (tgt := 187) hx hb dX14_next_180 (by decide) (fun c_180 => ?_) (fun c_180 => ?_)
            · skip
              exact absurd c_180 c_152
            · skip
              refine lv_iconst (v := 5) hx hb dX14_next_183 (by decide) ?_
              refine lv_goto (tgt := 199) hx hb dX14_next_184 (by decide) ?_
              refine mm_put (v := .int 5) (ty := .int) hx hb hf_X14 (fun _ h9 => h9) tyX14 tyX14_ok nmX14 hown hK hG hS hM.1 rfl 52 (by decide) (tb_use hT tw_1443) (fun _ h9 => h9) rfl (by decide +kernel) rfl rfl (mfs_l52 _ _) dX14_next_199 (fun H locs hG hS => ?_)
              have hM := MD.puti (k := 52) (v := 5) hM (mfs_s52 _ _ _)
              have hF := hF.wo (e' := .inr (15, (mfs Ar I48).set 52 (.int 5)))
              obtain ⟨I50, eI50⟩ : ∃ g, g = upd I48 52 5 := ⟨_, rfl⟩
              rw [← eI50] at hM
              have hgn := gn_MD hG hM hF
              clear hG hM hF
              obtain ⟨G51, hG, hM, hF⟩ := hgn
              refine lv_aload_n hx hb dX14_next_202 rfl (lv_at hl 0 rfl) ?_
              refine mm_get (v := .int 5) hx hb hf_X14 (fun _ h9 => h9) hown hK hG hM.1 rfl 52 (by decide) (tb_use hT tw_1443) (fun _ h9 => h9) (by rw [mfs_g52, eI50, eI48] <;> rfl) dX14_next_203 ?_
              refine lv_iconst (v := 2) hx hb dX14_next_206 (by decide) ?_
              refine lv_icmp_ne (tgt := 381) hx hb dX14_next_207 (by decide) (fun c_207 => ?_) (fun c_207 => ?_)
              · skip
                have hj12 : ¬ j9 ≤ 12 := fun z => c_152 (by rw [hdj]; exact nI_le (b := 12) z (by decide))
                obtain ⟨t2, x9, t3, t4, t5⟩ := hPA.nab hen hp9 hle hal hend (by omega) hj12
                have hJX : IX I50 = IX Iv := (by rw [eI50, IX_up (by decide), eI48, IX_up (by decide)]; exact hIX)
                exact W.vret hx hb hr (fun t ht hW => ⟨⟨_, rfl, ⟨_, _, hM, hF, ⟨hLs.mx hJX rfl, ⟨hPA.lt, (by omega)⟩, (by rw [eI50, eI48]; rw [t2]; exact Or.inr (Or.inr (Or.inr (Or.inl ⟨rfl, rfl⟩)))), ⟨x9, t3, t4, (by rw [eI50, eI48]; rw [t5]; exact h54)⟩, (by rw [if_pos hfa]; rw [eI50, eI48]; exact h55), (by rw [ntL_ne (by rw [t2]; decide)]; exact hNT), (fun _ z => absurd t2 z)⟩, hJX, rfl⟩, mk_end hG ht⟩, hS.F ht⟩) hS.2.2 dX14_next_381
              · skip
                exact absurd c_207 (by decide)
        · skip
          refine lv_aload_n hx hb dX14_next_130 rfl (lv_at hl 0 rfl) ?_
          refine lv_dup hx hb dX14_next_131 rfl ?_
          refine mm_get (v := .int (Ij 50)) hx hb hf_X14 (fun _ h9 => h9) hown hK hG hM.1 rfl 50 (by decide) (tb_use hT tw_1441) (fun _ h9 => h9) (mfs_g50 _ _) dX14_next_132 ?_
          refine lv_iconst (v := 1) hx hb dX14_next_135 (by decide) ?_
          refine lv_iadd hx hb dX14_next_136 ?_
          refine lv_topi (fun x52 ex52 => ?_)
          refine mm_put (v := .int x52) (ty := .int) hx hb hf_X14 (fun _ h9 => h9) tyX14 tyX14_ok nmX14 hown hK hG hS hM.1 rfl 50 (by decide) (tb_use hT tw_1441) (fun _ h9 => h9) rfl (by decide +kernel) rfl rfl (mfs_l50 _ _) dX14_next_137 (fun H locs hG hS => ?_)
          have hM := MD.puti (k := 50) (v := x52) hM (mfs_s50 _ _ _)
          have hF := hF.wo (e' := .inr (15, (mfs Ar Ij).set 50 (.int x52)))
          obtain ⟨I53, eI53⟩ : ∃ g, g = upd Ij 50 x52 := ⟨_, rfl⟩
          rw [← eI53] at hM
          have hgn := gn_MD hG hM hF
          clear hG hM hF
          obtain ⟨G54, hG, hM, hF⟩ := hgn
          refine lv_goto (tgt := 110) hx hb dX14_next_140 (by decide) ?_
          have hal1 : aln (ft (p9 + j9)) = true := di_al (by rw [← chr_di (hLs.2.2.2.2.2.2.2 (p9 + j9) hcs), ← er32]; exact b2i_t (by rw [← er34]; exact c_127))
          exact ih p9 (j9 + 1) I53 (by omega) hPA hp9 hle (fun k hk => by rcases Nat.lt_or_ge k j9 with z | z; exact hal k z; rw [show k = j9 by omega]; exact hal1) (by rw [eI53]; exact h54) (by rw [eI53]; show x52 = _; rw [ex52, h50, nI_1]; congr 1) (by rw [eI53]; exact h51) (by rw [eI53, IX_up (by decide)]; exact hIX) (by rw [eI53]; exact h55) G54 hM hF _ _ hG hS ls (lv_sub hl [0, 1] rfl)
  have hld : ∀ (n : Nat) (p9 j9 v9 : Nat) (Ij : Nat → Int32), (n + j9 = 7) → (PA ft en p9 i9) → (p9 < en) → (isLe (ft p9) = false) → (isDi (ft p9) = true) → (p9 + j9 ≤ en) → (∀ k, k < j9 → isDi (ft (p9 + k)) = true) → (v9 = dnn ft p9 j9) → (Ij 54 = lnc ft p9) → (Ij 50 = nI (fr + (p9 + j9))) → (Ij 51 = lnc ft p9) → (IX Ij = IX Iv) → (Ij 55 = 1) → ∀ (Gv : Nat → Option va_E), (MD cy Gv o Ar Ij F L) → (MF G Gv o Ar) → ∀ (H : Heap) (locs : List Loc), mm D vwCl A Gv H → va_S A s.heap H locs → ∀ ls : Array Slot, lv_has ls 4 [(0, .ref o), (1, .int (nI (fr + p9))), (3, .int (nI v9))] → W p l e (headSpec [.code yX14_next cX14_next 4 none] ({ frames := 3, cells := 0, slots := 0, locals := 90 })).room s m ([.ref o] : List Value).toArray below meth c H locs 0 0 (MQ below (va_Qv (fun (G2 : Nat → Option va_E) => ∃ (I2 : Nat → Int32) (F2 : Nat → Nat → Int32), MD cy G2 o Ar I2 F2 L ∧ MF G G2 o Ar ∧ LXq Ar I2 F2 ft sx fr en bo (i9, fa9) ∧ IX I2 = IX Iv ∧ FX F2 = FX F) (mk_B D vwCl A) A) ([.ref o] : List Value).toArray s 0 0 A) (F0 m 235 ls []) := by
    intro n
    induction n with
    | zero =>
      intro p9 j9 v9 Ij hn hPA hp9 hle hdi hpl hds hv h54 h50 h51 hIX h55 Gv hM hF H locs hG hS ls hl
      refine lv_aload_n hx hb dX14_next_235 rfl (lv_at hl 0 rfl) ?_
      have hLjIj : LXs Ar Ij F ft sx fr en bo := hLs.mx (by exact hIX) rfl
      refine va_calli (va_runV (As := []) (rest := []) ⟨hx, hb, hml, hown, (fun _ h9 => absurd h9 List.not_mem_nil : ∀ w ∈ ([] : List Cond), w.before _ s = true)⟩ (c_M_here l D cy A X hst hXT Gv o Ar Ij F L (mdN sx) (F sx) hM (hLs.src hM) hs31 (hLjIj.hlo (p := (p9 + j9)) hpl (by exact h50)) hLjIj.hhi) (tb_cw (C := RX14) 0 hT tw_1644 tw_109 tw_1641 tw_1643 tw_63 rfl rfl hq_X14_here ⟨Nat.le_of_ble_eq_true rfl, Nat.le_of_ble_eq_true rfl⟩) (mk_preC hst hG hK hA hX hS vc_15 hM.1) rfl rfl hl.1 rfl (lv_room (Nat.le_of_ble_eq_true rfl)) dX14_next_236 ⟨Nat.le_of_ble_eq_true rfl, Nat.le_of_ble_eq_true rfl⟩) hS (fun q _ h => h) (fun q h => h) (fun r55 G56 t H locs ht hvm hw hB hz1 hk1 hS => ?_)
      have hG : mm D vwCl A G56 H := by rw [← ht]; exact hB
      clear hB hz1 hk1 hvm ht
      obtain ⟨er55, hw⟩ := hw
      rw [hw] at hG
      rw [hLjIj.hr (p := (p9 + j9)) hpl (by exact h50)] at er55
      refine va_calli (va_runS (As := [.int r55]) (rest := []) ⟨hx, hb, hml, hown, (fun _ h9 => absurd h9 List.not_mem_nil : ∀ w ∈ ([] : List Cond), w.before _ s = true)⟩ (c_M_isDi l D cy A X hst hXT Gv r55) (tb_cs 1 hT tw_1650 tw_109 tw_1648 tw_1649 rfl rfl hq_X14_isDigit ⟨Nat.le_of_ble_eq_true rfl, Nat.le_of_ble_eq_true rfl⟩) (mk_preS hst hG hK hA hX hS) rfl rfl hl.1 rfl (lv_room (Nat.le_of_ble_eq_true rfl)) dX14_next_239 ⟨Nat.le_of_ble_eq_true rfl, Nat.le_of_ble_eq_true rfl⟩) hS (fun q _ h => h) (fun q h => h) (fun r57 G58 t H locs ht hvm hw hB hz1 hk1 hS => ?_)
      have hG : mm D vwCl A G58 H := by rw [← ht]; exact hB
      clear hB hz1 hk1 hvm ht
      obtain ⟨er57, hw⟩ := hw
      rw [hw] at hG
      refine lv_if_eq (tgt := 282) hx hb dX14_next_242 (by decide) (fun c_242 => ?_) (fun c_242 => ?_)
      · skip
        have hi9 : i9 ≤ p9 := hPA.2.2.1
        have hdj : Ij 50 - nI (fr + p9) = nI j9 := by rw [h50, nI_sb (by omega)]; congr 1; omega
        have hend : p9 + j9 = en ∨ isDi (ft (p9 + j9)) = false ∨ 6 < j9 := by have z := b2i_f (by rw [← er57]; exact c_242 : b2i (isDi r55) = 0); rw [er55, hx_di hLs] at z; rcases Nat.lt_or_ge (p9 + j9) en with y | y; (rw [decide_eq_true y] at z; exact Or.inr (Or.inl z)); exact Or.inl (by omega)
        refine lv_aload_n hx hb dX14_next_282 rfl (lv_at hl 0 rfl) ?_
        refine lv_aload_n hx hb dX14_next_283 rfl (lv_at hl 0 rfl) ?_
        refine mm_get (v := .int (Ij 50)) hx hb hf_X14 (fun _ h9 => h9) hown hK hG hM.1 rfl 50 (by decide) (tb_use hT tw_1441) (fun _ h9 => h9) (mfs_g50 _ _) dX14_next_284 ?_
        refine lv_iload_n hx hb dX14_next_287 rfl (lv_at hl 1 rfl) ?_
        refine lv_isub hx hb dX14_next_288 ?_
        refine lv_bipush (v := 6) hx hb dX14_next_289 (by decide) ?_
        refine lv_icmp_gt (tgt := 304) hx hb dX14_next_291 (by decide) (fun c_291 => ?_) (fun c_291 => ?_)
        · skip
          refine lv_iconst (v := 5) hx hb dX14_next_304 (by decide) ?_
          refine lv_goto (tgt := 309) hx hb dX14_next_305 (by decide) ?_
          refine mm_put (v := .int 5) (ty := .int) hx hb hf_X14 (fun _ h9 => h9) tyX14 tyX14_ok nmX14 hown hK hG hS hM.1 rfl 52 (by decide) (tb_use hT tw_1443) (fun _ h9 => h9) rfl (by decide +kernel) rfl rfl (mfs_l52 _ _) dX14_next_309 (fun H locs hG hS => ?_)
          have hM := MD.puti (k := 52) (v := 5) hM (mfs_s52 _ _ _)
          have hF := hF.wo (e' := .inr (15, (mfs Ar Ij).set 52 (.int 5)))
          obtain ⟨I59, eI59⟩ : ∃ g, g = upd Ij 52 5 := ⟨_, rfl⟩
          rw [← eI59] at hM
          have hgn := gn_MD hG hM hF
          clear hG hM hF
          obtain ⟨G60, hG, hM, hF⟩ := hgn
          refine lv_aload_n hx hb dX14_next_312 rfl (lv_at hl 0 rfl) ?_
          refine lv_iload_n hx hb dX14_next_313 rfl (lv_at hl 2 rfl) ?_
          refine lv_topi (fun x61 ex61 => ?_)
          refine mm_put (v := .int x61) (ty := .int) hx hb hf_X14 (fun _ h9 => h9) tyX14 tyX14_ok nmX14 hown hK hG hS hM.1 rfl 53 (by decide) (tb_use hT tw_1444) (fun _ h9 => h9) rfl (by decide +kernel) rfl rfl (mfs_l53 _ _) dX14_next_314 (fun H locs hG hS => ?_)
          have hM := MD.puti (k := 53) (v := x61) hM (mfs_s53 _ _ _)
          have hF := hF.wo (e' := .inr (15, (mfs Ar I59).set 53 (.int x61)))
          obtain ⟨I62, eI62⟩ : ∃ g, g = upd I59 53 x61 := ⟨_, rfl⟩
          rw [← eI62] at hM
          have hgn := gn_MD hG hM hF
          clear hG hM hF
          obtain ⟨G63, hG, hM, hF⟩ := hgn
          refine lv_goto (tgt := 381) hx hb dX14_next_317 (by decide) ?_
          have hj6 : 6 < j9 := nI_lt_of (by decide) (by omega) (by rw [← hdj]; exact Int32.not_le.mpr c_291)
          obtain ⟨t2, x9, t3, t4, t5⟩ := hPA.nub hen hp9 hle hdi hds hend (by omega) (Or.inl hj6)
          have hJX : IX I62 = IX Iv := (by rw [eI62, IX_up (by decide), eI59, IX_up (by decide)]; exact hIX)
          exact W.vret hx hb hr (fun t ht hW => ⟨⟨_, rfl, ⟨_, _, hM, hF, ⟨hLs.mx hJX rfl, ⟨hPA.lt, (by omega)⟩, (by rw [eI62, eI59]; rw [t2]; exact Or.inr (Or.inr (Or.inr (Or.inl ⟨rfl, rfl⟩)))), ⟨x9, t3, t4, (by rw [eI62, eI59]; rw [t5]; exact h54)⟩, (by rw [if_pos hfa]; rw [eI62, eI59]; exact h55), (by rw [ntL_ne (by rw [t2]; decide)]; exact hNT), (fun _ z => absurd t2 z)⟩, hJX, rfl⟩, mk_end hG ht⟩, hS.F ht⟩) hS.2.2 dX14_next_381
        · skip
          refine lv_aload_n hx hb dX14_next_294 rfl (lv_at hl 0 rfl) ?_
          refine va_calli (va_runV (As := []) (rest := [.ref o]) ⟨hx, hb, hml, hown, (fun _ h9 => absurd h9 List.not_mem_nil : ∀ w ∈ ([] : List Cond), w.before _ s = true)⟩ (c_M_here l D cy A X hst hXT Gv o Ar Ij F L (mdN sx) (F sx) hM (hLs.src hM) hs31 (hLjIj.hlo (p := (p9 + j9)) hpl (by exact h50)) hLjIj.hhi) (tb_cw (C := RX14) 0 hT tw_1644 tw_109 tw_1641 tw_1643 tw_63 rfl rfl hq_X14_here ⟨Nat.le_of_ble_eq_true rfl, Nat.le_of_ble_eq_true rfl⟩) (mk_preC hst hG hK hA hX hS vc_15 hM.1) rfl rfl hl.1 rfl (lv_room (Nat.le_of_ble_eq_true rfl)) dX14_next_295 ⟨Nat.le_of_ble_eq_true rfl, Nat.le_of_ble_eq_true rfl⟩) hS (fun q _ h => h) (fun q h => h) (fun r64 G65 t H locs ht hvm hw hB hz1 hk1 hS => ?_)
          have hG : mm D vwCl A G65 H := by rw [← ht]; exact hB
          clear hB hz1 hk1 hvm ht
          obtain ⟨er64, hw⟩ := hw
          rw [hw] at hG
          rw [hLjIj.hr (p := (p9 + j9)) hpl (by exact h50)] at er64
          refine va_calli (va_runS (As := [.int r64]) (rest := [.ref o]) ⟨hx, hb, hml, hown, (fun _ h9 => absurd h9 List.not_mem_nil : ∀ w ∈ ([] : List Cond), w.before _ s = true)⟩ (c_M_isLe l D cy A X hst hXT Gv r64) (tb_cs 1 hT tw_1647 tw_109 tw_1645 tw_1646 rfl rfl hq_X14_isLetter ⟨Nat.le_of_ble_eq_true rfl, Nat.le_of_ble_eq_true rfl⟩) (mk_preS hst hG hK hA hX hS) rfl rfl hl.1 rfl (lv_room (Nat.le_of_ble_eq_true rfl)) dX14_next_298 ⟨Nat.le_of_ble_eq_true rfl, Nat.le_of_ble_eq_true rfl⟩) hS (fun q _ h => h) (fun q h => h) (fun r66 G67 t H locs ht hvm hw hB hz1 hk1 hS => ?_)
          have hG : mm D vwCl A G67 H := by rw [← ht]; exact hB
          clear hB hz1 hk1 hvm ht
          obtain ⟨er66, hw⟩ := hw
          rw [hw] at hG
          refine lv_if_eq (tgt := 308) hx hb dX14_next_301 (by decide) (fun c_301 => ?_) (fun c_301 => ?_)
          · skip
            refine lv_iconst (v := 3) hx hb dX14_next_308 (by decide) ?_
            refine mm_put (v := .int 3) (ty := .int) hx hb hf_X14 (fun _ h9 => h9) tyX14 tyX14_ok nmX14 hown hK hG hS hM.1 rfl 52 (by decide) (tb_use hT tw_1443) (fun _ h9 => h9) rfl (by decide +kernel) rfl rfl (mfs_l52 _ _) dX14_next_309 (fun H locs hG hS => ?_)
            have hM := MD.puti (k := 52) (v := 3) hM (mfs_s52 _ _ _)
            have hF := hF.wo (e' := .inr (15, (mfs Ar Ij).set 52 (.int 3)))
            obtain ⟨I68, eI68⟩ : ∃ g, g = upd Ij 52 3 := ⟨_, rfl⟩
            rw [← eI68] at hM
            have hgn := gn_MD hG hM hF
            clear hG hM hF
            obtain ⟨G69, hG, hM, hF⟩ := hgn
            refine lv_aload_n hx hb dX14_next_312 rfl (lv_at hl 0 rfl) ?_
            refine lv_iload_n hx hb dX14_next_313 rfl (lv_at hl 2 rfl) ?_
            refine lv_topi (fun x70 ex70 => ?_)
            refine mm_put (v := .int x70) (ty := .int) hx hb hf_X14 (fun _ h9 => h9) tyX14 tyX14_ok nmX14 hown hK hG hS hM.1 rfl 53 (by decide) (tb_use hT tw_1444) (fun _ h9 => h9) rfl (by decide +kernel) rfl rfl (mfs_l53 _ _) dX14_next_314 (fun H locs hG hS => ?_)
            have hM := MD.puti (k := 53) (v := x70) hM (mfs_s53 _ _ _)
            have hF := hF.wo (e' := .inr (15, (mfs Ar I68).set 53 (.int x70)))
            obtain ⟨I71, eI71⟩ : ∃ g, g = upd I68 53 x70 := ⟨_, rfl⟩
            rw [← eI71] at hM
            have hgn := gn_MD hG hM hF
            clear hG hM hF
            obtain ⟨G72, hG, hM, hF⟩ := hgn
            refine lv_goto (tgt := 381) hx hb dX14_next_317 (by decide) ?_
            have hj6 : j9 ≤ 6 := by rcases Nat.lt_or_ge 6 j9 with z | z; exact absurd (by rw [hdj]; exact nI_lt z (by omega)) c_291; exact z
            have hlt : p9 + j9 < en → isLe (ft (p9 + j9)) = false := by intro y; have z := b2i_f (by rw [← er66]; exact c_301 : b2i (isLe r64) = 0); rw [er64, hx_le hLs, decide_eq_true y] at z; exact z
            obtain ⟨t2, t3, t4, t5⟩ := hPA.num hp9 hle hdi hds (by rcases hend with z | z | z; exact Or.inl z; exact Or.inr z; exfalso; omega) (by omega) hj6 hlt
            have hlt6 := Nat.lt_of_lt_of_le (dnn_lt hds) (Nat.pow_le_pow_right (show 0 < 10 by decide) hj6)
            have hJX : IX I71 = IX Iv := (by rw [eI71, IX_up (by decide), eI68, IX_up (by decide)]; exact hIX)
            exact W.vret hx hb hr (fun t ht hW => ⟨⟨_, rfl, ⟨_, _, hM, hF, ⟨hLs.mx hJX rfl, ⟨hPA.lt, (by omega)⟩, (by rw [eI71, eI68]; rw [t2, t4]; exact Or.inr (Or.inl ⟨rfl, rfl, dnn ft p9 j9, hlt6, (by show x70 = _; rw [ex70, hv]), rfl⟩)), ⟨p9, (by omega), t3, (by rw [eI71, eI68]; exact h54)⟩, (by rw [if_pos hfa]; rw [eI71, eI68]; exact h55), (by rw [ntL_ne (by rw [t2]; decide)]; exact hNT), (fun _ _ => ⟨p9 + j9, t5, (by rw [eI71, eI68]; exact h50), (by rw [eI71, eI68]; rw [lnc_al (fun k hk => di_al (hds k hk))]; exact h51)⟩)⟩, hJX, rfl⟩, mk_end hG ht⟩, hS.F ht⟩) hS.2.2 dX14_next_381
          · skip
            refine lv_iconst (v := 5) hx hb dX14_next_304 (by decide) ?_
            refine lv_goto (tgt := 309) hx hb dX14_next_305 (by decide) ?_
            refine mm_put (v := .int 5) (ty := .int) hx hb hf_X14 (fun _ h9 => h9) tyX14 tyX14_ok nmX14 hown hK hG hS hM.1 rfl 52 (by decide) (tb_use hT tw_1443) (fun _ h9 => h9) rfl (by decide +kernel) rfl rfl (mfs_l52 _ _) dX14_next_309 (fun H locs hG hS => ?_)
            have hM := MD.puti (k := 52) (v := 5) hM (mfs_s52 _ _ _)
            have hF := hF.wo (e' := .inr (15, (mfs Ar Ij).set 52 (.int 5)))
            obtain ⟨I73, eI73⟩ : ∃ g, g = upd Ij 52 5 := ⟨_, rfl⟩
            rw [← eI73] at hM
            have hgn := gn_MD hG hM hF
            clear hG hM hF
            obtain ⟨G74, hG, hM, hF⟩ := hgn
            refine lv_aload_n hx hb dX14_next_312 rfl (lv_at hl 0 rfl) ?_
            refine lv_iload_n hx hb dX14_next_313 rfl (lv_at hl 2 rfl) ?_
            refine lv_topi (fun x75 ex75 => ?_)
            refine mm_put (v := .int x75) (ty := .int) hx hb hf_X14 (fun _ h9 => h9) tyX14 tyX14_ok nmX14 hown hK hG hS hM.1 rfl 53 (by decide) (tb_use hT tw_1444) (fun _ h9 => h9) rfl (by decide +kernel) rfl rfl (mfs_l53 _ _) dX14_next_314 (fun H locs hG hS => ?_)
            have hM := MD.puti (k := 53) (v := x75) hM (mfs_s53 _ _ _)
            have hF := hF.wo (e' := .inr (15, (mfs Ar I73).set 53 (.int x75)))
            obtain ⟨I76, eI76⟩ : ∃ g, g = upd I73 53 x75 := ⟨_, rfl⟩
            rw [← eI76] at hM
            have hgn := gn_MD hG hM hF
            clear hG hM hF
            obtain ⟨G77, hG, hM, hF⟩ := hgn
            refine lv_goto (tgt := 381) hx hb dX14_next_317 (by decide) ?_
            have hj6 : j9 ≤ 6 := by rcases Nat.lt_or_ge 6 j9 with z | z; exact absurd (by rw [hdj]; exact nI_lt z (by omega)) c_291; exact z
            have hlt : p9 + j9 < en ∧ isLe (ft (p9 + j9)) = true := by have z := b2i_t (by rw [← er66]; exact c_301 : ¬ b2i (isLe r64) = 0); rw [er64, hx_le hLs, Bool.and_eq_true, decide_eq_true_eq] at z; exact z
            obtain ⟨t2, x9, t3, t4, t5⟩ := hPA.nub hen hp9 hle hdi hds hend (by omega) (Or.inr hlt)
            have hJX : IX I76 = IX Iv := (by rw [eI76, IX_up (by decide), eI73, IX_up (by decide)]; exact hIX)
            exact W.vret hx hb hr (fun t ht hW => ⟨⟨_, rfl, ⟨_, _, hM, hF, ⟨hLs.mx hJX rfl, ⟨hPA.lt, (by omega)⟩, (by rw [eI76, eI73]; rw [t2]; exact Or.inr (Or.inr (Or.inr (Or.inl ⟨rfl, rfl⟩)))), ⟨x9, t3, t4, (by rw [eI76, eI73]; rw [t5]; exact h54)⟩, (by rw [if_pos hfa]; rw [eI76, eI73]; exact h55), (by rw [ntL_ne (by rw [t2]; decide)]; exact hNT), (fun _ z => absurd t2 z)⟩, hJX, rfl⟩, mk_end hG ht⟩, hS.F ht⟩) hS.2.2 dX14_next_381
      · skip
        refine lv_aload_n hx hb dX14_next_245 rfl (lv_at hl 0 rfl) ?_
        refine mm_get (v := .int (Ij 50)) hx hb hf_X14 (fun _ h9 => h9) hown hK hG hM.1 rfl 50 (by decide) (tb_use hT tw_1441) (fun _ h9 => h9) (mfs_g50 _ _) dX14_next_246 ?_
        refine lv_iload_n hx hb dX14_next_249 rfl (lv_at hl 1 rfl) ?_
        refine lv_isub hx hb dX14_next_250 ?_
        refine lv_bipush (v := 7) hx hb dX14_next_251 (by decide) ?_
        refine lv_icmp_ge (tgt := 282) hx hb dX14_next_253 (by decide) (fun c_253 => ?_) (fun c_253 => ?_)
        · skip
          have hi9 : i9 ≤ p9 := hPA.2.2.1
          have hdj : Ij 50 - nI (fr + p9) = nI j9 := by rw [h50, nI_sb (by omega)]; congr 1; omega
          have hend : p9 + j9 = en ∨ isDi (ft (p9 + j9)) = false ∨ 6 < j9 := Or.inr (Or.inr (by have z := nI_ge_of (a := j9) (b := 7) (by omega) (by decide) (by rw [← hdj]; exact c_253); omega))
          refine lv_aload_n hx hb dX14_next_282 rfl (lv_at hl 0 rfl) ?_
          refine lv_aload_n hx hb dX14_next_283 rfl (lv_at hl 0 rfl) ?_
          refine mm_get (v := .int (Ij 50)) hx hb hf_X14 (fun _ h9 => h9) hown hK hG hM.1 rfl 50 (by decide) (tb_use hT tw_1441) (fun _ h9 => h9) (mfs_g50 _ _) dX14_next_284 ?_
          refine lv_iload_n hx hb dX14_next_287 rfl (lv_at hl 1 rfl) ?_
          refine lv_isub hx hb dX14_next_288 ?_
          refine lv_bipush (v := 6) hx hb dX14_next_289 (by decide) ?_
          refine lv_icmp_gt (tgt := 304) hx hb dX14_next_291 (by decide) (fun c_291 => ?_) (fun c_291 => ?_)
          · skip
            refine lv_iconst (v := 5) hx hb dX14_next_304 (by decide) ?_
            refine lv_goto (tgt := 309) hx hb dX14_next_305 (by decide) ?_
            refine mm_put (v := .int 5) (ty := .int) hx hb hf_X14 (fun _ h9 => h9) tyX14 tyX14_ok nmX14 hown hK hG hS hM.1 rfl 52 (by decide) (tb_use hT tw_1443) (fun _ h9 => h9) rfl (by decide +kernel) rfl rfl (mfs_l52 _ _) dX14_next_309 (fun H locs hG hS => ?_)
            have hM := MD.puti (k := 52) (v := 5) hM (mfs_s52 _ _ _)
            have hF := hF.wo (e' := .inr (15, (mfs Ar Ij).set 52 (.int 5)))
            obtain ⟨I78, eI78⟩ : ∃ g, g = upd Ij 52 5 := ⟨_, rfl⟩
            rw [← eI78] at hM
            have hgn := gn_MD hG hM hF
            clear hG hM hF
            obtain ⟨G79, hG, hM, hF⟩ := hgn
            refine lv_aload_n hx hb dX14_next_312 rfl (lv_at hl 0 rfl) ?_
            refine lv_iload_n hx hb dX14_next_313 rfl (lv_at hl 2 rfl) ?_
            refine lv_topi (fun x80 ex80 => ?_)
            refine mm_put (v := .int x80) (ty := .int) hx hb hf_X14 (fun _ h9 => h9) tyX14 tyX14_ok nmX14 hown hK hG hS hM.1 rfl 53 (by decide) (tb_use hT tw_1444) (fun _ h9 => h9) rfl (by decide +kernel) rfl rfl (mfs_l53 _ _) dX14_next_314 (fun H locs hG hS => ?_)
            have hM := MD.puti (k := 53) (v := x80) hM (mfs_s53 _ _ _)
            have hF := hF.wo (e' := .inr (15, (mfs Ar I78).set 53 (.int x80)))
            obtain ⟨I81, eI81⟩ : ∃ g, g = upd I78 53 x80 := ⟨_, rfl⟩
            rw [← eI81] at hM
            have hgn := gn_MD hG hM hF
            clear hG hM hF
            obtain ⟨G82, hG, hM, hF⟩ := hgn
            refine lv_goto (tgt := 381) hx hb dX14_next_317 (by decide) ?_
            have hj6 : 6 < j9 := nI_lt_of (by decide) (by omega) (by rw [← hdj]; exact Int32.not_le.mpr c_291)
            obtain ⟨t2, x9, t3, t4, t5⟩ := hPA.nub hen hp9 hle hdi hds hend (by omega) (Or.inl hj6)
            have hJX : IX I81 = IX Iv := (by rw [eI81, IX_up (by decide), eI78, IX_up (by decide)]; exact hIX)
            exact W.vret hx hb hr (fun t ht hW => ⟨⟨_, rfl, ⟨_, _, hM, hF, ⟨hLs.mx hJX rfl, ⟨hPA.lt, (by omega)⟩, (by rw [eI81, eI78]; rw [t2]; exact Or.inr (Or.inr (Or.inr (Or.inl ⟨rfl, rfl⟩)))), ⟨x9, t3, t4, (by rw [eI81, eI78]; rw [t5]; exact h54)⟩, (by rw [if_pos hfa]; rw [eI81, eI78]; exact h55), (by rw [ntL_ne (by rw [t2]; decide)]; exact hNT), (fun _ z => absurd t2 z)⟩, hJX, rfl⟩, mk_end hG ht⟩, hS.F ht⟩) hS.2.2 dX14_next_381
          · skip
            refine lv_aload_n hx hb dX14_next_294 rfl (lv_at hl 0 rfl) ?_
            refine va_calli (va_runV (As := []) (rest := [.ref o]) ⟨hx, hb, hml, hown, (fun _ h9 => absurd h9 List.not_mem_nil : ∀ w ∈ ([] : List Cond), w.before _ s = true)⟩ (c_M_here l D cy A X hst hXT Gv o Ar Ij F L (mdN sx) (F sx) hM (hLs.src hM) hs31 (hLjIj.hlo (p := (p9 + j9)) hpl (by exact h50)) hLjIj.hhi) (tb_cw (C := RX14) 0 hT tw_1644 tw_109 tw_1641 tw_1643 tw_63 rfl rfl hq_X14_here ⟨Nat.le_of_ble_eq_true rfl, Nat.le_of_ble_eq_true rfl⟩) (mk_preC hst hG hK hA hX hS vc_15 hM.1) rfl rfl hl.1 rfl (lv_room (Nat.le_of_ble_eq_true rfl)) dX14_next_295 ⟨Nat.le_of_ble_eq_true rfl, Nat.le_of_ble_eq_true rfl⟩) hS (fun q _ h => h) (fun q h => h) (fun r83 G84 t H locs ht hvm hw hB hz1 hk1 hS => ?_)
            have hG : mm D vwCl A G84 H := by rw [← ht]; exact hB
            clear hB hz1 hk1 hvm ht
            obtain ⟨er83, hw⟩ := hw
            rw [hw] at hG
            rw [hLjIj.hr (p := (p9 + j9)) hpl (by exact h50)] at er83
            refine va_calli (va_runS (As := [.int r83]) (rest := [.ref o]) ⟨hx, hb, hml, hown, (fun _ h9 => absurd h9 List.not_mem_nil : ∀ w ∈ ([] : List Cond), w.before _ s = true)⟩ (c_M_isLe l D cy A X hst hXT Gv r83) (tb_cs 1 hT tw_1647 tw_109 tw_1645 tw_1646 rfl rfl hq_X14_isLetter ⟨Nat.le_of_ble_eq_true rfl, Nat.le_of_ble_eq_true rfl⟩) (mk_preS hst hG hK hA hX hS) rfl rfl hl.1 rfl (lv_room (Nat.le_of_ble_eq_true rfl)) dX14_next_298 ⟨Nat.le_of_ble_eq_true rfl, Nat.le_of_ble_eq_true rfl⟩) hS (fun q _ h => h) (fun q h => h) (fun r85 G86 t H locs ht hvm hw hB hz1 hk1 hS => ?_)
            have hG : mm D vwCl A G86 H := by rw [← ht]; exact hB
            clear hB hz1 hk1 hvm ht
            obtain ⟨er85, hw⟩ := hw
            rw [hw] at hG
            refine lv_if_eq (tgt := 308) hx hb dX14_next_301 (by decide) (fun c_301 => ?_) (fun c_301 => ?_)
            · skip
              refine lv_iconst (v := 3) hx hb dX14_next_308 (by decide) ?_
              refine mm_put (v := .int 3) (ty := .int) hx hb hf_X14 (fun _ h9 => h9) tyX14 tyX14_ok nmX14 hown hK hG hS hM.1 rfl 52 (by decide) (tb_use hT tw_1443) (fun _ h9 => h9) rfl (by decide +kernel) rfl rfl (mfs_l52 _ _) dX14_next_309 (fun H locs hG hS => ?_)
              have hM := MD.puti (k := 52) (v := 3) hM (mfs_s52 _ _ _)
              have hF := hF.wo (e' := .inr (15, (mfs Ar Ij).set 52 (.int 3)))
              obtain ⟨I87, eI87⟩ : ∃ g, g = upd Ij 52 3 := ⟨_, rfl⟩
              rw [← eI87] at hM
              have hgn := gn_MD hG hM hF
              clear hG hM hF
              obtain ⟨G88, hG, hM, hF⟩ := hgn
              refine lv_aload_n hx hb dX14_next_312 rfl (lv_at hl 0 rfl) ?_
              refine lv_iload_n hx hb dX14_next_313 rfl (lv_at hl 2 rfl) ?_
              refine lv_topi (fun x89 ex89 => ?_)
              refine mm_put (v := .int x89) (ty := .int) hx hb hf_X14 (fun _ h9 => h9) tyX14 tyX14_ok nmX14 hown hK hG hS hM.1 rfl 53 (by decide) (tb_use hT tw_1444) (fun _ h9 => h9) rfl (by decide +kernel) rfl rfl (mfs_l53 _ _) dX14_next_314 (fun H locs hG hS => ?_)
              have hM := MD.puti (k := 53) (v := x89) hM (mfs_s53 _ _ _)
              have hF := hF.wo (e' := .inr (15, (mfs Ar I87).set 53 (.int x89)))
              obtain ⟨I90, eI90⟩ : ∃ g, g = upd I87 53 x89 := ⟨_, rfl⟩
              rw [← eI90] at hM
              have hgn := gn_MD hG hM hF
              clear hG hM hF
              obtain ⟨G91, hG, hM, hF⟩ := hgn
              refine lv_goto (tgt := 381) hx hb dX14_next_317 (by decide) ?_
              have hj6 : j9 ≤ 6 := by rcases Nat.lt_or_ge 6 j9 with z | z; exact absurd (by rw [hdj]; exact nI_lt z (by omega)) c_291; exact z
              have hlt : p9 + j9 < en → isLe (ft (p9 + j9)) = false := by intro y; have z := b2i_f (by rw [← er85]; exact c_301 : b2i (isLe r83) = 0); rw [er83, hx_le hLs, decide_eq_true y] at z; exact z
              obtain ⟨t2, t3, t4, t5⟩ := hPA.num hp9 hle hdi hds (by rcases hend with z | z | z; exact Or.inl z; exact Or.inr z; exfalso; omega) (by omega) hj6 hlt
              have hlt6 := Nat.lt_of_lt_of_le (dnn_lt hds) (Nat.pow_le_pow_right (show 0 < 10 by decide) hj6)
              have hJX : IX I90 = IX Iv := (by rw [eI90, IX_up (by decide), eI87, IX_up (by decide)]; exact hIX)
              exact W.vret hx hb hr (fun t ht hW => ⟨⟨_, rfl, ⟨_, _, hM, hF, ⟨hLs.mx hJX rfl, ⟨hPA.lt, (by omega)⟩, (by rw [eI90, eI87]; rw [t2, t4]; exact Or.inr (Or.inl ⟨rfl, rfl, dnn ft p9 j9, hlt6, (by show x89 = _; rw [ex89, hv]), rfl⟩)), ⟨p9, (by omega), t3, (by rw [eI90, eI87]; exact h54)⟩, (by rw [if_pos hfa]; rw [eI90, eI87]; exact h55), (by rw [ntL_ne (by rw [t2]; decide)]; exact hNT), (fun _ _ => ⟨p9 + j9, t5, (by rw [eI90, eI87]; exact h50), (by rw [eI90, eI87]; rw [lnc_al (fun k hk => di_al (hds k hk))]; exact h51)⟩)⟩, hJX, rfl⟩, mk_end hG ht⟩, hS.F ht⟩) hS.2.2 dX14_next_381
            · skip
              refine lv_iconst (v := 5) hx hb dX14_next_304 (by decide) ?_
              refine lv_goto (tgt := 309) hx hb dX14_next_305 (by decide) ?_
              refine mm_put (v := .int 5) (ty := .int) hx hb hf_X14 (fun _ h9 => h9) tyX14 tyX14_ok nmX14 hown hK hG hS hM.1 rfl 52 (by decide) (tb_use hT tw_1443) (fun _ h9 => h9) rfl (by decide +kernel) rfl rfl (mfs_l52 _ _) dX14_next_309 (fun H locs hG hS => ?_)
              have hM := MD.puti (k := 52) (v := 5) hM (mfs_s52 _ _ _)
              have hF := hF.wo (e' := .inr (15, (mfs Ar Ij).set 52 (.int 5)))
              obtain ⟨I92, eI92⟩ : ∃ g, g = upd Ij 52 5 := ⟨_, rfl⟩
              rw [← eI92] at hM
              have hgn := gn_MD hG hM hF
              clear hG hM hF
              obtain ⟨G93, hG, hM, hF⟩ := hgn
              refine lv_aload_n hx hb dX14_next_312 rfl (lv_at hl 0 rfl) ?_
              refine lv_iload_n hx hb dX14_next_313 rfl (lv_at hl 2 rfl) ?_
              refine lv_topi (fun x94 ex94 => ?_)
              refine mm_put (v := .int x94) (ty := .int) hx hb hf_X14 (fun _ h9 => h9) tyX14 tyX14_ok nmX14 hown hK hG hS hM.1 rfl 53 (by decide) (tb_use hT tw_1444) (fun _ h9 => h9) rfl (by decide +kernel) rfl rfl (mfs_l53 _ _) dX14_next_314 (fun H locs hG hS => ?_)
              have hM := MD.puti (k := 53) (v := x94) hM (mfs_s53 _ _ _)
              have hF := hF.wo (e' := .inr (15, (mfs Ar I92).set 53 (.int x94)))
              obtain ⟨I95, eI95⟩ : ∃ g, g = upd I92 53 x94 := ⟨_, rfl⟩
              rw [← eI95] at hM
              have hgn := gn_MD hG hM hF
              clear hG hM hF
              obtain ⟨G96, hG, hM, hF⟩ := hgn
              refine lv_goto (tgt := 381) hx hb dX14_next_317 (by decide) ?_
              have hj6 : j9 ≤ 6 := by rcases Nat.lt_or_ge 6 j9 with z | z; exact absurd (by rw [hdj]; exact nI_lt z (by omega)) c_291; exact z
              have hlt : p9 + j9 < en ∧ isLe (ft (p9 + j9)) = true := by have z := b2i_t (by rw [← er85]; exact c_301 : ¬ b2i (isLe r83) = 0); rw [er83, hx_le hLs, Bool.and_eq_true, decide_eq_true_eq] at z; exact z
              obtain ⟨t2, x9, t3, t4, t5⟩ := hPA.nub hen hp9 hle hdi hds hend (by omega) (Or.inr hlt)
              have hJX : IX I95 = IX Iv := (by rw [eI95, IX_up (by decide), eI92, IX_up (by decide)]; exact hIX)
              exact W.vret hx hb hr (fun t ht hW => ⟨⟨_, rfl, ⟨_, _, hM, hF, ⟨hLs.mx hJX rfl, ⟨hPA.lt, (by omega)⟩, (by rw [eI95, eI92]; rw [t2]; exact Or.inr (Or.inr (Or.inr (Or.inl ⟨rfl, rfl⟩)))), ⟨x9, t3, t4, (by rw [eI95, eI92]; rw [t5]; exact h54)⟩, (by rw [if_pos hfa]; rw [eI95, eI92]; exact h55), (by rw [ntL_ne (by rw [t2]; decide)]; exact hNT), (fun _ z => absurd t2 z)⟩, hJX, rfl⟩, mk_end hG ht⟩, hS.F ht⟩) hS.2.2 dX14_next_381
        · skip
          exact absurd (by rw [show Ij 50 - nI (fr + p9) = nI j9 by rw [h50, nI_sb (by omega)]; congr 1; omega]; exact nI_le (a := 7) (by omega) (by omega)) c_253
    | succ n ih =>
      intro p9 j9 v9 Ij hn hPA hp9 hle hdi hpl hds hv h54 h50 h51 hIX h55 Gv hM hF H locs hG hS ls hl
      refine lv_aload_n hx hb dX14_next_235 rfl (lv_at hl 0 rfl) ?_
      have hLjIj : LXs Ar Ij F ft sx fr en bo := hLs.mx (by exact hIX) rfl
      refine va_calli (va_runV (As := []) (rest := []) ⟨hx, hb, hml, hown, (fun _ h9 => absurd h9 List.not_mem_nil : ∀ w ∈ ([] : List Cond), w.before _ s = true)⟩ (c_M_here l D cy A X hst hXT Gv o Ar Ij F L (mdN sx) (F sx) hM (hLs.src hM) hs31 (hLjIj.hlo (p := (p9 + j9)) hpl (by exact h50)) hLjIj.hhi) (tb_cw (C := RX14) 0 hT tw_1644 tw_109 tw_1641 tw_1643 tw_63 rfl rfl hq_X14_here ⟨Nat.le_of_ble_eq_true rfl, Nat.le_of_ble_eq_true rfl⟩) (mk_preC hst hG hK hA hX hS vc_15 hM.1) rfl rfl hl.1 rfl (lv_room (Nat.le_of_ble_eq_true rfl)) dX14_next_236 ⟨Nat.le_of_ble_eq_true rfl, Nat.le_of_ble_eq_true rfl⟩) hS (fun q _ h => h) (fun q h => h) (fun r97 G98 t H locs ht hvm hw hB hz1 hk1 hS => ?_)
      have hG : mm D vwCl A G98 H := by rw [← ht]; exact hB
      clear hB hz1 hk1 hvm ht
      obtain ⟨er97, hw⟩ := hw
      rw [hw] at hG
      rw [hLjIj.hr (p := (p9 + j9)) hpl (by exact h50)] at er97
      refine va_calli (va_runS (As := [.int r97]) (rest := []) ⟨hx, hb, hml, hown, (fun _ h9 => absurd h9 List.not_mem_nil : ∀ w ∈ ([] : List Cond), w.before _ s = true)⟩ (c_M_isDi l D cy A X hst hXT Gv r97) (tb_cs 1 hT tw_1650 tw_109 tw_1648 tw_1649 rfl rfl hq_X14_isDigit ⟨Nat.le_of_ble_eq_true rfl, Nat.le_of_ble_eq_true rfl⟩) (mk_preS hst hG hK hA hX hS) rfl rfl hl.1 rfl (lv_room (Nat.le_of_ble_eq_true rfl)) dX14_next_239 ⟨Nat.le_of_ble_eq_true rfl, Nat.le_of_ble_eq_true rfl⟩) hS (fun q _ h => h) (fun q h => h) (fun r99 G100 t H locs ht hvm hw hB hz1 hk1 hS => ?_)
      have hG : mm D vwCl A G100 H := by rw [← ht]; exact hB
      clear hB hz1 hk1 hvm ht
      obtain ⟨er99, hw⟩ := hw
      rw [hw] at hG
      refine lv_if_eq (tgt := 282) hx hb dX14_next_242 (by decide) (fun c_242 => ?_) (fun c_242 => ?_)
      · skip
        have hi9 : i9 ≤ p9 := hPA.2.2.1
        have hdj : Ij 50 - nI (fr + p9) = nI j9 := by rw [h50, nI_sb (by omega)]; congr 1; omega
        have hend : p9 + j9 = en ∨ isDi (ft (p9 + j9)) = false ∨ 6 < j9 := by have z := b2i_f (by rw [← er99]; exact c_242 : b2i (isDi r97) = 0); rw [er97, hx_di hLs] at z; rcases Nat.lt_or_ge (p9 + j9) en with y | y; (rw [decide_eq_true y] at z; exact Or.inr (Or.inl z)); exact Or.inl (by omega)
        refine lv_aload_n hx hb dX14_next_282 rfl (lv_at hl 0 rfl) ?_
        refine lv_aload_n hx hb dX14_next_283 rfl (lv_at hl 0 rfl) ?_
        refine mm_get (v := .int (Ij 50)) hx hb hf_X14 (fun _ h9 => h9) hown hK hG hM.1 rfl 50 (by decide) (tb_use hT tw_1441) (fun _ h9 => h9) (mfs_g50 _ _) dX14_next_284 ?_
        refine lv_iload_n hx hb dX14_next_287 rfl (lv_at hl 1 rfl) ?_
        refine lv_isub hx hb dX14_next_288 ?_
        refine lv_bipush (v := 6) hx hb dX14_next_289 (by decide) ?_
        refine lv_icmp_gt (tgt := 304) hx hb dX14_next_291 (by decide) (fun c_291 => ?_) (fun c_291 => ?_)
        · skip
          refine lv_iconst (v := 5) hx hb dX14_next_304 (by decide) ?_
          refine lv_goto (tgt := 309) hx hb dX14_next_305 (by decide) ?_
          refine mm_put (v := .int 5) (ty := .int) hx hb hf_X14 (fun _ h9 => h9) tyX14 tyX14_ok nmX14 hown hK hG hS hM.1 rfl 52 (by decide) (tb_use hT tw_1443) (fun _ h9 => h9) rfl (by decide +kernel) rfl rfl (mfs_l52 _ _) dX14_next_309 (fun H locs hG hS => ?_)
          have hM := MD.puti (k := 52) (v := 5) hM (mfs_s52 _ _ _)
          have hF := hF.wo (e' := .inr (15, (mfs Ar Ij).set 52 (.int 5)))
          obtain ⟨I101, eI101⟩ : ∃ g, g = upd Ij 52 5 := ⟨_, rfl⟩
          rw [← eI101] at hM
          have hgn := gn_MD hG hM hF
          clear hG hM hF
          obtain ⟨G102, hG, hM, hF⟩ := hgn
          refine lv_aload_n hx hb dX14_next_312 rfl (lv_at hl 0 rfl) ?_
          refine lv_iload_n hx hb dX14_next_313 rfl (lv_at hl 2 rfl) ?_
          refine lv_topi (fun x103 ex103 => ?_)
          refine mm_put (v := .int x103) (ty := .int) hx hb hf_X14 (fun _ h9 => h9) tyX14 tyX14_ok nmX14 hown hK hG hS hM.1 rfl 53 (by decide) (tb_use hT tw_1444) (fun _ h9 => h9) rfl (by decide +kernel) rfl rfl (mfs_l53 _ _) dX14_next_314 (fun H locs hG hS => ?_)
          have hM := MD.puti (k := 53) (v := x103) hM (mfs_s53 _ _ _)
          have hF := hF.wo (e' := .inr (15, (mfs Ar I101).set 53 (.int x103)))
          obtain ⟨I104, eI104⟩ : ∃ g, g = upd I101 53 x103 := ⟨_, rfl⟩
          rw [← eI104] at hM
          have hgn := gn_MD hG hM hF
          clear hG hM hF
          obtain ⟨G105, hG, hM, hF⟩ := hgn
          refine lv_goto (tgt := 381) hx hb dX14_next_317 (by decide) ?_
          have hj6 : 6 < j9 := nI_lt_of (by decide) (by omega) (by rw [← hdj]; exact Int32.not_le.mpr c_291)
          obtain ⟨t2, x9, t3, t4, t5⟩ := hPA.nub hen hp9 hle hdi hds hend (by omega) (Or.inl hj6)
          have hJX : IX I104 = IX Iv := (by rw [eI104, IX_up (by decide), eI101, IX_up (by decide)]; exact hIX)
          exact W.vret hx hb hr (fun t ht hW => ⟨⟨_, rfl, ⟨_, _, hM, hF, ⟨hLs.mx hJX rfl, ⟨hPA.lt, (by omega)⟩, (by rw [eI104, eI101]; rw [t2]; exact Or.inr (Or.inr (Or.inr (Or.inl ⟨rfl, rfl⟩)))), ⟨x9, t3, t4, (by rw [eI104, eI101]; rw [t5]; exact h54)⟩, (by rw [if_pos hfa]; rw [eI104, eI101]; exact h55), (by rw [ntL_ne (by rw [t2]; decide)]; exact hNT), (fun _ z => absurd t2 z)⟩, hJX, rfl⟩, mk_end hG ht⟩, hS.F ht⟩) hS.2.2 dX14_next_381
        · skip
          refine lv_aload_n hx hb dX14_next_294 rfl (lv_at hl 0 rfl) ?_
          refine va_calli (va_runV (As := []) (rest := [.ref o]) ⟨hx, hb, hml, hown, (fun _ h9 => absurd h9 List.not_mem_nil : ∀ w ∈ ([] : List Cond), w.before _ s = true)⟩ (c_M_here l D cy A X hst hXT Gv o Ar Ij F L (mdN sx) (F sx) hM (hLs.src hM) hs31 (hLjIj.hlo (p := (p9 + j9)) hpl (by exact h50)) hLjIj.hhi) (tb_cw (C := RX14) 0 hT tw_1644 tw_109 tw_1641 tw_1643 tw_63 rfl rfl hq_X14_here ⟨Nat.le_of_ble_eq_true rfl, Nat.le_of_ble_eq_true rfl⟩) (mk_preC hst hG hK hA hX hS vc_15 hM.1) rfl rfl hl.1 rfl (lv_room (Nat.le_of_ble_eq_true rfl)) dX14_next_295 ⟨Nat.le_of_ble_eq_true rfl, Nat.le_of_ble_eq_true rfl⟩) hS (fun q _ h => h) (fun q h => h) (fun r106 G107 t H locs ht hvm hw hB hz1 hk1 hS => ?_)
          have hG : mm D vwCl A G107 H := by rw [← ht]; exact hB
          clear hB hz1 hk1 hvm ht
          obtain ⟨er106, hw⟩ := hw
          rw [hw] at hG
          rw [hLjIj.hr (p := (p9 + j9)) hpl (by exact h50)] at er106
          refine va_calli (va_runS (As := [.int r106]) (rest := [.ref o]) ⟨hx, hb, hml, hown, (fun _ h9 => absurd h9 List.not_mem_nil : ∀ w ∈ ([] : List Cond), w.before _ s = true)⟩ (c_M_isLe l D cy A X hst hXT Gv r106) (tb_cs 1 hT tw_1647 tw_109 tw_1645 tw_1646 rfl rfl hq_X14_isLetter ⟨Nat.le_of_ble_eq_true rfl, Nat.le_of_ble_eq_true rfl⟩) (mk_preS hst hG hK hA hX hS) rfl rfl hl.1 rfl (lv_room (Nat.le_of_ble_eq_true rfl)) dX14_next_298 ⟨Nat.le_of_ble_eq_true rfl, Nat.le_of_ble_eq_true rfl⟩) hS (fun q _ h => h) (fun q h => h) (fun r108 G109 t H locs ht hvm hw hB hz1 hk1 hS => ?_)
          have hG : mm D vwCl A G109 H := by rw [← ht]; exact hB
          clear hB hz1 hk1 hvm ht
          obtain ⟨er108, hw⟩ := hw
          rw [hw] at hG
          refine lv_if_eq (tgt := 308) hx hb dX14_next_301 (by decide) (fun c_301 => ?_) (fun c_301 => ?_)
          · skip
            refine lv_iconst (v := 3) hx hb dX14_next_308 (by decide) ?_
            refine mm_put (v := .int 3) (ty := .int) hx hb hf_X14 (fun _ h9 => h9) tyX14 tyX14_ok nmX14 hown hK hG hS hM.1 rfl 52 (by decide) (tb_use hT tw_1443) (fun _ h9 => h9) rfl (by decide +kernel) rfl rfl (mfs_l52 _ _) dX14_next_309 (fun H locs hG hS => ?_)
            have hM := MD.puti (k := 52) (v := 3) hM (mfs_s52 _ _ _)
            have hF := hF.wo (e' := .inr (15, (mfs Ar Ij).set 52 (.int 3)))
            obtain ⟨I110, eI110⟩ : ∃ g, g = upd Ij 52 3 := ⟨_, rfl⟩
            rw [← eI110] at hM
            have hgn := gn_MD hG hM hF
            clear hG hM hF
            obtain ⟨G111, hG, hM, hF⟩ := hgn
            refine lv_aload_n hx hb dX14_next_312 rfl (lv_at hl 0 rfl) ?_
            refine lv_iload_n hx hb dX14_next_313 rfl (lv_at hl 2 rfl) ?_
            refine lv_topi (fun x112 ex112 => ?_)
            refine mm_put (v := .int x112) (ty := .int) hx hb hf_X14 (fun _ h9 => h9) tyX14 tyX14_ok nmX14 hown hK hG hS hM.1 rfl 53 (by decide) (tb_use hT tw_1444) (fun _ h9 => h9) rfl (by decide +kernel) rfl rfl (mfs_l53 _ _) dX14_next_314 (fun H locs hG hS => ?_)
            have hM := MD.puti (k := 53) (v := x112) hM (mfs_s53 _ _ _)
            have hF := hF.wo (e' := .inr (15, (mfs Ar I110).set 53 (.int x112)))
            obtain ⟨I113, eI113⟩ : ∃ g, g = upd I110 53 x112 := ⟨_, rfl⟩
            rw [← eI113] at hM
            have hgn := gn_MD hG hM hF
            clear hG hM hF
            obtain ⟨G114, hG, hM, hF⟩ := hgn
            refine lv_goto (tgt := 381) hx hb dX14_next_317 (by decide) ?_
            have hj6 : j9 ≤ 6 := by rcases Nat.lt_or_ge 6 j9 with z | z; exact absurd (by rw [hdj]; exact nI_lt z (by omega)) c_291; exact z
            have hlt : p9 + j9 < en → isLe (ft (p9 + j9)) = false := by intro y; have z := b2i_f (by rw [← er108]; exact c_301 : b2i (isLe r106) = 0); rw [er106, hx_le hLs, decide_eq_true y] at z; exact z
            obtain ⟨t2, t3, t4, t5⟩ := hPA.num hp9 hle hdi hds (by rcases hend with z | z | z; exact Or.inl z; exact Or.inr z; exfalso; omega) (by omega) hj6 hlt
            have hlt6 := Nat.lt_of_lt_of_le (dnn_lt hds) (Nat.pow_le_pow_right (show 0 < 10 by decide) hj6)
            have hJX : IX I113 = IX Iv := (by rw [eI113, IX_up (by decide), eI110, IX_up (by decide)]; exact hIX)
            exact W.vret hx hb hr (fun t ht hW => ⟨⟨_, rfl, ⟨_, _, hM, hF, ⟨hLs.mx hJX rfl, ⟨hPA.lt, (by omega)⟩, (by rw [eI113, eI110]; rw [t2, t4]; exact Or.inr (Or.inl ⟨rfl, rfl, dnn ft p9 j9, hlt6, (by show x112 = _; rw [ex112, hv]), rfl⟩)), ⟨p9, (by omega), t3, (by rw [eI113, eI110]; exact h54)⟩, (by rw [if_pos hfa]; rw [eI113, eI110]; exact h55), (by rw [ntL_ne (by rw [t2]; decide)]; exact hNT), (fun _ _ => ⟨p9 + j9, t5, (by rw [eI113, eI110]; exact h50), (by rw [eI113, eI110]; rw [lnc_al (fun k hk => di_al (hds k hk))]; exact h51)⟩)⟩, hJX, rfl⟩, mk_end hG ht⟩, hS.F ht⟩) hS.2.2 dX14_next_381
          · skip
            refine lv_iconst (v := 5) hx hb dX14_next_304 (by decide) ?_
            refine lv_goto (tgt := 309) hx hb dX14_next_305 (by decide) ?_
            refine mm_put (v := .int 5) (ty := .int) hx hb hf_X14 (fun _ h9 => h9) tyX14 tyX14_ok nmX14 hown hK hG hS hM.1 rfl 52 (by decide) (tb_use hT tw_1443) (fun _ h9 => h9) rfl (by decide +kernel) rfl rfl (mfs_l52 _ _) dX14_next_309 (fun H locs hG hS => ?_)
            have hM := MD.puti (k := 52) (v := 5) hM (mfs_s52 _ _ _)
            have hF := hF.wo (e' := .inr (15, (mfs Ar Ij).set 52 (.int 5)))
            obtain ⟨I115, eI115⟩ : ∃ g, g = upd Ij 52 5 := ⟨_, rfl⟩
            rw [← eI115] at hM
            have hgn := gn_MD hG hM hF
            clear hG hM hF
            obtain ⟨G116, hG, hM, hF⟩ := hgn
            refine lv_aload_n hx hb dX14_next_312 rfl (lv_at hl 0 rfl) ?_
            refine lv_iload_n hx hb dX14_next_313 rfl (lv_at hl 2 rfl) ?_
            refine lv_topi (fun x117 ex117 => ?_)
            refine mm_put (v := .int x117) (ty := .int) hx hb hf_X14 (fun _ h9 => h9) tyX14 tyX14_ok nmX14 hown hK hG hS hM.1 rfl 53 (by decide) (tb_use hT tw_1444) (fun _ h9 => h9) rfl (by decide +kernel) rfl rfl (mfs_l53 _ _) dX14_next_314 (fun H locs hG hS => ?_)
            have hM := MD.puti (k := 53) (v := x117) hM (mfs_s53 _ _ _)
            have hF := hF.wo (e' := .inr (15, (mfs Ar I115).set 53 (.int x117)))
            obtain ⟨I118, eI118⟩ : ∃ g, g = upd I115 53 x117 := ⟨_, rfl⟩
            rw [← eI118] at hM
            have hgn := gn_MD hG hM hF
            clear hG hM hF
            obtain ⟨G119, hG, hM, hF⟩ := hgn
            refine lv_goto (tgt := 381) hx hb dX14_next_317 (by decide) ?_
            have hj6 : j9 ≤ 6 := by rcases Nat.lt_or_ge 6 j9 with z | z; exact absurd (by rw [hdj]; exact nI_lt z (by omega)) c_291; exact z
            have hlt : p9 + j9 < en ∧ isLe (ft (p9 + j9)) = true := by have z := b2i_t (by rw [← er108]; exact c_301 : ¬ b2i (isLe r106) = 0); rw [er106, hx_le hLs, Bool.and_eq_true, decide_eq_true_eq] at z; exact z
            obtain ⟨t2, x9, t3, t4, t5⟩ := hPA.nub hen hp9 hle hdi hds hend (by omega) (Or.inr hlt)
            have hJX : IX I118 = IX Iv := (by rw [eI118, IX_up (by decide), eI115, IX_up (by decide)]; exact hIX)
            exact W.vret hx hb hr (fun t ht hW => ⟨⟨_, rfl, ⟨_, _, hM, hF, ⟨hLs.mx hJX rfl, ⟨hPA.lt, (by omega)⟩, (by rw [eI118, eI115]; rw [t2]; exact Or.inr (Or.inr (Or.inr (Or.inl ⟨rfl, rfl⟩)))), ⟨x9, t3, t4, (by rw [eI118, eI115]; rw [t5]; exact h54)⟩, (by rw [if_pos hfa]; rw [eI118, eI115]; exact h55), (by rw [ntL_ne (by rw [t2]; decide)]; exact hNT), (fun _ z => absurd t2 z)⟩, hJX, rfl⟩, mk_end hG ht⟩, hS.F ht⟩) hS.2.2 dX14_next_381
      · skip
        refine lv_aload_n hx hb dX14_next_245 rfl (lv_at hl 0 rfl) ?_
        refine mm_get (v := .int (Ij 50)) hx hb hf_X14 (fun _ h9 => h9) hown hK hG hM.1 rfl 50 (by decide) (tb_use hT tw_1441) (fun _ h9 => h9) (mfs_g50 _ _) dX14_next_246 ?_
        refine lv_iload_n hx hb dX14_next_249 rfl (lv_at hl 1 rfl) ?_
        refine lv_isub hx hb dX14_next_250 ?_
        refine lv_bipush (v := 7) hx hb dX14_next_251 (by decide) ?_
        refine lv_icmp_ge (tgt := 282) hx hb dX14_next_253 (by decide) (fun c_253 => ?_) (fun c_253 => ?_)
        · skip
          exact absurd (by have z := c_253; rw [show Ij 50 - nI (fr + p9) = nI j9 by rw [h50, nI_sb (by omega)]; congr 1; omega] at z; exact z) (nI_ge (b := 7) (by omega) (by decide))
        · skip
          refine lv_bipush (v := 10) hx hb dX14_next_256 (by decide) ?_
          refine lv_iload_n hx hb dX14_next_258 rfl (lv_at hl 2 rfl) ?_
          refine lv_imul hx hb dX14_next_259 ?_
          refine lv_aload_n hx hb dX14_next_260 rfl (lv_at hl 0 rfl) ?_
          refine va_calli (va_runV (As := []) (rest := [.int (10 * (nI v9))]) ⟨hx, hb, hml, hown, (fun _ h9 => absurd h9 List.not_mem_nil : ∀ w ∈ ([] : List Cond), w.before _ s = true)⟩ (c_M_here l D cy A X hst hXT Gv o Ar Ij F L (mdN sx) (F sx) hM (hLs.src hM) hs31 (hLjIj.hlo (p := (p9 + j9)) hpl (by exact h50)) hLjIj.hhi) (tb_cw (C := RX14) 0 hT tw_1644 tw_109 tw_1641 tw_1643 tw_63 rfl rfl hq_X14_here ⟨Nat.le_of_ble_eq_true rfl, Nat.le_of_ble_eq_true rfl⟩) (mk_preC hst hG hK hA hX hS vc_15 hM.1) rfl rfl hl.1 rfl (lv_room (Nat.le_of_ble_eq_true rfl)) dX14_next_261 ⟨Nat.le_of_ble_eq_true rfl, Nat.le_of_ble_eq_true rfl⟩) hS (fun q _ h => h) (fun q h => h) (fun r120 G121 t H locs ht hvm hw hB hz1 hk1 hS => ?_)
          have hG : mm D vwCl A G121 H := by rw [← ht]; exact hB
          clear hB hz1 hk1 hvm ht
          obtain ⟨er120, hw⟩ := hw
          rw [hw] at hG
          rw [hLjIj.hr (p := (p9 + j9)) hpl (by exact h50)] at er120
          refine lv_iadd hx hb dX14_next_264 ?_
          refine lv_bipush (v := 48) hx hb dX14_next_265 (by decide) ?_
          refine lv_isub hx hb dX14_next_267 ?_
          refine lv_topi (fun x122 ex122 => ?_)
          refine lv_istore_n (lv' := [(3, .int x122), (0, .ref o), (1, .int (nI (fr + p9)))]) hx hb dX14_next_268 rfl hl (by decide) rfl (fun ls hl => ?_)
          refine lv_aload_n hx hb dX14_next_269 rfl (lv_at hl 1 rfl) ?_
          refine lv_dup hx hb dX14_next_270 rfl ?_
          refine mm_get (v := .int (Ij 50)) hx hb hf_X14 (fun _ h9 => h9) hown hK hG hM.1 rfl 50 (by decide) (tb_use hT tw_1441) (fun _ h9 => h9) (mfs_g50 _ _) dX14_next_271 ?_
          refine lv_iconst (v := 1) hx hb dX14_next_274 (by decide) ?_
          refine lv_iadd hx hb dX14_next_275 ?_
          refine lv_topi (fun x123 ex123 => ?_)
          refine mm_put (v := .int x123) (ty := .int) hx hb hf_X14 (fun _ h9 => h9) tyX14 tyX14_ok nmX14 hown hK hG hS hM.1 rfl 50 (by decide) (tb_use hT tw_1441) (fun _ h9 => h9) rfl (by decide +kernel) rfl rfl (mfs_l50 _ _) dX14_next_276 (fun H locs hG hS => ?_)
          have hM := MD.puti (k := 50) (v := x123) hM (mfs_s50 _ _ _)
          have hF := hF.wo (e' := .inr (15, (mfs Ar Ij).set 50 (.int x123)))
          obtain ⟨I124, eI124⟩ : ∃ g, g = upd Ij 50 x123 := ⟨_, rfl⟩
          rw [← eI124] at hM
          have hgn := gn_MD hG hM hF
          clear hG hM hF
          obtain ⟨G125, hG, hM, hF⟩ := hgn
          refine lv_goto (tgt := 235) hx hb dX14_next_279 (by decide) ?_
          have hdd : p9 + j9 < en ∧ isDi (ft (p9 + j9)) = true := by have z := b2i_t (by rw [← er99]; exact c_242 : ¬ b2i (isDi r97) = 0); rw [er97, hx_di hLs, Bool.and_eq_true, decide_eq_true_eq] at z; exact z
          have hrr : r120 = ft (p9 + j9) := by rw [er120, if_pos hdd.1]; exact al_eq (hLs.2.2.2.2.2.2.2 (p9 + j9) hdd.1) (di_al hdd.2)
          have hv2 : x122 = nI (dnn ft p9 (j9 + 1)) := by rw [ex122, hrr, dn_st hdd.2, hv, dnn]
          rw [hv2] at hl
          exact ih p9 (j9 + 1) (dnn ft p9 (j9 + 1)) I124 (by omega) hPA hp9 hle hdi (by omega) (fun k hk => by rcases Nat.lt_or_ge k j9 with z | z; exact hds k z; rw [show k = j9 by omega]; exact hdd.2) rfl (by rw [eI124]; exact h54) (by rw [eI124]; show x123 = _; rw [ex123, h50, nI_1]; congr 1) (by rw [eI124]; exact h51) (by rw [eI124, IX_up (by decide)]; exact hIX) (by rw [eI124]; exact h55) G125 hM hF _ _ hG hS ls (lv_sub hl [1, 2, 0] rfl)
  have hlb : ∀ (n : Nat) (p9 : Nat) (Ij : Nat → Int32), (n + p9 = en) → (PA ft en p9 i9) → (Ij 50 = nI (fr + p9)) → (Ij 51 = lnc ft p9) → (IX Ij = IX Iv) → (Ij 55 = 1) → ∀ (Gv : Nat → Option va_E), (MD cy Gv o Ar Ij F L) → (MF G Gv o Ar) → ∀ (H : Heap) (locs : List Loc), mm D vwCl A Gv H → va_S A s.heap H locs → ∀ ls : Array Slot, lv_has ls 4 [(0, .ref o)] → W p l e (headSpec [.code yX14_next cX14_next 4 none] ({ frames := 3, cells := 0, slots := 0, locals := 90 })).room s m ([.ref o] : List Value).toArray below meth c H locs 0 0 (MQ below (va_Qv (fun (G2 : Nat → Option va_E) => ∃ (I2 : Nat → Int32) (F2 : Nat → Nat → Int32), MD cy G2 o Ar I2 F2 L ∧ MF G G2 o Ar ∧ LXq Ar I2 F2 ft sx fr en bo (i9, fa9) ∧ IX I2 = IX Iv ∧ FX F2 = FX F) (mk_B D vwCl A) A) ([.ref o] : List Value).toArray s 0 0 A) (F0 m 0 ls []) := by
    intro n
    induction n with
    | zero =>
      intro p9 Ij hn hPA h50 h51 hIX h55 Gv hM hF H locs hG hS ls hl
      have hpl : p9 ≤ en := by omega
      have hcs : ¬ p9 < en := by omega
      refine lv_aload_n hx hb dX14_next_0 rfl (lv_at hl 0 rfl) ?_
      have hLjIj : LXs Ar Ij F ft sx fr en bo := hLs.mx (by exact hIX) rfl
      refine va_calli (va_runV (As := []) (rest := []) ⟨hx, hb, hml, hown, (fun _ h9 => absurd h9 List.not_mem_nil : ∀ w ∈ ([] : List Cond), w.before _ s = true)⟩ (c_M_here l D cy A X hst hXT Gv o Ar Ij F L (mdN sx) (F sx) hM (hLs.src hM) hs31 (hLjIj.hlo (p := p9) hpl (by exact h50)) hLjIj.hhi) (tb_cw (C := RX14) 0 hT tw_1644 tw_109 tw_1641 tw_1643 tw_63 rfl rfl hq_X14_here ⟨Nat.le_of_ble_eq_true rfl, Nat.le_of_ble_eq_true rfl⟩) (mk_preC hst hG hK hA hX hS vc_15 hM.1) rfl rfl hl.1 rfl (lv_room (Nat.le_of_ble_eq_true rfl)) dX14_next_1 ⟨Nat.le_of_ble_eq_true rfl, Nat.le_of_ble_eq_true rfl⟩) hS (fun q _ h => h) (fun q h => h) (fun r126 G127 t H locs ht hvm hw hB hz1 hk1 hS => ?_)
      have hG : mm D vwCl A G127 H := by rw [← ht]; exact hB
      clear hB hz1 hk1 hvm ht
      obtain ⟨er126, hw⟩ := hw
      rw [hw] at hG
      rw [hLjIj.hr (p := p9) hpl (by exact h50)] at er126
      rw [if_neg hcs] at er126
      refine lv_bipush (v := 9) hx hb dX14_next_4 (by decide) ?_
      refine lv_icmp_eq (tgt := 36) hx hb dX14_next_6 (by decide) (fun c_6 => ?_) (fun c_6 => ?_)
      · skip
        exact absurd (er126.symm.trans c_6) (by decide)
      · skip
        refine lv_aload_n hx hb dX14_next_9 rfl (lv_at hl 0 rfl) ?_
        refine va_calli (va_runV (As := []) (rest := []) ⟨hx, hb, hml, hown, (fun _ h9 => absurd h9 List.not_mem_nil : ∀ w ∈ ([] : List Cond), w.before _ s = true)⟩ (c_M_here l D cy A X hst hXT Gv o Ar Ij F L (mdN sx) (F sx) hM (hLs.src hM) hs31 (hLjIj.hlo (p := p9) hpl (by exact h50)) hLjIj.hhi) (tb_cw (C := RX14) 0 hT tw_1644 tw_109 tw_1641 tw_1643 tw_63 rfl rfl hq_X14_here ⟨Nat.le_of_ble_eq_true rfl, Nat.le_of_ble_eq_true rfl⟩) (mk_preC hst hG hK hA hX hS vc_15 hM.1) rfl rfl hl.1 rfl (lv_room (Nat.le_of_ble_eq_true rfl)) dX14_next_10 ⟨Nat.le_of_ble_eq_true rfl, Nat.le_of_ble_eq_true rfl⟩) hS (fun q _ h => h) (fun q h => h) (fun r128 G129 t H locs ht hvm hw hB hz1 hk1 hS => ?_)
        have hG : mm D vwCl A G129 H := by rw [← ht]; exact hB
        clear hB hz1 hk1 hvm ht
        obtain ⟨er128, hw⟩ := hw
        rw [hw] at hG
        rw [hLjIj.hr (p := p9) hpl (by exact h50)] at er128
        rw [if_neg hcs] at er128
        refine lv_bipush (v := 10) hx hb dX14_next_13 (by decide) ?_
        refine lv_icmp_eq (tgt := 36) hx hb dX14_next_15 (by decide) (fun c_15 => ?_) (fun c_15 => ?_)
        · skip
          exact absurd (er128.symm.trans c_15) (by decide)
        · skip
          refine lv_aload_n hx hb dX14_next_18 rfl (lv_at hl 0 rfl) ?_
          refine va_calli (va_runV (As := []) (rest := []) ⟨hx, hb, hml, hown, (fun _ h9 => absurd h9 List.not_mem_nil : ∀ w ∈ ([] : List Cond), w.before _ s = true)⟩ (c_M_here l D cy A X hst hXT Gv o Ar Ij F L (mdN sx) (F sx) hM (hLs.src hM) hs31 (hLjIj.hlo (p := p9) hpl (by exact h50)) hLjIj.hhi) (tb_cw (C := RX14) 0 hT tw_1644 tw_109 tw_1641 tw_1643 tw_63 rfl rfl hq_X14_here ⟨Nat.le_of_ble_eq_true rfl, Nat.le_of_ble_eq_true rfl⟩) (mk_preC hst hG hK hA hX hS vc_15 hM.1) rfl rfl hl.1 rfl (lv_room (Nat.le_of_ble_eq_true rfl)) dX14_next_19 ⟨Nat.le_of_ble_eq_true rfl, Nat.le_of_ble_eq_true rfl⟩) hS (fun q _ h => h) (fun q h => h) (fun r130 G131 t H locs ht hvm hw hB hz1 hk1 hS => ?_)
          have hG : mm D vwCl A G131 H := by rw [← ht]; exact hB
          clear hB hz1 hk1 hvm ht
          obtain ⟨er130, hw⟩ := hw
          rw [hw] at hG
          rw [hLjIj.hr (p := p9) hpl (by exact h50)] at er130
          rw [if_neg hcs] at er130
          refine lv_bipush (v := 13) hx hb dX14_next_22 (by decide) ?_
          refine lv_icmp_eq (tgt := 36) hx hb dX14_next_24 (by decide) (fun c_24 => ?_) (fun c_24 => ?_)
          · skip
            exact absurd (er130.symm.trans c_24) (by decide)
          · skip
            refine lv_aload_n hx hb dX14_next_27 rfl (lv_at hl 0 rfl) ?_
            refine va_calli (va_runV (As := []) (rest := []) ⟨hx, hb, hml, hown, (fun _ h9 => absurd h9 List.not_mem_nil : ∀ w ∈ ([] : List Cond), w.before _ s = true)⟩ (c_M_here l D cy A X hst hXT Gv o Ar Ij F L (mdN sx) (F sx) hM (hLs.src hM) hs31 (hLjIj.hlo (p := p9) hpl (by exact h50)) hLjIj.hhi) (tb_cw (C := RX14) 0 hT tw_1644 tw_109 tw_1641 tw_1643 tw_63 rfl rfl hq_X14_here ⟨Nat.le_of_ble_eq_true rfl, Nat.le_of_ble_eq_true rfl⟩) (mk_preC hst hG hK hA hX hS vc_15 hM.1) rfl rfl hl.1 rfl (lv_room (Nat.le_of_ble_eq_true rfl)) dX14_next_28 ⟨Nat.le_of_ble_eq_true rfl, Nat.le_of_ble_eq_true rfl⟩) hS (fun q _ h => h) (fun q h => h) (fun r132 G133 t H locs ht hvm hw hB hz1 hk1 hS => ?_)
            have hG : mm D vwCl A G133 H := by rw [← ht]; exact hB
            clear hB hz1 hk1 hvm ht
            obtain ⟨er132, hw⟩ := hw
            rw [hw] at hG
            rw [hLjIj.hr (p := p9) hpl (by exact h50)] at er132
            rw [if_neg hcs] at er132
            refine lv_bipush (v := 32) hx hb dX14_next_31 (by decide) ?_
            refine lv_icmp_ne (tgt := 68) hx hb dX14_next_33 (by decide) (fun c_33 => ?_) (fun c_33 => ?_)
            · skip
              refine lv_aload_n hx hb dX14_next_68 rfl (lv_at hl 0 rfl) ?_
              refine lv_aload_n hx hb dX14_next_69 rfl (lv_at hl 0 rfl) ?_
              refine mm_get (v := .int (Ij 51)) hx hb hf_X14 (fun _ h9 => h9) hown hK hG hM.1 rfl 51 (by decide) (tb_use hT tw_1442) (fun _ h9 => h9) (mfs_g51 _ _) dX14_next_70 ?_
              refine lv_topi (fun x134 ex134 => ?_)
              refine mm_put (v := .int x134) (ty := .int) hx hb hf_X14 (fun _ h9 => h9) tyX14 tyX14_ok nmX14 hown hK hG hS hM.1 rfl 54 (by decide) (tb_use hT tw_1445) (fun _ h9 => h9) rfl (by decide +kernel) rfl rfl (mfs_l54 _ _) dX14_next_73 (fun H locs hG hS => ?_)
              have hM := MD.puti (k := 54) (v := x134) hM (mfs_s54 _ _ _)
              have hF := hF.wo (e' := .inr (15, (mfs Ar Ij).set 54 (.int x134)))
              obtain ⟨I135, eI135⟩ : ∃ g, g = upd Ij 54 x134 := ⟨_, rfl⟩
              rw [← eI135] at hM
              have hgn := gn_MD hG hM hF
              clear hG hM hF
              obtain ⟨G136, hG, hM, hF⟩ := hgn
              refine lv_aload_n hx hb dX14_next_76 rfl (lv_at hl 0 rfl) ?_
              refine mm_get (v := .int (Ij 50)) hx hb hf_X14 (fun _ h9 => h9) hown hK hG hM.1 rfl 50 (by decide) (tb_use hT tw_1441) (fun _ h9 => h9) (by rw [mfs_g50, eI135] <;> rfl) dX14_next_77 ?_
              rw [show (Ij 50) = nI (fr + p9) from h50]
              refine lv_istore_n (lv' := [(1, .int (nI (fr + p9))), (0, .ref o)]) hx hb dX14_next_80 rfl hl (by decide) rfl (fun ls hl => ?_)
              refine lv_aload_n hx hb dX14_next_81 rfl (lv_at hl 1 rfl) ?_
              have hLjI135 : LXs Ar I135 F ft sx fr en bo := hLs.mx (by rw [eI135, IX_up (by decide)]; exact hIX) rfl
              refine va_calli (va_runV (As := []) (rest := []) ⟨hx, hb, hml, hown, (fun _ h9 => absurd h9 List.not_mem_nil : ∀ w ∈ ([] : List Cond), w.before _ s = true)⟩ (c_M_here l D cy A X hst hXT G136 o Ar I135 F L (mdN sx) (F sx) hM (hLs.src hM) hs31 (hLjI135.hlo (p := p9) hpl (by rw [eI135]; exact h50)) hLjI135.hhi) (tb_cw (C := RX14) 0 hT tw_1644 tw_109 tw_1641 tw_1643 tw_63 rfl rfl hq_X14_here ⟨Nat.le_of_ble_eq_true rfl, Nat.le_of_ble_eq_true rfl⟩) (mk_preC hst hG hK hA hX hS vc_15 hM.1) rfl rfl hl.1 rfl (lv_room (Nat.le_of_ble_eq_true rfl)) dX14_next_82 ⟨Nat.le_of_ble_eq_true rfl, Nat.le_of_ble_eq_true rfl⟩) hS (fun q _ h => h) (fun q h => h) (fun r137 G138 t H locs ht hvm hw hB hz1 hk1 hS => ?_)
              have hG : mm D vwCl A G138 H := by rw [← ht]; exact hB
              clear hB hz1 hk1 hvm ht
              obtain ⟨er137, hw⟩ := hw
              rw [hw] at hG
              rw [hLjI135.hr (p := p9) hpl (by rw [eI135]; exact h50)] at er137
              rw [if_neg hcs] at er137
              refine lv_istore_n (lv' := [(2, .int r137), (1, .int (nI (fr + p9))), (0, .ref o)]) hx hb dX14_next_85 rfl hl (by decide) rfl (fun ls hl => ?_)
              refine lv_aload_n hx hb dX14_next_86 rfl (lv_at hl 2 rfl) ?_
              refine lv_iload_n hx hb dX14_next_87 rfl (lv_at hl 0 rfl) ?_
              refine mm_put (v := .int r137) (ty := .int) hx hb hf_X14 (fun _ h9 => h9) tyX14 tyX14_ok nmX14 hown hK hG hS hM.1 rfl 53 (by decide) (tb_use hT tw_1444) (fun _ h9 => h9) rfl (by decide +kernel) rfl rfl (mfs_l53 _ _) dX14_next_88 (fun H locs hG hS => ?_)
              have hM := MD.puti (k := 53) (v := r137) hM (mfs_s53 _ _ _)
              have hF := hF.wo (e' := .inr (15, (mfs Ar I135).set 53 (.int r137)))
              obtain ⟨I139, eI139⟩ : ∃ g, g = upd I135 53 r137 := ⟨_, rfl⟩
              rw [← eI139] at hM
              have hgn := gn_MD hG hM hF
              clear hG hM hF
              obtain ⟨G140, hG, hM, hF⟩ := hgn
              refine lv_iload_n hx hb dX14_next_91 rfl (lv_at hl 0 rfl) ?_
              refine lv_if_ge (tgt := 103) hx hb dX14_next_92 (by decide) (fun c_92 => ?_) (fun c_92 => ?_)
              · skip
                exact absurd c_92 (by rw [er137]; decide)
              · skip
                refine lv_aload_n hx hb dX14_next_95 rfl (lv_at hl 2 rfl) ?_
                refine lv_iconst (v := 0) hx hb dX14_next_96 (by decide) ?_
                refine mm_put (v := .int 0) (ty := .int) hx hb hf_X14 (fun _ h9 => h9) tyX14 tyX14_ok nmX14 hown hK hG hS hM.1 rfl 52 (by decide) (tb_use hT tw_1443) (fun _ h9 => h9) rfl (by decide +kernel) rfl rfl (mfs_l52 _ _) dX14_next_97 (fun H locs hG hS => ?_)
                have hM := MD.puti (k := 52) (v := 0) hM (mfs_s52 _ _ _)
                have hF := hF.wo (e' := .inr (15, (mfs Ar I139).set 52 (.int 0)))
                obtain ⟨I141, eI141⟩ : ∃ g, g = upd I139 52 0 := ⟨_, rfl⟩
                rw [← eI141] at hM
                have hgn := gn_MD hG hM hF
                clear hG hM hF
                obtain ⟨G142, hG, hM, hF⟩ := hgn
                refine lv_goto (tgt := 381) hx hb dX14_next_100 (by decide) ?_
                have hi9 : i9 ≤ p9 := hPA.2.2.1
                have hp9 : p9 ≤ en := hPA.2.1
                obtain ⟨t1, t2, t3, t4⟩ := hPA.1.fin (by omega)
                have hJX : IX I141 = IX Iv := (by rw [eI141, IX_up (by decide), eI139, IX_up (by decide), eI135, IX_up (by decide)]; exact hIX)
                exact W.vret hx hb hr (fun t ht hW => ⟨⟨_, rfl, ⟨_, _, hM, hF, ⟨hLs.mx hJX rfl, ⟨hPA.lt, (by omega)⟩, (by rw [eI141, eI139, eI135]; rw [t2]; exact Or.inr (Or.inr (Or.inl ⟨rfl, rfl⟩))), ⟨en, Nat.le_refl _, t3, (by rw [eI141, eI139, eI135]; show x134 = _; rw [show en = p9 by omega, ex134]; exact h51)⟩, (by rw [if_pos hfa]; rw [eI141, eI139, eI135]; exact h55), (by rw [ntL_ne (by rw [t2]; decide)]; exact hNT), (fun z => absurd t2 z)⟩, hJX, rfl⟩, mk_end hG ht⟩, hS.F ht⟩) hS.2.2 dX14_next_381
            · skip
              exact absurd (er132.symm.trans c_33) (by decide)
    | succ n ih =>
      intro p9 Ij hn hPA h50 h51 hIX h55 Gv hM hF H locs hG hS ls hl
      have hpl : p9 ≤ en := by omega
      have hcs : p9 < en := by omega
      refine lv_aload_n hx hb dX14_next_0 rfl (lv_at hl 0 rfl) ?_
      have hLjIj : LXs Ar Ij F ft sx fr en bo := hLs.mx (by exact hIX) rfl
      refine va_calli (va_runV (As := []) (rest := []) ⟨hx, hb, hml, hown, (fun _ h9 => absurd h9 List.not_mem_nil : ∀ w ∈ ([] : List Cond), w.before _ s = true)⟩ (c_M_here l D cy A X hst hXT Gv o Ar Ij F L (mdN sx) (F sx) hM (hLs.src hM) hs31 (hLjIj.hlo (p := p9) hpl (by exact h50)) hLjIj.hhi) (tb_cw (C := RX14) 0 hT tw_1644 tw_109 tw_1641 tw_1643 tw_63 rfl rfl hq_X14_here ⟨Nat.le_of_ble_eq_true rfl, Nat.le_of_ble_eq_true rfl⟩) (mk_preC hst hG hK hA hX hS vc_15 hM.1) rfl rfl hl.1 rfl (lv_room (Nat.le_of_ble_eq_true rfl)) dX14_next_1 ⟨Nat.le_of_ble_eq_true rfl, Nat.le_of_ble_eq_true rfl⟩) hS (fun q _ h => h) (fun q h => h) (fun r143 G144 t H locs ht hvm hw hB hz1 hk1 hS => ?_)
      have hG : mm D vwCl A G144 H := by rw [← ht]; exact hB
      clear hB hz1 hk1 hvm ht
      obtain ⟨er143, hw⟩ := hw
      rw [hw] at hG
      rw [hLjIj.hr (p := p9) hpl (by exact h50)] at er143
      rw [if_pos hcs] at er143
      refine lv_bipush (v := 9) hx hb dX14_next_4 (by decide) ?_
      refine lv_icmp_eq (tgt := 36) hx hb dX14_next_6 (by decide) (fun c_6 => ?_) (fun c_6 => ?_)
      · skip
        refine lv_aload_n hx hb dX14_next_36 rfl (lv_at hl 0 rfl) ?_
        refine va_calli (va_runV (As := []) (rest := []) ⟨hx, hb, hml, hown, (fun _ h9 => absurd h9 List.not_mem_nil : ∀ w ∈ ([] : List Cond), w.before _ s = true)⟩ (c_M_here l D cy A X hst hXT Gv o Ar Ij F L (mdN sx) (F sx) hM (hLs.src hM) hs31 (hLjIj.hlo (p := p9) hpl (by exact h50)) hLjIj.hhi) (tb_cw (C := RX14) 0 hT tw_1644 tw_109 tw_1641 tw_1643 tw_63 rfl rfl hq_X14_here ⟨Nat.le_of_ble_eq_true rfl, Nat.le_of_ble_eq_true rfl⟩) (mk_preC hst hG hK hA hX hS vc_15 hM.1) rfl rfl hl.1 rfl (lv_room (Nat.le_of_ble_eq_true rfl)) dX14_next_37 ⟨Nat.le_of_ble_eq_true rfl, Nat.le_of_ble_eq_true rfl⟩) hS (fun q _ h => h) (fun q h => h) (fun r145 G146 t H locs ht hvm hw hB hz1 hk1 hS => ?_)
        have hG : mm D vwCl A G146 H := by rw [← ht]; exact hB
        clear hB hz1 hk1 hvm ht
        obtain ⟨er145, hw⟩ := hw
        rw [hw] at hG
        rw [hLjIj.hr (p := p9) hpl (by exact h50)] at er145
        rw [if_pos hcs] at er145
        refine lv_bipush (v := 10) hx hb dX14_next_40 (by decide) ?_
        refine lv_icmp_ne (tgt := 55) hx hb dX14_next_42 (by decide) (fun c_42 => ?_) (fun c_42 => ?_)
        · skip
          refine lv_aload_n hx hb dX14_next_55 rfl (lv_at hl 0 rfl) ?_
          refine lv_dup hx hb dX14_next_56 rfl ?_
          refine mm_get (v := .int (Ij 50)) hx hb hf_X14 (fun _ h9 => h9) hown hK hG hM.1 rfl 50 (by decide) (tb_use hT tw_1441) (fun _ h9 => h9) (mfs_g50 _ _) dX14_next_57 ?_
          refine lv_iconst (v := 1) hx hb dX14_next_60 (by decide) ?_
          refine lv_iadd hx hb dX14_next_61 ?_
          refine lv_topi (fun x147 ex147 => ?_)
          refine mm_put (v := .int x147) (ty := .int) hx hb hf_X14 (fun _ h9 => h9) tyX14 tyX14_ok nmX14 hown hK hG hS hM.1 rfl 50 (by decide) (tb_use hT tw_1441) (fun _ h9 => h9) rfl (by decide +kernel) rfl rfl (mfs_l50 _ _) dX14_next_62 (fun H locs hG hS => ?_)
          have hM := MD.puti (k := 50) (v := x147) hM (mfs_s50 _ _ _)
          have hF := hF.wo (e' := .inr (15, (mfs Ar Ij).set 50 (.int x147)))
          obtain ⟨I148, eI148⟩ : ∃ g, g = upd Ij 50 x147 := ⟨_, rfl⟩
          rw [← eI148] at hM
          have hgn := gn_MD hG hM hF
          clear hG hM hF
          obtain ⟨G149, hG, hM, hF⟩ := hgn
          refine lv_goto (tgt := 0) hx hb dX14_next_65 (by decide) ?_
          have hch := (hLs.2.2.2.2.2.2.2 p9 hcs)
          have hbl := bl_of (Or.inl ((chr_eq hch (by decide) (by decide)).mp (er143.symm.trans c_6)))
          have hln : I148 51 = lnc ft (p9 + 1) := by rw [eI148]; rw [lnc, if_neg (fun z => c_42 (er145.trans ((chr_eq hch (by decide) (by decide)).mpr z)))]; exact h51
          have hat : I148 50 = nI (fr + (p9 + 1)) := by rw [eI148]; show x147 = _; rw [ex147, h50, nI_1]; congr 1
          exact ih (p9 + 1) I148 (by omega) (hPA.blank (by omega) hbl) hat hln (by rw [eI148, IX_up (by decide)]; exact hIX) (by rw [eI148]; exact h55) G149 hM hF _ _ hG hS ls (lv_sub hl [0] rfl)
        · skip
          refine lv_aload_n hx hb dX14_next_45 rfl (lv_at hl 0 rfl) ?_
          refine lv_dup hx hb dX14_next_46 rfl ?_
          refine mm_get (v := .int (Ij 51)) hx hb hf_X14 (fun _ h9 => h9) hown hK hG hM.1 rfl 51 (by decide) (tb_use hT tw_1442) (fun _ h9 => h9) (mfs_g51 _ _) dX14_next_47 ?_
          refine lv_iconst (v := 1) hx hb dX14_next_50 (by decide) ?_
          refine lv_iadd hx hb dX14_next_51 ?_
          refine lv_topi (fun x150 ex150 => ?_)
          refine mm_put (v := .int x150) (ty := .int) hx hb hf_X14 (fun _ h9 => h9) tyX14 tyX14_ok nmX14 hown hK hG hS hM.1 rfl 51 (by decide) (tb_use hT tw_1442) (fun _ h9 => h9) rfl (by decide +kernel) rfl rfl (mfs_l51 _ _) dX14_next_52 (fun H locs hG hS => ?_)
          have hM := MD.puti (k := 51) (v := x150) hM (mfs_s51 _ _ _)
          have hF := hF.wo (e' := .inr (15, (mfs Ar Ij).set 51 (.int x150)))
          obtain ⟨I151, eI151⟩ : ∃ g, g = upd Ij 51 x150 := ⟨_, rfl⟩
          rw [← eI151] at hM
          have hgn := gn_MD hG hM hF
          clear hG hM hF
          obtain ⟨G152, hG, hM, hF⟩ := hgn
          refine lv_aload_n hx hb dX14_next_55 rfl (lv_at hl 0 rfl) ?_
          refine lv_dup hx hb dX14_next_56 rfl ?_
          refine mm_get (v := .int (Ij 50)) hx hb hf_X14 (fun _ h9 => h9) hown hK hG hM.1 rfl 50 (by decide) (tb_use hT tw_1441) (fun _ h9 => h9) (by rw [mfs_g50, eI151] <;> rfl) dX14_next_57 ?_
          refine lv_iconst (v := 1) hx hb dX14_next_60 (by decide) ?_
          refine lv_iadd hx hb dX14_next_61 ?_
          refine lv_topi (fun x153 ex153 => ?_)
          refine mm_put (v := .int x153) (ty := .int) hx hb hf_X14 (fun _ h9 => h9) tyX14 tyX14_ok nmX14 hown hK hG hS hM.1 rfl 50 (by decide) (tb_use hT tw_1441) (fun _ h9 => h9) rfl (by decide +kernel) rfl rfl (mfs_l50 _ _) dX14_next_62 (fun H locs hG hS => ?_)
          have hM := MD.puti (k := 50) (v := x153) hM (mfs_s50 _ _ _)
          have hF := hF.wo (e' := .inr (15, (mfs Ar I151).set 50 (.int x153)))
          obtain ⟨I154, eI154⟩ : ∃ g, g = upd I151 50 x153 := ⟨_, rfl⟩
          rw [← eI154] at hM
          have hgn := gn_MD hG hM hF
          clear hG hM hF
          obtain ⟨G155, hG, hM, hF⟩ := hgn
          refine lv_goto (tgt := 0) hx hb dX14_next_65 (by decide) ?_
          have hch := (hLs.2.2.2.2.2.2.2 p9 hcs)
          have hbl := bl_of (Or.inl ((chr_eq hch (by decide) (by decide)).mp (er143.symm.trans c_6)))
          have hln : I154 51 = lnc ft (p9 + 1) := by rw [eI154, eI151]; rw [lnc, if_pos ((chr_eq hch (by decide) (by decide)).mp (er145.symm.trans c_42)), ← h51]; exact ex150
          have hat : I154 50 = nI (fr + (p9 + 1)) := by rw [eI154, eI151]; show x153 = _; rw [ex153, h50, nI_1]; congr 1
          exact ih (p9 + 1) I154 (by omega) (hPA.blank (by omega) hbl) hat hln (by rw [eI154, IX_up (by decide), eI151, IX_up (by decide)]; exact hIX) (by rw [eI154, eI151]; exact h55) G155 hM hF _ _ hG hS ls (lv_sub hl [0] rfl)
      · skip
        refine lv_aload_n hx hb dX14_next_9 rfl (lv_at hl 0 rfl) ?_
        refine va_calli (va_runV (As := []) (rest := []) ⟨hx, hb, hml, hown, (fun _ h9 => absurd h9 List.not_mem_nil : ∀ w ∈ ([] : List Cond), w.before _ s = true)⟩ (c_M_here l D cy A X hst hXT Gv o Ar Ij F L (mdN sx) (F sx) hM (hLs.src hM) hs31 (hLjIj.hlo (p := p9) hpl (by exact h50)) hLjIj.hhi) (tb_cw (C := RX14) 0 hT tw_1644 tw_109 tw_1641 tw_1643 tw_63 rfl rfl hq_X14_here ⟨Nat.le_of_ble_eq_true rfl, Nat.le_of_ble_eq_true rfl⟩) (mk_preC hst hG hK hA hX hS vc_15 hM.1) rfl rfl hl.1 rfl (lv_room (Nat.le_of_ble_eq_true rfl)) dX14_next_10 ⟨Nat.le_of_ble_eq_true rfl, Nat.le_of_ble_eq_true rfl⟩) hS (fun q _ h => h) (fun q h => h) (fun r156 G157 t H locs ht hvm hw hB hz1 hk1 hS => ?_)
        have hG : mm D vwCl A G157 H := by rw [← ht]; exact hB
        clear hB hz1 hk1 hvm ht
        obtain ⟨er156, hw⟩ := hw
        rw [hw] at hG
        rw [hLjIj.hr (p := p9) hpl (by exact h50)] at er156
        rw [if_pos hcs] at er156
        refine lv_bipush (v := 10) hx hb dX14_next_13 (by decide) ?_
        refine lv_icmp_eq (tgt := 36) hx hb dX14_next_15 (by decide) (fun c_15 => ?_) (fun c_15 => ?_)
        · skip
          refine lv_aload_n hx hb dX14_next_36 rfl (lv_at hl 0 rfl) ?_
          refine va_calli (va_runV (As := []) (rest := []) ⟨hx, hb, hml, hown, (fun _ h9 => absurd h9 List.not_mem_nil : ∀ w ∈ ([] : List Cond), w.before _ s = true)⟩ (c_M_here l D cy A X hst hXT Gv o Ar Ij F L (mdN sx) (F sx) hM (hLs.src hM) hs31 (hLjIj.hlo (p := p9) hpl (by exact h50)) hLjIj.hhi) (tb_cw (C := RX14) 0 hT tw_1644 tw_109 tw_1641 tw_1643 tw_63 rfl rfl hq_X14_here ⟨Nat.le_of_ble_eq_true rfl, Nat.le_of_ble_eq_true rfl⟩) (mk_preC hst hG hK hA hX hS vc_15 hM.1) rfl rfl hl.1 rfl (lv_room (Nat.le_of_ble_eq_true rfl)) dX14_next_37 ⟨Nat.le_of_ble_eq_true rfl, Nat.le_of_ble_eq_true rfl⟩) hS (fun q _ h => h) (fun q h => h) (fun r158 G159 t H locs ht hvm hw hB hz1 hk1 hS => ?_)
          have hG : mm D vwCl A G159 H := by rw [← ht]; exact hB
          clear hB hz1 hk1 hvm ht
          obtain ⟨er158, hw⟩ := hw
          rw [hw] at hG
          rw [hLjIj.hr (p := p9) hpl (by exact h50)] at er158
          rw [if_pos hcs] at er158
          refine lv_bipush (v := 10) hx hb dX14_next_40 (by decide) ?_
          refine lv_icmp_ne (tgt := 55) hx hb dX14_next_42 (by decide) (fun c_42 => ?_) (fun c_42 => ?_)
          · skip
            refine lv_aload_n hx hb dX14_next_55 rfl (lv_at hl 0 rfl) ?_
            refine lv_dup hx hb dX14_next_56 rfl ?_
            refine mm_get (v := .int (Ij 50)) hx hb hf_X14 (fun _ h9 => h9) hown hK hG hM.1 rfl 50 (by decide) (tb_use hT tw_1441) (fun _ h9 => h9) (mfs_g50 _ _) dX14_next_57 ?_
            refine lv_iconst (v := 1) hx hb dX14_next_60 (by decide) ?_
            refine lv_iadd hx hb dX14_next_61 ?_
            refine lv_topi (fun x160 ex160 => ?_)
            refine mm_put (v := .int x160) (ty := .int) hx hb hf_X14 (fun _ h9 => h9) tyX14 tyX14_ok nmX14 hown hK hG hS hM.1 rfl 50 (by decide) (tb_use hT tw_1441) (fun _ h9 => h9) rfl (by decide +kernel) rfl rfl (mfs_l50 _ _) dX14_next_62 (fun H locs hG hS => ?_)
            have hM := MD.puti (k := 50) (v := x160) hM (mfs_s50 _ _ _)
            have hF := hF.wo (e' := .inr (15, (mfs Ar Ij).set 50 (.int x160)))
            obtain ⟨I161, eI161⟩ : ∃ g, g = upd Ij 50 x160 := ⟨_, rfl⟩
            rw [← eI161] at hM
            have hgn := gn_MD hG hM hF
            clear hG hM hF
            obtain ⟨G162, hG, hM, hF⟩ := hgn
            refine lv_goto (tgt := 0) hx hb dX14_next_65 (by decide) ?_
            have hch := (hLs.2.2.2.2.2.2.2 p9 hcs)
            have hbl := bl_of (Or.inr (Or.inl ((chr_eq hch (by decide) (by decide)).mp (er156.symm.trans c_15))))
            have hln : I161 51 = lnc ft (p9 + 1) := by rw [eI161]; rw [lnc, if_neg (fun z => c_42 (er158.trans ((chr_eq hch (by decide) (by decide)).mpr z)))]; exact h51
            have hat : I161 50 = nI (fr + (p9 + 1)) := by rw [eI161]; show x160 = _; rw [ex160, h50, nI_1]; congr 1
            exact ih (p9 + 1) I161 (by omega) (hPA.blank (by omega) hbl) hat hln (by rw [eI161, IX_up (by decide)]; exact hIX) (by rw [eI161]; exact h55) G162 hM hF _ _ hG hS ls (lv_sub hl [0] rfl)
          · skip
            refine lv_aload_n hx hb dX14_next_45 rfl (lv_at hl 0 rfl) ?_
            refine lv_dup hx hb dX14_next_46 rfl ?_
            refine mm_get (v := .int (Ij 51)) hx hb hf_X14 (fun _ h9 => h9) hown hK hG hM.1 rfl 51 (by decide) (tb_use hT tw_1442) (fun _ h9 => h9) (mfs_g51 _ _) dX14_next_47 ?_
            refine lv_iconst (v := 1) hx hb dX14_next_50 (by decide) ?_
            refine lv_iadd hx hb dX14_next_51 ?_
            refine lv_topi (fun x163 ex163 => ?_)
            refine mm_put (v := .int x163) (ty := .int) hx hb hf_X14 (fun _ h9 => h9) tyX14 tyX14_ok nmX14 hown hK hG hS hM.1 rfl 51 (by decide) (tb_use hT tw_1442) (fun _ h9 => h9) rfl (by decide +kernel) rfl rfl (mfs_l51 _ _) dX14_next_52 (fun H locs hG hS => ?_)
            have hM := MD.puti (k := 51) (v := x163) hM (mfs_s51 _ _ _)
            have hF := hF.wo (e' := .inr (15, (mfs Ar Ij).set 51 (.int x163)))
            obtain ⟨I164, eI164⟩ : ∃ g, g = upd Ij 51 x163 := ⟨_, rfl⟩
            rw [← eI164] at hM
            have hgn := gn_MD hG hM hF
            clear hG hM hF
            obtain ⟨G165, hG, hM, hF⟩ := hgn
            refine lv_aload_n hx hb dX14_next_55 rfl (lv_at hl 0 rfl) ?_
            refine lv_dup hx hb dX14_next_56 rfl ?_
            refine mm_get (v := .int (Ij 50)) hx hb hf_X14 (fun _ h9 => h9) hown hK hG hM.1 rfl 50 (by decide) (tb_use hT tw_1441) (fun _ h9 => h9) (by rw [mfs_g50, eI164] <;> rfl) dX14_next_57 ?_
            refine lv_iconst (v := 1) hx hb dX14_next_60 (by decide) ?_
            refine lv_iadd hx hb dX14_next_61 ?_
            refine lv_topi (fun x166 ex166 => ?_)
            refine mm_put (v := .int x166) (ty := .int) hx hb hf_X14 (fun _ h9 => h9) tyX14 tyX14_ok nmX14 hown hK hG hS hM.1 rfl 50 (by decide) (tb_use hT tw_1441) (fun _ h9 => h9) rfl (by decide +kernel) rfl rfl (mfs_l50 _ _) dX14_next_62 (fun H locs hG hS => ?_)
            have hM := MD.puti (k := 50) (v := x166) hM (mfs_s50 _ _ _)
            have hF := hF.wo (e' := .inr (15, (mfs Ar I164).set 50 (.int x166)))
            obtain ⟨I167, eI167⟩ : ∃ g, g = upd I164 50 x166 := ⟨_, rfl⟩
            rw [← eI167] at hM
            have hgn := gn_MD hG hM hF
            clear hG hM hF
            obtain ⟨G168, hG, hM, hF⟩ := hgn
            refine lv_goto (tgt := 0) hx hb dX14_next_65 (by decide) ?_
            have hch := (hLs.2.2.2.2.2.2.2 p9 hcs)
            have hbl := bl_of (Or.inr (Or.inl ((chr_eq hch (by decide) (by decide)).mp (er156.symm.trans c_15))))
            have hln : I167 51 = lnc ft (p9 + 1) := by rw [eI167, eI164]; rw [lnc, if_pos ((chr_eq hch (by decide) (by decide)).mp (er158.symm.trans c_42)), ← h51]; exact ex163
            have hat : I167 50 = nI (fr + (p9 + 1)) := by rw [eI167, eI164]; show x166 = _; rw [ex166, h50, nI_1]; congr 1
            exact ih (p9 + 1) I167 (by omega) (hPA.blank (by omega) hbl) hat hln (by rw [eI167, IX_up (by decide), eI164, IX_up (by decide)]; exact hIX) (by rw [eI167, eI164]; exact h55) G168 hM hF _ _ hG hS ls (lv_sub hl [0] rfl)
        · skip
          refine lv_aload_n hx hb dX14_next_18 rfl (lv_at hl 0 rfl) ?_
          refine va_calli (va_runV (As := []) (rest := []) ⟨hx, hb, hml, hown, (fun _ h9 => absurd h9 List.not_mem_nil : ∀ w ∈ ([] : List Cond), w.before _ s = true)⟩ (c_M_here l D cy A X hst hXT Gv o Ar Ij F L (mdN sx) (F sx) hM (hLs.src hM) hs31 (hLjIj.hlo (p := p9) hpl (by exact h50)) hLjIj.hhi) (tb_cw (C := RX14) 0 hT tw_1644 tw_109 tw_1641 tw_1643 tw_63 rfl rfl hq_X14_here ⟨Nat.le_of_ble_eq_true rfl, Nat.le_of_ble_eq_true rfl⟩) (mk_preC hst hG hK hA hX hS vc_15 hM.1) rfl rfl hl.1 rfl (lv_room (Nat.le_of_ble_eq_true rfl)) dX14_next_19 ⟨Nat.le_of_ble_eq_true rfl, Nat.le_of_ble_eq_true rfl⟩) hS (fun q _ h => h) (fun q h => h) (fun r169 G170 t H locs ht hvm hw hB hz1 hk1 hS => ?_)
          have hG : mm D vwCl A G170 H := by rw [← ht]; exact hB
          clear hB hz1 hk1 hvm ht
          obtain ⟨er169, hw⟩ := hw
          rw [hw] at hG
          rw [hLjIj.hr (p := p9) hpl (by exact h50)] at er169
          rw [if_pos hcs] at er169
          refine lv_bipush (v := 13) hx hb dX14_next_22 (by decide) ?_
          refine lv_icmp_eq (tgt := 36) hx hb dX14_next_24 (by decide) (fun c_24 => ?_) (fun c_24 => ?_)
          · skip
            refine lv_aload_n hx hb dX14_next_36 rfl (lv_at hl 0 rfl) ?_
            refine va_calli (va_runV (As := []) (rest := []) ⟨hx, hb, hml, hown, (fun _ h9 => absurd h9 List.not_mem_nil : ∀ w ∈ ([] : List Cond), w.before _ s = true)⟩ (c_M_here l D cy A X hst hXT Gv o Ar Ij F L (mdN sx) (F sx) hM (hLs.src hM) hs31 (hLjIj.hlo (p := p9) hpl (by exact h50)) hLjIj.hhi) (tb_cw (C := RX14) 0 hT tw_1644 tw_109 tw_1641 tw_1643 tw_63 rfl rfl hq_X14_here ⟨Nat.le_of_ble_eq_true rfl, Nat.le_of_ble_eq_true rfl⟩) (mk_preC hst hG hK hA hX hS vc_15 hM.1) rfl rfl hl.1 rfl (lv_room (Nat.le_of_ble_eq_true rfl)) dX14_next_37 ⟨Nat.le_of_ble_eq_true rfl, Nat.le_of_ble_eq_true rfl⟩) hS (fun q _ h => h) (fun q h => h) (fun r171 G172 t H locs ht hvm hw hB hz1 hk1 hS => ?_)
            have hG : mm D vwCl A G172 H := by rw [← ht]; exact hB
            clear hB hz1 hk1 hvm ht
            obtain ⟨er171, hw⟩ := hw
            rw [hw] at hG
            rw [hLjIj.hr (p := p9) hpl (by exact h50)] at er171
            rw [if_pos hcs] at er171
            refine lv_bipush (v := 10) hx hb dX14_next_40 (by decide) ?_
            refine lv_icmp_ne (tgt := 55) hx hb dX14_next_42 (by decide) (fun c_42 => ?_) (fun c_42 => ?_)
            · skip
              refine lv_aload_n hx hb dX14_next_55 rfl (lv_at hl 0 rfl) ?_
              refine lv_dup hx hb dX14_next_56 rfl ?_
              refine mm_get (v := .int (Ij 50)) hx hb hf_X14 (fun _ h9 => h9) hown hK hG hM.1 rfl 50 (by decide) (tb_use hT tw_1441) (fun _ h9 => h9) (mfs_g50 _ _) dX14_next_57 ?_
              refine lv_iconst (v := 1) hx hb dX14_next_60 (by decide) ?_
              refine lv_iadd hx hb dX14_next_61 ?_
              refine lv_topi (fun x173 ex173 => ?_)
              refine mm_put (v := .int x173) (ty := .int) hx hb hf_X14 (fun _ h9 => h9) tyX14 tyX14_ok nmX14 hown hK hG hS hM.1 rfl 50 (by decide) (tb_use hT tw_1441) (fun _ h9 => h9) rfl (by decide +kernel) rfl rfl (mfs_l50 _ _) dX14_next_62 (fun H locs hG hS => ?_)
              have hM := MD.puti (k := 50) (v := x173) hM (mfs_s50 _ _ _)
              have hF := hF.wo (e' := .inr (15, (mfs Ar Ij).set 50 (.int x173)))
              obtain ⟨I174, eI174⟩ : ∃ g, g = upd Ij 50 x173 := ⟨_, rfl⟩
              rw [← eI174] at hM
              have hgn := gn_MD hG hM hF
              clear hG hM hF
              obtain ⟨G175, hG, hM, hF⟩ := hgn
              refine lv_goto (tgt := 0) hx hb dX14_next_65 (by decide) ?_
              have hch := (hLs.2.2.2.2.2.2.2 p9 hcs)
              have hbl := bl_of (Or.inr (Or.inr (Or.inl ((chr_eq hch (by decide) (by decide)).mp (er169.symm.trans c_24)))))
              have hln : I174 51 = lnc ft (p9 + 1) := by rw [eI174]; rw [lnc, if_neg (fun z => c_42 (er171.trans ((chr_eq hch (by decide) (by decide)).mpr z)))]; exact h51
              have hat : I174 50 = nI (fr + (p9 + 1)) := by rw [eI174]; show x173 = _; rw [ex173, h50, nI_1]; congr 1
              exact ih (p9 + 1) I174 (by omega) (hPA.blank (by omega) hbl) hat hln (by rw [eI174, IX_up (by decide)]; exact hIX) (by rw [eI174]; exact h55) G175 hM hF _ _ hG hS ls (lv_sub hl [0] rfl)
            · skip
              refine lv_aload_n hx hb dX14_next_45 rfl (lv_at hl 0 rfl) ?_
              refine lv_dup hx hb dX14_next_46 rfl ?_
              refine mm_get (v := .int (Ij 51)) hx hb hf_X14 (fun _ h9 => h9) hown hK hG hM.1 rfl 51 (by decide) (tb_use hT tw_1442) (fun _ h9 => h9) (mfs_g51 _ _) dX14_next_47 ?_
              refine lv_iconst (v := 1) hx hb dX14_next_50 (by decide) ?_
              refine lv_iadd hx hb dX14_next_51 ?_
              refine lv_topi (fun x176 ex176 => ?_)
              refine mm_put (v := .int x176) (ty := .int) hx hb hf_X14 (fun _ h9 => h9) tyX14 tyX14_ok nmX14 hown hK hG hS hM.1 rfl 51 (by decide) (tb_use hT tw_1442) (fun _ h9 => h9) rfl (by decide +kernel) rfl rfl (mfs_l51 _ _) dX14_next_52 (fun H locs hG hS => ?_)
              have hM := MD.puti (k := 51) (v := x176) hM (mfs_s51 _ _ _)
              have hF := hF.wo (e' := .inr (15, (mfs Ar Ij).set 51 (.int x176)))
              obtain ⟨I177, eI177⟩ : ∃ g, g = upd Ij 51 x176 := ⟨_, rfl⟩
              rw [← eI177] at hM
              have hgn := gn_MD hG hM hF
              clear hG hM hF
              obtain ⟨G178, hG, hM, hF⟩ := hgn
              refine lv_aload_n hx hb dX14_next_55 rfl (lv_at hl 0 rfl) ?_
              refine lv_dup hx hb dX14_next_56 rfl ?_
              refine mm_get (v := .int (Ij 50)) hx hb hf_X14 (fun _ h9 => h9) hown hK hG hM.1 rfl 50 (by decide) (tb_use hT tw_1441) (fun _ h9 => h9) (by rw [mfs_g50, eI177] <;> rfl) dX14_next_57 ?_
              refine lv_iconst (v := 1) hx hb dX14_next_60 (by decide) ?_
              refine lv_iadd hx hb dX14_next_61 ?_
              refine lv_topi (fun x179 ex179 => ?_)
              refine mm_put (v := .int x179) (ty := .int) hx hb hf_X14 (fun _ h9 => h9) tyX14 tyX14_ok nmX14 hown hK hG hS hM.1 rfl 50 (by decide) (tb_use hT tw_1441) (fun _ h9 => h9) rfl (by decide +kernel) rfl rfl (mfs_l50 _ _) dX14_next_62 (fun H locs hG hS => ?_)
              have hM := MD.puti (k := 50) (v := x179) hM (mfs_s50 _ _ _)
              have hF := hF.wo (e' := .inr (15, (mfs Ar I177).set 50 (.int x179)))
              obtain ⟨I180, eI180⟩ : ∃ g, g = upd I177 50 x179 := ⟨_, rfl⟩
              rw [← eI180] at hM
              have hgn := gn_MD hG hM hF
              clear hG hM hF
              obtain ⟨G181, hG, hM, hF⟩ := hgn
              refine lv_goto (tgt := 0) hx hb dX14_next_65 (by decide) ?_
              have hch := (hLs.2.2.2.2.2.2.2 p9 hcs)
              have hbl := bl_of (Or.inr (Or.inr (Or.inl ((chr_eq hch (by decide) (by decide)).mp (er169.symm.trans c_24)))))
              have hln : I180 51 = lnc ft (p9 + 1) := by rw [eI180, eI177]; rw [lnc, if_pos ((chr_eq hch (by decide) (by decide)).mp (er171.symm.trans c_42)), ← h51]; exact ex176
              have hat : I180 50 = nI (fr + (p9 + 1)) := by rw [eI180, eI177]; show x179 = _; rw [ex179, h50, nI_1]; congr 1
              exact ih (p9 + 1) I180 (by omega) (hPA.blank (by omega) hbl) hat hln (by rw [eI180, IX_up (by decide), eI177, IX_up (by decide)]; exact hIX) (by rw [eI180, eI177]; exact h55) G181 hM hF _ _ hG hS ls (lv_sub hl [0] rfl)
          · skip
            refine lv_aload_n hx hb dX14_next_27 rfl (lv_at hl 0 rfl) ?_
            refine va_calli (va_runV (As := []) (rest := []) ⟨hx, hb, hml, hown, (fun _ h9 => absurd h9 List.not_mem_nil : ∀ w ∈ ([] : List Cond), w.before _ s = true)⟩ (c_M_here l D cy A X hst hXT Gv o Ar Ij F L (mdN sx) (F sx) hM (hLs.src hM) hs31 (hLjIj.hlo (p := p9) hpl (by exact h50)) hLjIj.hhi) (tb_cw (C := RX14) 0 hT tw_1644 tw_109 tw_1641 tw_1643 tw_63 rfl rfl hq_X14_here ⟨Nat.le_of_ble_eq_true rfl, Nat.le_of_ble_eq_true rfl⟩) (mk_preC hst hG hK hA hX hS vc_15 hM.1) rfl rfl hl.1 rfl (lv_room (Nat.le_of_ble_eq_true rfl)) dX14_next_28 ⟨Nat.le_of_ble_eq_true rfl, Nat.le_of_ble_eq_true rfl⟩) hS (fun q _ h => h) (fun q h => h) (fun r182 G183 t H locs ht hvm hw hB hz1 hk1 hS => ?_)
            have hG : mm D vwCl A G183 H := by rw [← ht]; exact hB
            clear hB hz1 hk1 hvm ht
            obtain ⟨er182, hw⟩ := hw
            rw [hw] at hG
            rw [hLjIj.hr (p := p9) hpl (by exact h50)] at er182
            rw [if_pos hcs] at er182
            refine lv_bipush (v := 32) hx hb dX14_next_31 (by decide) ?_
            refine lv_icmp_ne (tgt := 68) hx hb dX14_next_33 (by decide) (fun c_33 => ?_) (fun c_33 => ?_)
            · skip
              refine lv_aload_n hx hb dX14_next_68 rfl (lv_at hl 0 rfl) ?_
              refine lv_aload_n hx hb dX14_next_69 rfl (lv_at hl 0 rfl) ?_
              refine mm_get (v := .int (Ij 51)) hx hb hf_X14 (fun _ h9 => h9) hown hK hG hM.1 rfl 51 (by decide) (tb_use hT tw_1442) (fun _ h9 => h9) (mfs_g51 _ _) dX14_next_70 ?_
              refine lv_topi (fun x184 ex184 => ?_)
              refine mm_put (v := .int x184) (ty := .int) hx hb hf_X14 (fun _ h9 => h9) tyX14 tyX14_ok nmX14 hown hK hG hS hM.1 rfl 54 (by decide) (tb_use hT tw_1445) (fun _ h9 => h9) rfl (by decide +kernel) rfl rfl (mfs_l54 _ _) dX14_next_73 (fun H locs hG hS => ?_)
              have hM := MD.puti (k := 54) (v := x184) hM (mfs_s54 _ _ _)
              have hF := hF.wo (e' := .inr (15, (mfs Ar Ij).set 54 (.int x184)))
              obtain ⟨I185, eI185⟩ : ∃ g, g = upd Ij 54 x184 := ⟨_, rfl⟩
              rw [← eI185] at hM
              have hgn := gn_MD hG hM hF
              clear hG hM hF
              obtain ⟨G186, hG, hM, hF⟩ := hgn
              refine lv_aload_n hx hb dX14_next_76 rfl (lv_at hl 0 rfl) ?_
              refine mm_get (v := .int (Ij 50)) hx hb hf_X14 (fun _ h9 => h9) hown hK hG hM.1 rfl 50 (by decide) (tb_use hT tw_1441) (fun _ h9 => h9) (by rw [mfs_g50, eI185] <;> rfl) dX14_next_77 ?_
              rw [show (Ij 50) = nI (fr + p9) from h50]
              refine lv_istore_n (lv' := [(1, .int (nI (fr + p9))), (0, .ref o)]) hx hb dX14_next_80 rfl hl (by decide) rfl (fun ls hl => ?_)
              refine lv_aload_n hx hb dX14_next_81 rfl (lv_at hl 1 rfl) ?_
              have hLjI185 : LXs Ar I185 F ft sx fr en bo := hLs.mx (by rw [eI185, IX_up (by decide)]; exact hIX) rfl
              refine va_calli (va_runV (As := []) (rest := []) ⟨hx, hb, hml, hown, (fun _ h9 => absurd h9 List.not_mem_nil : ∀ w ∈ ([] : List Cond), w.before _ s = true)⟩ (c_M_here l D cy A X hst hXT G186 o Ar I185 F L (mdN sx) (F sx) hM (hLs.src hM) hs31 (hLjI185.hlo (p := p9) hpl (by rw [eI185]; exact h50)) hLjI185.hhi) (tb_cw (C := RX14) 0 hT tw_1644 tw_109 tw_1641 tw_1643 tw_63 rfl rfl hq_X14_here ⟨Nat.le_of_ble_eq_true rfl, Nat.le_of_ble_eq_true rfl⟩) (mk_preC hst hG hK hA hX hS vc_15 hM.1) rfl rfl hl.1 rfl (lv_room (Nat.le_of_ble_eq_true rfl)) dX14_next_82 ⟨Nat.le_of_ble_eq_true rfl, Nat.le_of_ble_eq_true rfl⟩) hS (fun q _ h => h) (fun q h => h) (fun r187 G188 t H locs ht hvm hw hB hz1 hk1 hS => ?_)
              have hG : mm D vwCl A G188 H := by rw [← ht]; exact hB
              clear hB hz1 hk1 hvm ht
              obtain ⟨er187, hw⟩ := hw
              rw [hw] at hG
              rw [hLjI185.hr (p := p9) hpl (by rw [eI185]; exact h50)] at er187
              rw [if_pos hcs] at er187
              refine lv_istore_n (lv' := [(2, .int r187), (1, .int (nI (fr + p9))), (0, .ref o)]) hx hb dX14_next_85 rfl hl (by decide) rfl (fun ls hl => ?_)
              refine lv_aload_n hx hb dX14_next_86 rfl (lv_at hl 2 rfl) ?_
              refine lv_iload_n hx hb dX14_next_87 rfl (lv_at hl 0 rfl) ?_
              refine mm_put (v := .int r187) (ty := .int) hx hb hf_X14 (fun _ h9 => h9) tyX14 tyX14_ok nmX14 hown hK hG hS hM.1 rfl 53 (by decide) (tb_use hT tw_1444) (fun _ h9 => h9) rfl (by decide +kernel) rfl rfl (mfs_l53 _ _) dX14_next_88 (fun H locs hG hS => ?_)
              have hM := MD.puti (k := 53) (v := r187) hM (mfs_s53 _ _ _)
              have hF := hF.wo (e' := .inr (15, (mfs Ar I185).set 53 (.int r187)))
              obtain ⟨I189, eI189⟩ : ∃ g, g = upd I185 53 r187 := ⟨_, rfl⟩
              rw [← eI189] at hM
              have hgn := gn_MD hG hM hF
              clear hG hM hF
              obtain ⟨G190, hG, hM, hF⟩ := hgn
              refine lv_iload_n hx hb dX14_next_91 rfl (lv_at hl 0 rfl) ?_
              refine lv_if_ge (tgt := 103) hx hb dX14_next_92 (by decide) (fun c_92 => ?_) (fun c_92 => ?_)
              · skip
                refine lv_iload_n hx hb dX14_next_103 rfl (lv_at hl 0 rfl) ?_
                refine va_calli (va_runS (As := [.int r187]) (rest := []) ⟨hx, hb, hml, hown, (fun _ h9 => absurd h9 List.not_mem_nil : ∀ w ∈ ([] : List Cond), w.before _ s = true)⟩ (c_M_isLe l D cy A X hst hXT G190 r187) (tb_cs 1 hT tw_1647 tw_109 tw_1645 tw_1646 rfl rfl hq_X14_isLetter ⟨Nat.le_of_ble_eq_true rfl, Nat.le_of_ble_eq_true rfl⟩) (mk_preS hst hG hK hA hX hS) rfl rfl hl.1 rfl (lv_room (Nat.le_of_ble_eq_true rfl)) dX14_next_104 ⟨Nat.le_of_ble_eq_true rfl, Nat.le_of_ble_eq_true rfl⟩) hS (fun q _ h => h) (fun q h => h) (fun r191 G192 t H locs ht hvm hw hB hz1 hk1 hS => ?_)
                have hG : mm D vwCl A G192 H := by rw [← ht]; exact hB
                clear hB hz1 hk1 hvm ht
                obtain ⟨er191, hw⟩ := hw
                rw [hw] at hG
                refine lv_if_eq (tgt := 226) hx hb dX14_next_107 (by decide) (fun c_107 => ?_) (fun c_107 => ?_)
                · skip
                  refine lv_iload_n hx hb dX14_next_226 rfl (lv_at hl 0 rfl) ?_
                  refine va_calli (va_runS (As := [.int r187]) (rest := []) ⟨hx, hb, hml, hown, (fun _ h9 => absurd h9 List.not_mem_nil : ∀ w ∈ ([] : List Cond), w.before _ s = true)⟩ (c_M_isDi l D cy A X hst hXT G190 r187) (tb_cs 1 hT tw_1650 tw_109 tw_1648 tw_1649 rfl rfl hq_X14_isDigit ⟨Nat.le_of_ble_eq_true rfl, Nat.le_of_ble_eq_true rfl⟩) (mk_preS hst hG hK hA hX hS) rfl rfl hl.1 rfl (lv_room (Nat.le_of_ble_eq_true rfl)) dX14_next_227 ⟨Nat.le_of_ble_eq_true rfl, Nat.le_of_ble_eq_true rfl⟩) hS (fun q _ h => h) (fun q h => h) (fun r193 G194 t H locs ht hvm hw hB hz1 hk1 hS => ?_)
                  have hG : mm D vwCl A G194 H := by rw [← ht]; exact hB
                  clear hB hz1 hk1 hvm ht
                  obtain ⟨er193, hw⟩ := hw
                  rw [hw] at hG
                  refine lv_if_eq (tgt := 320) hx hb dX14_next_230 (by decide) (fun c_230 => ?_) (fun c_230 => ?_)
                  · skip
                    refine lv_aload_n hx hb dX14_next_320 rfl (lv_at hl 2 rfl) ?_
                    refine lv_iload_n hx hb dX14_next_321 rfl (lv_at hl 0 rfl) ?_
                    refine lv_bipush (v := 123) hx hb dX14_next_322 (by decide) ?_
                    refine lv_icmp_eq (tgt := 363) hx hb dX14_next_324 (by decide) (fun c_324 => ?_) (fun c_324 => ?_)
                    · skip
                      refine lv_iconst (v := 4) hx hb dX14_next_363 (by decide) ?_
                      refine lv_goto (tgt := 368) hx hb dX14_next_364 (by decide) ?_
                      refine mm_put (v := .int 4) (ty := .int) hx hb hf_X14 (fun _ h9 => h9) tyX14 tyX14_ok nmX14 hown hK hG hS hM.1 rfl 52 (by decide) (tb_use hT tw_1443) (fun _ h9 => h9) rfl (by decide +kernel) rfl rfl (mfs_l52 _ _) dX14_next_368 (fun H locs hG hS => ?_)
                      have hM := MD.puti (k := 52) (v := 4) hM (mfs_s52 _ _ _)
                      have hF := hF.wo (e' := .inr (15, (mfs Ar I189).set 52 (.int 4)))
                      obtain ⟨I195, eI195⟩ : ∃ g, g = upd I189 52 4 := ⟨_, rfl⟩
                      rw [← eI195] at hM
                      have hgn := gn_MD hG hM hF
                      clear hG hM hF
                      obtain ⟨G196, hG, hM, hF⟩ := hgn
                      refine lv_aload_n hx hb dX14_next_371 rfl (lv_at hl 2 rfl) ?_
                      refine lv_dup hx hb dX14_next_372 rfl ?_
                      refine mm_get (v := .int (Ij 50)) hx hb hf_X14 (fun _ h9 => h9) hown hK hG hM.1 rfl 50 (by decide) (tb_use hT tw_1441) (fun _ h9 => h9) (by rw [mfs_g50, eI195, eI189, eI185] <;> rfl) dX14_next_373 ?_
                      refine lv_iconst (v := 1) hx hb dX14_next_376 (by decide) ?_
                      refine lv_iadd hx hb dX14_next_377 ?_
                      refine lv_topi (fun x197 ex197 => ?_)
                      refine mm_put (v := .int x197) (ty := .int) hx hb hf_X14 (fun _ h9 => h9) tyX14 tyX14_ok nmX14 hown hK hG hS hM.1 rfl 50 (by decide) (tb_use hT tw_1441) (fun _ h9 => h9) rfl (by decide +kernel) rfl rfl (mfs_l50 _ _) dX14_next_378 (fun H locs hG hS => ?_)
                      have hM := MD.puti (k := 50) (v := x197) hM (mfs_s50 _ _ _)
                      have hF := hF.wo (e' := .inr (15, (mfs Ar I195).set 50 (.int x197)))
                      obtain ⟨I198, eI198⟩ : ∃ g, g = upd I195 50 x197 := ⟨_, rfl⟩
                      rw [← eI198] at hM
                      have hgn := gn_MD hG hM hF
                      clear hG hM hF
                      obtain ⟨G199, hG, hM, hF⟩ := hgn
                      have hi9 : i9 ≤ p9 := hPA.2.2.1
                      have hp9 : p9 ≤ en := hPA.2.1
                      have hch := (hLs.2.2.2.2.2.2.2 p9 hcs)
                      have hle : isLe (ft p9) = false := by rw [← chr_le hch, ← er187]; exact b2i_f (by rw [← er191]; exact c_107)
                      have hdi : isDi (ft p9) = false := by rw [← chr_di hch, ← er187]; exact b2i_f (by rw [← er193]; exact c_230)
                      have hnb : isBl (ft p9) = false := bl_no (fun z => c_6 (er143.trans ((chr_eq hch (by decide) (by decide)).mpr z))) (fun z => c_15 (er156.trans ((chr_eq hch (by decide) (by decide)).mpr z))) (fun z => c_24 (er169.trans ((chr_eq hch (by decide) (by decide)).mpr z))) (fun z => c_33 (er182.trans ((chr_eq hch (by decide) (by decide)).mpr z)))
                      have hsk : sgK (ft p9) = some 4 := by rw [sgK, if_pos ((chr_eq hch (by decide) (by decide)).mp (er187.symm.trans c_324))]
                      obtain ⟨t2, t3, t4⟩ := hPA.sig (by omega) hnb hle hdi hsk
                      have hJX : IX I198 = IX Iv := (by rw [eI198, IX_up (by decide), eI195, IX_up (by decide), eI189, IX_up (by decide), eI185, IX_up (by decide)]; exact hIX)
                      exact W.vret hx hb hr (fun t ht hW => ⟨⟨_, rfl, ⟨_, _, hM, hF, ⟨hLs.mx hJX rfl, ⟨hPA.lt, (by omega)⟩, (by rw [eI198, eI195, eI189, eI185]; rw [t2]; exact Or.inr (Or.inr (Or.inr (Or.inr (Or.inl ⟨by decide, by decide, rfl, er187.trans ((chr_eq hch (by decide) (by decide)).mpr (sgK_ok hsk).2.2)⟩))))), ⟨p9, (by omega), t3, (by rw [eI198, eI195, eI189, eI185]; show x184 = _; rw [ex184]; exact h51)⟩, (by rw [if_pos hfa]; rw [eI198, eI195, eI189, eI185]; exact h55), (by rw [ntL_ne (by rw [t2]; decide)]; exact hNT), (fun _ _ => ⟨p9 + 1, t4, (by rw [eI198, eI195, eI189, eI185]; show x197 = _; rw [ex197, h50, nI_1]; congr 1), (by rw [eI198, eI195, eI189, eI185]; rw [lnc, if_neg (fun z => by rw [z] at hnb; exact absurd hnb (by decide))]; exact h51)⟩)⟩, hJX, rfl⟩, mk_end hG ht⟩, hS.F ht⟩) hS.2.2 dX14_next_381
                    · skip
                      refine lv_iload_n hx hb dX14_next_327 rfl (lv_at hl 0 rfl) ?_
                      refine lv_bipush (v := 125) hx hb dX14_next_328 (by decide) ?_
                      refine lv_icmp_eq (tgt := 363) hx hb dX14_next_330 (by decide) (fun c_330 => ?_) (fun c_330 => ?_)
                      · skip
                        refine lv_iconst (v := 4) hx hb dX14_next_363 (by decide) ?_
                        refine lv_goto (tgt := 368) hx hb dX14_next_364 (by decide) ?_
                        refine mm_put (v := .int 4) (ty := .int) hx hb hf_X14 (fun _ h9 => h9) tyX14 tyX14_ok nmX14 hown hK hG hS hM.1 rfl 52 (by decide) (tb_use hT tw_1443) (fun _ h9 => h9) rfl (by decide +kernel) rfl rfl (mfs_l52 _ _) dX14_next_368 (fun H locs hG hS => ?_)
                        have hM := MD.puti (k := 52) (v := 4) hM (mfs_s52 _ _ _)
                        have hF := hF.wo (e' := .inr (15, (mfs Ar I189).set 52 (.int 4)))
                        obtain ⟨I200, eI200⟩ : ∃ g, g = upd I189 52 4 := ⟨_, rfl⟩
                        rw [← eI200] at hM
                        have hgn := gn_MD hG hM hF
                        clear hG hM hF
                        obtain ⟨G201, hG, hM, hF⟩ := hgn
                        refine lv_aload_n hx hb dX14_next_371 rfl (lv_at hl 2 rfl) ?_
                        refine lv_dup hx hb dX14_next_372 rfl ?_
                        refine mm_get (v := .int (Ij 50)) hx hb hf_X14 (fun _ h9 => h9) hown hK hG hM.1 rfl 50 (by decide) (tb_use hT tw_1441) (fun _ h9 => h9) (by rw [mfs_g50, eI200, eI189, eI185] <;> rfl) dX14_next_373 ?_
                        refine lv_iconst (v := 1) hx hb dX14_next_376 (by decide) ?_
                        refine lv_iadd hx hb dX14_next_377 ?_
                        refine lv_topi (fun x202 ex202 => ?_)
                        refine mm_put (v := .int x202) (ty := .int) hx hb hf_X14 (fun _ h9 => h9) tyX14 tyX14_ok nmX14 hown hK hG hS hM.1 rfl 50 (by decide) (tb_use hT tw_1441) (fun _ h9 => h9) rfl (by decide +kernel) rfl rfl (mfs_l50 _ _) dX14_next_378 (fun H locs hG hS => ?_)
                        have hM := MD.puti (k := 50) (v := x202) hM (mfs_s50 _ _ _)
                        have hF := hF.wo (e' := .inr (15, (mfs Ar I200).set 50 (.int x202)))
                        obtain ⟨I203, eI203⟩ : ∃ g, g = upd I200 50 x202 := ⟨_, rfl⟩
                        rw [← eI203] at hM
                        have hgn := gn_MD hG hM hF
                        clear hG hM hF
                        obtain ⟨G204, hG, hM, hF⟩ := hgn
                        have hi9 : i9 ≤ p9 := hPA.2.2.1
                        have hp9 : p9 ≤ en := hPA.2.1
                        have hch := (hLs.2.2.2.2.2.2.2 p9 hcs)
                        have hle : isLe (ft p9) = false := by rw [← chr_le hch, ← er187]; exact b2i_f (by rw [← er191]; exact c_107)
                        have hdi : isDi (ft p9) = false := by rw [← chr_di hch, ← er187]; exact b2i_f (by rw [← er193]; exact c_230)
                        have hnb : isBl (ft p9) = false := bl_no (fun z => c_6 (er143.trans ((chr_eq hch (by decide) (by decide)).mpr z))) (fun z => c_15 (er156.trans ((chr_eq hch (by decide) (by decide)).mpr z))) (fun z => c_24 (er169.trans ((chr_eq hch (by decide) (by decide)).mpr z))) (fun z => c_33 (er182.trans ((chr_eq hch (by decide) (by decide)).mpr z)))
                        have hsk : sgK (ft p9) = some 5 := by rw [sgK, if_neg (fun z => c_324 (er187.trans ((chr_eq hch (by decide) (by decide)).mpr z))), if_pos ((chr_eq hch (by decide) (by decide)).mp (er187.symm.trans c_330))]
                        obtain ⟨t2, t3, t4⟩ := hPA.sig (by omega) hnb hle hdi hsk
                        have hJX : IX I203 = IX Iv := (by rw [eI203, IX_up (by decide), eI200, IX_up (by decide), eI189, IX_up (by decide), eI185, IX_up (by decide)]; exact hIX)
                        exact W.vret hx hb hr (fun t ht hW => ⟨⟨_, rfl, ⟨_, _, hM, hF, ⟨hLs.mx hJX rfl, ⟨hPA.lt, (by omega)⟩, (by rw [eI203, eI200, eI189, eI185]; rw [t2]; exact Or.inr (Or.inr (Or.inr (Or.inr (Or.inl ⟨by decide, by decide, rfl, er187.trans ((chr_eq hch (by decide) (by decide)).mpr (sgK_ok hsk).2.2)⟩))))), ⟨p9, (by omega), t3, (by rw [eI203, eI200, eI189, eI185]; show x184 = _; rw [ex184]; exact h51)⟩, (by rw [if_pos hfa]; rw [eI203, eI200, eI189, eI185]; exact h55), (by rw [ntL_ne (by rw [t2]; decide)]; exact hNT), (fun _ _ => ⟨p9 + 1, t4, (by rw [eI203, eI200, eI189, eI185]; show x202 = _; rw [ex202, h50, nI_1]; congr 1), (by rw [eI203, eI200, eI189, eI185]; rw [lnc, if_neg (fun z => by rw [z] at hnb; exact absurd hnb (by decide))]; exact h51)⟩)⟩, hJX, rfl⟩, mk_end hG ht⟩, hS.F ht⟩) hS.2.2 dX14_next_381
                      · skip
                        refine lv_iload_n hx hb dX14_next_333 rfl (lv_at hl 0 rfl) ?_
                        refine lv_bipush (v := 59) hx hb dX14_next_334 (by decide) ?_
                        refine lv_icmp_eq (tgt := 363) hx hb dX14_next_336 (by decide) (fun c_336 => ?_) (fun c_336 => ?_)
                        · skip
                          refine lv_iconst (v := 4) hx hb dX14_next_363 (by decide) ?_
                          refine lv_goto (tgt := 368) hx hb dX14_next_364 (by decide) ?_
                          refine mm_put (v := .int 4) (ty := .int) hx hb hf_X14 (fun _ h9 => h9) tyX14 tyX14_ok nmX14 hown hK hG hS hM.1 rfl 52 (by decide) (tb_use hT tw_1443) (fun _ h9 => h9) rfl (by decide +kernel) rfl rfl (mfs_l52 _ _) dX14_next_368 (fun H locs hG hS => ?_)
                          have hM := MD.puti (k := 52) (v := 4) hM (mfs_s52 _ _ _)
                          have hF := hF.wo (e' := .inr (15, (mfs Ar I189).set 52 (.int 4)))
                          obtain ⟨I205, eI205⟩ : ∃ g, g = upd I189 52 4 := ⟨_, rfl⟩
                          rw [← eI205] at hM
                          have hgn := gn_MD hG hM hF
                          clear hG hM hF
                          obtain ⟨G206, hG, hM, hF⟩ := hgn
                          refine lv_aload_n hx hb dX14_next_371 rfl (lv_at hl 2 rfl) ?_
                          refine lv_dup hx hb dX14_next_372 rfl ?_
                          refine mm_get (v := .int (Ij 50)) hx hb hf_X14 (fun _ h9 => h9) hown hK hG hM.1 rfl 50 (by decide) (tb_use hT tw_1441) (fun _ h9 => h9) (by rw [mfs_g50, eI205, eI189, eI185] <;> rfl) dX14_next_373 ?_
                          refine lv_iconst (v := 1) hx hb dX14_next_376 (by decide) ?_
                          refine lv_iadd hx hb dX14_next_377 ?_
                          refine lv_topi (fun x207 ex207 => ?_)
                          refine mm_put (v := .int x207) (ty := .int) hx hb hf_X14 (fun _ h9 => h9) tyX14 tyX14_ok nmX14 hown hK hG hS hM.1 rfl 50 (by decide) (tb_use hT tw_1441) (fun _ h9 => h9) rfl (by decide +kernel) rfl rfl (mfs_l50 _ _) dX14_next_378 (fun H locs hG hS => ?_)
                          have hM := MD.puti (k := 50) (v := x207) hM (mfs_s50 _ _ _)
                          have hF := hF.wo (e' := .inr (15, (mfs Ar I205).set 50 (.int x207)))
                          obtain ⟨I208, eI208⟩ : ∃ g, g = upd I205 50 x207 := ⟨_, rfl⟩
                          rw [← eI208] at hM
                          have hgn := gn_MD hG hM hF
                          clear hG hM hF
                          obtain ⟨G209, hG, hM, hF⟩ := hgn
                          have hi9 : i9 ≤ p9 := hPA.2.2.1
                          have hp9 : p9 ≤ en := hPA.2.1
                          have hch := (hLs.2.2.2.2.2.2.2 p9 hcs)
                          have hle : isLe (ft p9) = false := by rw [← chr_le hch, ← er187]; exact b2i_f (by rw [← er191]; exact c_107)
                          have hdi : isDi (ft p9) = false := by rw [← chr_di hch, ← er187]; exact b2i_f (by rw [← er193]; exact c_230)
                          have hnb : isBl (ft p9) = false := bl_no (fun z => c_6 (er143.trans ((chr_eq hch (by decide) (by decide)).mpr z))) (fun z => c_15 (er156.trans ((chr_eq hch (by decide) (by decide)).mpr z))) (fun z => c_24 (er169.trans ((chr_eq hch (by decide) (by decide)).mpr z))) (fun z => c_33 (er182.trans ((chr_eq hch (by decide) (by decide)).mpr z)))
                          have hsk : sgK (ft p9) = some 6 := by rw [sgK, if_neg (fun z => c_324 (er187.trans ((chr_eq hch (by decide) (by decide)).mpr z))), if_neg (fun z => c_330 (er187.trans ((chr_eq hch (by decide) (by decide)).mpr z))), if_pos ((chr_eq hch (by decide) (by decide)).mp (er187.symm.trans c_336))]
                          obtain ⟨t2, t3, t4⟩ := hPA.sig (by omega) hnb hle hdi hsk
                          have hJX : IX I208 = IX Iv := (by rw [eI208, IX_up (by decide), eI205, IX_up (by decide), eI189, IX_up (by decide), eI185, IX_up (by decide)]; exact hIX)
                          exact W.vret hx hb hr (fun t ht hW => ⟨⟨_, rfl, ⟨_, _, hM, hF, ⟨hLs.mx hJX rfl, ⟨hPA.lt, (by omega)⟩, (by rw [eI208, eI205, eI189, eI185]; rw [t2]; exact Or.inr (Or.inr (Or.inr (Or.inr (Or.inl ⟨by decide, by decide, rfl, er187.trans ((chr_eq hch (by decide) (by decide)).mpr (sgK_ok hsk).2.2)⟩))))), ⟨p9, (by omega), t3, (by rw [eI208, eI205, eI189, eI185]; show x184 = _; rw [ex184]; exact h51)⟩, (by rw [if_pos hfa]; rw [eI208, eI205, eI189, eI185]; exact h55), (by rw [ntL_ne (by rw [t2]; decide)]; exact hNT), (fun _ _ => ⟨p9 + 1, t4, (by rw [eI208, eI205, eI189, eI185]; show x207 = _; rw [ex207, h50, nI_1]; congr 1), (by rw [eI208, eI205, eI189, eI185]; rw [lnc, if_neg (fun z => by rw [z] at hnb; exact absurd hnb (by decide))]; exact h51)⟩)⟩, hJX, rfl⟩, mk_end hG ht⟩, hS.F ht⟩) hS.2.2 dX14_next_381
                        · skip
                          refine lv_iload_n hx hb dX14_next_339 rfl (lv_at hl 0 rfl) ?_
                          refine lv_bipush (v := 58) hx hb dX14_next_340 (by decide) ?_
                          refine lv_icmp_eq (tgt := 363) hx hb dX14_next_342 (by decide) (fun c_342 => ?_) (fun c_342 => ?_)
                          · skip
                            refine lv_iconst (v := 4) hx hb dX14_next_363 (by decide) ?_
                            refine lv_goto (tgt := 368) hx hb dX14_next_364 (by decide) ?_
                            refine mm_put (v := .int 4) (ty := .int) hx hb hf_X14 (fun _ h9 => h9) tyX14 tyX14_ok nmX14 hown hK hG hS hM.1 rfl 52 (by decide) (tb_use hT tw_1443) (fun _ h9 => h9) rfl (by decide +kernel) rfl rfl (mfs_l52 _ _) dX14_next_368 (fun H locs hG hS => ?_)
                            have hM := MD.puti (k := 52) (v := 4) hM (mfs_s52 _ _ _)
                            have hF := hF.wo (e' := .inr (15, (mfs Ar I189).set 52 (.int 4)))
                            obtain ⟨I210, eI210⟩ : ∃ g, g = upd I189 52 4 := ⟨_, rfl⟩
                            rw [← eI210] at hM
                            have hgn := gn_MD hG hM hF
                            clear hG hM hF
                            obtain ⟨G211, hG, hM, hF⟩ := hgn
                            refine lv_aload_n hx hb dX14_next_371 rfl (lv_at hl 2 rfl) ?_
                            refine lv_dup hx hb dX14_next_372 rfl ?_
                            refine mm_get (v := .int (Ij 50)) hx hb hf_X14 (fun _ h9 => h9) hown hK hG hM.1 rfl 50 (by decide) (tb_use hT tw_1441) (fun _ h9 => h9) (by rw [mfs_g50, eI210, eI189, eI185] <;> rfl) dX14_next_373 ?_
                            refine lv_iconst (v := 1) hx hb dX14_next_376 (by decide) ?_
                            refine lv_iadd hx hb dX14_next_377 ?_
                            refine lv_topi (fun x212 ex212 => ?_)
                            refine mm_put (v := .int x212) (ty := .int) hx hb hf_X14 (fun _ h9 => h9) tyX14 tyX14_ok nmX14 hown hK hG hS hM.1 rfl 50 (by decide) (tb_use hT tw_1441) (fun _ h9 => h9) rfl (by decide +kernel) rfl rfl (mfs_l50 _ _) dX14_next_378 (fun H locs hG hS => ?_)
                            have hM := MD.puti (k := 50) (v := x212) hM (mfs_s50 _ _ _)
                            have hF := hF.wo (e' := .inr (15, (mfs Ar I210).set 50 (.int x212)))
                            obtain ⟨I213, eI213⟩ : ∃ g, g = upd I210 50 x212 := ⟨_, rfl⟩
                            rw [← eI213] at hM
                            have hgn := gn_MD hG hM hF
                            clear hG hM hF
                            obtain ⟨G214, hG, hM, hF⟩ := hgn
                            have hi9 : i9 ≤ p9 := hPA.2.2.1
                            have hp9 : p9 ≤ en := hPA.2.1
                            have hch := (hLs.2.2.2.2.2.2.2 p9 hcs)
                            have hle : isLe (ft p9) = false := by rw [← chr_le hch, ← er187]; exact b2i_f (by rw [← er191]; exact c_107)
                            have hdi : isDi (ft p9) = false := by rw [← chr_di hch, ← er187]; exact b2i_f (by rw [← er193]; exact c_230)
                            have hnb : isBl (ft p9) = false := bl_no (fun z => c_6 (er143.trans ((chr_eq hch (by decide) (by decide)).mpr z))) (fun z => c_15 (er156.trans ((chr_eq hch (by decide) (by decide)).mpr z))) (fun z => c_24 (er169.trans ((chr_eq hch (by decide) (by decide)).mpr z))) (fun z => c_33 (er182.trans ((chr_eq hch (by decide) (by decide)).mpr z)))
                            have hsk : sgK (ft p9) = some 7 := by rw [sgK, if_neg (fun z => c_324 (er187.trans ((chr_eq hch (by decide) (by decide)).mpr z))), if_neg (fun z => c_330 (er187.trans ((chr_eq hch (by decide) (by decide)).mpr z))), if_neg (fun z => c_336 (er187.trans ((chr_eq hch (by decide) (by decide)).mpr z))), if_pos ((chr_eq hch (by decide) (by decide)).mp (er187.symm.trans c_342))]
                            obtain ⟨t2, t3, t4⟩ := hPA.sig (by omega) hnb hle hdi hsk
                            have hJX : IX I213 = IX Iv := (by rw [eI213, IX_up (by decide), eI210, IX_up (by decide), eI189, IX_up (by decide), eI185, IX_up (by decide)]; exact hIX)
                            exact W.vret hx hb hr (fun t ht hW => ⟨⟨_, rfl, ⟨_, _, hM, hF, ⟨hLs.mx hJX rfl, ⟨hPA.lt, (by omega)⟩, (by rw [eI213, eI210, eI189, eI185]; rw [t2]; exact Or.inr (Or.inr (Or.inr (Or.inr (Or.inl ⟨by decide, by decide, rfl, er187.trans ((chr_eq hch (by decide) (by decide)).mpr (sgK_ok hsk).2.2)⟩))))), ⟨p9, (by omega), t3, (by rw [eI213, eI210, eI189, eI185]; show x184 = _; rw [ex184]; exact h51)⟩, (by rw [if_pos hfa]; rw [eI213, eI210, eI189, eI185]; exact h55), (by rw [ntL_ne (by rw [t2]; decide)]; exact hNT), (fun _ _ => ⟨p9 + 1, t4, (by rw [eI213, eI210, eI189, eI185]; show x212 = _; rw [ex212, h50, nI_1]; congr 1), (by rw [eI213, eI210, eI189, eI185]; rw [lnc, if_neg (fun z => by rw [z] at hnb; exact absurd hnb (by decide))]; exact h51)⟩)⟩, hJX, rfl⟩, mk_end hG ht⟩, hS.F ht⟩) hS.2.2 dX14_next_381
                          · skip
                            refine lv_iload_n hx hb dX14_next_345 rfl (lv_at hl 0 rfl) ?_
                            refine lv_bipush (v := 61) hx hb dX14_next_346 (by decide) ?_
                            refine lv_icmp_eq (tgt := 363) hx hb dX14_next_348 (by decide) (fun c_348 => ?_) (fun c_348 => ?_)
                            · skip
                              refine lv_iconst (v := 4) hx hb dX14_next_363 (by decide) ?_
                              refine lv_goto (tgt := 368) hx hb dX14_next_364 (by decide) ?_
                              refine mm_put (v := .int 4) (ty := .int) hx hb hf_X14 (fun _ h9 => h9) tyX14 tyX14_ok nmX14 hown hK hG hS hM.1 rfl 52 (by decide) (tb_use hT tw_1443) (fun _ h9 => h9) rfl (by decide +kernel) rfl rfl (mfs_l52 _ _) dX14_next_368 (fun H locs hG hS => ?_)
                              have hM := MD.puti (k := 52) (v := 4) hM (mfs_s52 _ _ _)
                              have hF := hF.wo (e' := .inr (15, (mfs Ar I189).set 52 (.int 4)))
                              obtain ⟨I215, eI215⟩ : ∃ g, g = upd I189 52 4 := ⟨_, rfl⟩
                              rw [← eI215] at hM
                              have hgn := gn_MD hG hM hF
                              clear hG hM hF
                              obtain ⟨G216, hG, hM, hF⟩ := hgn
                              refine lv_aload_n hx hb dX14_next_371 rfl (lv_at hl 2 rfl) ?_
                              refine lv_dup hx hb dX14_next_372 rfl ?_
                              refine mm_get (v := .int (Ij 50)) hx hb hf_X14 (fun _ h9 => h9) hown hK hG hM.1 rfl 50 (by decide) (tb_use hT tw_1441) (fun _ h9 => h9) (by rw [mfs_g50, eI215, eI189, eI185] <;> rfl) dX14_next_373 ?_
                              refine lv_iconst (v := 1) hx hb dX14_next_376 (by decide) ?_
                              refine lv_iadd hx hb dX14_next_377 ?_
                              refine lv_topi (fun x217 ex217 => ?_)
                              refine mm_put (v := .int x217) (ty := .int) hx hb hf_X14 (fun _ h9 => h9) tyX14 tyX14_ok nmX14 hown hK hG hS hM.1 rfl 50 (by decide) (tb_use hT tw_1441) (fun _ h9 => h9) rfl (by decide +kernel) rfl rfl (mfs_l50 _ _) dX14_next_378 (fun H locs hG hS => ?_)
                              have hM := MD.puti (k := 50) (v := x217) hM (mfs_s50 _ _ _)
                              have hF := hF.wo (e' := .inr (15, (mfs Ar I215).set 50 (.int x217)))
                              obtain ⟨I218, eI218⟩ : ∃ g, g = upd I215 50 x217 := ⟨_, rfl⟩
                              rw [← eI218] at hM
                              have hgn := gn_MD hG hM hF
                              clear hG hM hF
                              obtain ⟨G219, hG, hM, hF⟩ := hgn
                              have hi9 : i9 ≤ p9 := hPA.2.2.1
                              have hp9 : p9 ≤ en := hPA.2.1
                              have hch := (hLs.2.2.2.2.2.2.2 p9 hcs)
                              have hle : isLe (ft p9) = false := by rw [← chr_le hch, ← er187]; exact b2i_f (by rw [← er191]; exact c_107)
                              have hdi : isDi (ft p9) = false := by rw [← chr_di hch, ← er187]; exact b2i_f (by rw [← er193]; exact c_230)
                              have hnb : isBl (ft p9) = false := bl_no (fun z => c_6 (er143.trans ((chr_eq hch (by decide) (by decide)).mpr z))) (fun z => c_15 (er156.trans ((chr_eq hch (by decide) (by decide)).mpr z))) (fun z => c_24 (er169.trans ((chr_eq hch (by decide) (by decide)).mpr z))) (fun z => c_33 (er182.trans ((chr_eq hch (by decide) (by decide)).mpr z)))
                              have hsk : sgK (ft p9) = some 8 := by rw [sgK, if_neg (fun z => c_324 (er187.trans ((chr_eq hch (by decide) (by decide)).mpr z))), if_neg (fun z => c_330 (er187.trans ((chr_eq hch (by decide) (by decide)).mpr z))), if_neg (fun z => c_336 (er187.trans ((chr_eq hch (by decide) (by decide)).mpr z))), if_neg (fun z => c_342 (er187.trans ((chr_eq hch (by decide) (by decide)).mpr z))), if_pos ((chr_eq hch (by decide) (by decide)).mp (er187.symm.trans c_348))]
                              obtain ⟨t2, t3, t4⟩ := hPA.sig (by omega) hnb hle hdi hsk
                              have hJX : IX I218 = IX Iv := (by rw [eI218, IX_up (by decide), eI215, IX_up (by decide), eI189, IX_up (by decide), eI185, IX_up (by decide)]; exact hIX)
                              exact W.vret hx hb hr (fun t ht hW => ⟨⟨_, rfl, ⟨_, _, hM, hF, ⟨hLs.mx hJX rfl, ⟨hPA.lt, (by omega)⟩, (by rw [eI218, eI215, eI189, eI185]; rw [t2]; exact Or.inr (Or.inr (Or.inr (Or.inr (Or.inl ⟨by decide, by decide, rfl, er187.trans ((chr_eq hch (by decide) (by decide)).mpr (sgK_ok hsk).2.2)⟩))))), ⟨p9, (by omega), t3, (by rw [eI218, eI215, eI189, eI185]; show x184 = _; rw [ex184]; exact h51)⟩, (by rw [if_pos hfa]; rw [eI218, eI215, eI189, eI185]; exact h55), (by rw [ntL_ne (by rw [t2]; decide)]; exact hNT), (fun _ _ => ⟨p9 + 1, t4, (by rw [eI218, eI215, eI189, eI185]; show x217 = _; rw [ex217, h50, nI_1]; congr 1), (by rw [eI218, eI215, eI189, eI185]; rw [lnc, if_neg (fun z => by rw [z] at hnb; exact absurd hnb (by decide))]; exact h51)⟩)⟩, hJX, rfl⟩, mk_end hG ht⟩, hS.F ht⟩) hS.2.2 dX14_next_381
                            · skip
                              refine lv_iload_n hx hb dX14_next_351 rfl (lv_at hl 0 rfl) ?_
                              refine lv_bipush (v := 47) hx hb dX14_next_352 (by decide) ?_
                              refine lv_icmp_eq (tgt := 363) hx hb dX14_next_354 (by decide) (fun c_354 => ?_) (fun c_354 => ?_)
                              · skip
                                refine lv_iconst (v := 4) hx hb dX14_next_363 (by decide) ?_
                                refine lv_goto (tgt := 368) hx hb dX14_next_364 (by decide) ?_
                                refine mm_put (v := .int 4) (ty := .int) hx hb hf_X14 (fun _ h9 => h9) tyX14 tyX14_ok nmX14 hown hK hG hS hM.1 rfl 52 (by decide) (tb_use hT tw_1443) (fun _ h9 => h9) rfl (by decide +kernel) rfl rfl (mfs_l52 _ _) dX14_next_368 (fun H locs hG hS => ?_)
                                have hM := MD.puti (k := 52) (v := 4) hM (mfs_s52 _ _ _)
                                have hF := hF.wo (e' := .inr (15, (mfs Ar I189).set 52 (.int 4)))
                                obtain ⟨I220, eI220⟩ : ∃ g, g = upd I189 52 4 := ⟨_, rfl⟩
                                rw [← eI220] at hM
                                have hgn := gn_MD hG hM hF
                                clear hG hM hF
                                obtain ⟨G221, hG, hM, hF⟩ := hgn
                                refine lv_aload_n hx hb dX14_next_371 rfl (lv_at hl 2 rfl) ?_
                                refine lv_dup hx hb dX14_next_372 rfl ?_
                                refine mm_get (v := .int (Ij 50)) hx hb hf_X14 (fun _ h9 => h9) hown hK hG hM.1 rfl 50 (by decide) (tb_use hT tw_1441) (fun _ h9 => h9) (by rw [mfs_g50, eI220, eI189, eI185] <;> rfl) dX14_next_373 ?_
                                refine lv_iconst (v := 1) hx hb dX14_next_376 (by decide) ?_
                                refine lv_iadd hx hb dX14_next_377 ?_
                                refine lv_topi (fun x222 ex222 => ?_)
                                refine mm_put (v := .int x222) (ty := .int) hx hb hf_X14 (fun _ h9 => h9) tyX14 tyX14_ok nmX14 hown hK hG hS hM.1 rfl 50 (by decide) (tb_use hT tw_1441) (fun _ h9 => h9) rfl (by decide +kernel) rfl rfl (mfs_l50 _ _) dX14_next_378 (fun H locs hG hS => ?_)
                                have hM := MD.puti (k := 50) (v := x222) hM (mfs_s50 _ _ _)
                                have hF := hF.wo (e' := .inr (15, (mfs Ar I220).set 50 (.int x222)))
                                obtain ⟨I223, eI223⟩ : ∃ g, g = upd I220 50 x222 := ⟨_, rfl⟩
                                rw [← eI223] at hM
                                have hgn := gn_MD hG hM hF
                                clear hG hM hF
                                obtain ⟨G224, hG, hM, hF⟩ := hgn
                                have hi9 : i9 ≤ p9 := hPA.2.2.1
                                have hp9 : p9 ≤ en := hPA.2.1
                                have hch := (hLs.2.2.2.2.2.2.2 p9 hcs)
                                have hle : isLe (ft p9) = false := by rw [← chr_le hch, ← er187]; exact b2i_f (by rw [← er191]; exact c_107)
                                have hdi : isDi (ft p9) = false := by rw [← chr_di hch, ← er187]; exact b2i_f (by rw [← er193]; exact c_230)
                                have hnb : isBl (ft p9) = false := bl_no (fun z => c_6 (er143.trans ((chr_eq hch (by decide) (by decide)).mpr z))) (fun z => c_15 (er156.trans ((chr_eq hch (by decide) (by decide)).mpr z))) (fun z => c_24 (er169.trans ((chr_eq hch (by decide) (by decide)).mpr z))) (fun z => c_33 (er182.trans ((chr_eq hch (by decide) (by decide)).mpr z)))
                                have hsk : sgK (ft p9) = some 9 := by rw [sgK, if_neg (fun z => c_324 (er187.trans ((chr_eq hch (by decide) (by decide)).mpr z))), if_neg (fun z => c_330 (er187.trans ((chr_eq hch (by decide) (by decide)).mpr z))), if_neg (fun z => c_336 (er187.trans ((chr_eq hch (by decide) (by decide)).mpr z))), if_neg (fun z => c_342 (er187.trans ((chr_eq hch (by decide) (by decide)).mpr z))), if_neg (fun z => c_348 (er187.trans ((chr_eq hch (by decide) (by decide)).mpr z))), if_pos ((chr_eq hch (by decide) (by decide)).mp (er187.symm.trans c_354))]
                                obtain ⟨t2, t3, t4⟩ := hPA.sig (by omega) hnb hle hdi hsk
                                have hJX : IX I223 = IX Iv := (by rw [eI223, IX_up (by decide), eI220, IX_up (by decide), eI189, IX_up (by decide), eI185, IX_up (by decide)]; exact hIX)
                                exact W.vret hx hb hr (fun t ht hW => ⟨⟨_, rfl, ⟨_, _, hM, hF, ⟨hLs.mx hJX rfl, ⟨hPA.lt, (by omega)⟩, (by rw [eI223, eI220, eI189, eI185]; rw [t2]; exact Or.inr (Or.inr (Or.inr (Or.inr (Or.inl ⟨by decide, by decide, rfl, er187.trans ((chr_eq hch (by decide) (by decide)).mpr (sgK_ok hsk).2.2)⟩))))), ⟨p9, (by omega), t3, (by rw [eI223, eI220, eI189, eI185]; show x184 = _; rw [ex184]; exact h51)⟩, (by rw [if_pos hfa]; rw [eI223, eI220, eI189, eI185]; exact h55), (by rw [ntL_ne (by rw [t2]; decide)]; exact hNT), (fun _ _ => ⟨p9 + 1, t4, (by rw [eI223, eI220, eI189, eI185]; show x222 = _; rw [ex222, h50, nI_1]; congr 1), (by rw [eI223, eI220, eI189, eI185]; rw [lnc, if_neg (fun z => by rw [z] at hnb; exact absurd hnb (by decide))]; exact h51)⟩)⟩, hJX, rfl⟩, mk_end hG ht⟩, hS.F ht⟩) hS.2.2 dX14_next_381
                              · skip
                                refine lv_iload_n hx hb dX14_next_357 rfl (lv_at hl 0 rfl) ?_
                                refine lv_bipush (v := 45) hx hb dX14_next_358 (by decide) ?_
                                refine lv_icmp_ne (tgt := 367) hx hb dX14_next_360 (by decide) (fun c_360 => ?_) (fun c_360 => ?_)
                                · skip
                                  refine lv_iconst (v := 5) hx hb dX14_next_367 (by decide) ?_
                                  refine mm_put (v := .int 5) (ty := .int) hx hb hf_X14 (fun _ h9 => h9) tyX14 tyX14_ok nmX14 hown hK hG hS hM.1 rfl 52 (by decide) (tb_use hT tw_1443) (fun _ h9 => h9) rfl (by decide +kernel) rfl rfl (mfs_l52 _ _) dX14_next_368 (fun H locs hG hS => ?_)
                                  have hM := MD.puti (k := 52) (v := 5) hM (mfs_s52 _ _ _)
                                  have hF := hF.wo (e' := .inr (15, (mfs Ar I189).set 52 (.int 5)))
                                  obtain ⟨I225, eI225⟩ : ∃ g, g = upd I189 52 5 := ⟨_, rfl⟩
                                  rw [← eI225] at hM
                                  have hgn := gn_MD hG hM hF
                                  clear hG hM hF
                                  obtain ⟨G226, hG, hM, hF⟩ := hgn
                                  refine lv_aload_n hx hb dX14_next_371 rfl (lv_at hl 2 rfl) ?_
                                  refine lv_dup hx hb dX14_next_372 rfl ?_
                                  refine mm_get (v := .int (Ij 50)) hx hb hf_X14 (fun _ h9 => h9) hown hK hG hM.1 rfl 50 (by decide) (tb_use hT tw_1441) (fun _ h9 => h9) (by rw [mfs_g50, eI225, eI189, eI185] <;> rfl) dX14_next_373 ?_
                                  refine lv_iconst (v := 1) hx hb dX14_next_376 (by decide) ?_
                                  refine lv_iadd hx hb dX14_next_377 ?_
                                  refine lv_topi (fun x227 ex227 => ?_)
                                  refine mm_put (v := .int x227) (ty := .int) hx hb hf_X14 (fun _ h9 => h9) tyX14 tyX14_ok nmX14 hown hK hG hS hM.1 rfl 50 (by decide) (tb_use hT tw_1441) (fun _ h9 => h9) rfl (by decide +kernel) rfl rfl (mfs_l50 _ _) dX14_next_378 (fun H locs hG hS => ?_)
                                  have hM := MD.puti (k := 50) (v := x227) hM (mfs_s50 _ _ _)
                                  have hF := hF.wo (e' := .inr (15, (mfs Ar I225).set 50 (.int x227)))
                                  obtain ⟨I228, eI228⟩ : ∃ g, g = upd I225 50 x227 := ⟨_, rfl⟩
                                  rw [← eI228] at hM
                                  have hgn := gn_MD hG hM hF
                                  clear hG hM hF
                                  obtain ⟨G229, hG, hM, hF⟩ := hgn
                                  have hi9 : i9 ≤ p9 := hPA.2.2.1
                                  have hp9 : p9 ≤ en := hPA.2.1
                                  have hch := (hLs.2.2.2.2.2.2.2 p9 hcs)
                                  have hle : isLe (ft p9) = false := by rw [← chr_le hch, ← er187]; exact b2i_f (by rw [← er191]; exact c_107)
                                  have hdi : isDi (ft p9) = false := by rw [← chr_di hch, ← er187]; exact b2i_f (by rw [← er193]; exact c_230)
                                  have hnb : isBl (ft p9) = false := bl_no (fun z => c_6 (er143.trans ((chr_eq hch (by decide) (by decide)).mpr z))) (fun z => c_15 (er156.trans ((chr_eq hch (by decide) (by decide)).mpr z))) (fun z => c_24 (er169.trans ((chr_eq hch (by decide) (by decide)).mpr z))) (fun z => c_33 (er182.trans ((chr_eq hch (by decide) (by decide)).mpr z)))
                                  have hsk : sgK (ft p9) = none := by rw [sgK, if_neg (fun z => c_324 (er187.trans ((chr_eq hch (by decide) (by decide)).mpr z))), if_neg (fun z => c_330 (er187.trans ((chr_eq hch (by decide) (by decide)).mpr z))), if_neg (fun z => c_336 (er187.trans ((chr_eq hch (by decide) (by decide)).mpr z))), if_neg (fun z => c_342 (er187.trans ((chr_eq hch (by decide) (by decide)).mpr z))), if_neg (fun z => c_348 (er187.trans ((chr_eq hch (by decide) (by decide)).mpr z))), if_neg (fun z => c_354 (er187.trans ((chr_eq hch (by decide) (by decide)).mpr z))), if_neg (fun z => c_360 (er187.trans ((chr_eq hch (by decide) (by decide)).mpr z)))]
                                  obtain ⟨t2, t3⟩ := hPA.sib (by omega) hnb hle hdi hsk
                                  have hJX : IX I228 = IX Iv := (by rw [eI228, IX_up (by decide), eI225, IX_up (by decide), eI189, IX_up (by decide), eI185, IX_up (by decide)]; exact hIX)
                                  exact W.vret hx hb hr (fun t ht hW => ⟨⟨_, rfl, ⟨_, _, hM, hF, ⟨hLs.mx hJX rfl, ⟨hPA.lt, (by omega)⟩, (by rw [eI228, eI225, eI189, eI185]; rw [t2]; exact Or.inr (Or.inr (Or.inr (Or.inl ⟨rfl, rfl⟩)))), ⟨p9, (by omega), t3, (by rw [eI228, eI225, eI189, eI185]; show x184 = _; rw [ex184]; exact h51)⟩, (by rw [if_pos hfa]; rw [eI228, eI225, eI189, eI185]; exact h55), (by rw [ntL_ne (by rw [t2]; decide)]; exact hNT), (fun _ z => absurd t2 z)⟩, hJX, rfl⟩, mk_end hG ht⟩, hS.F ht⟩) hS.2.2 dX14_next_381
                                · skip
                                  refine lv_iconst (v := 4) hx hb dX14_next_363 (by decide) ?_
                                  refine lv_goto (tgt := 368) hx hb dX14_next_364 (by decide) ?_
                                  refine mm_put (v := .int 4) (ty := .int) hx hb hf_X14 (fun _ h9 => h9) tyX14 tyX14_ok nmX14 hown hK hG hS hM.1 rfl 52 (by decide) (tb_use hT tw_1443) (fun _ h9 => h9) rfl (by decide +kernel) rfl rfl (mfs_l52 _ _) dX14_next_368 (fun H locs hG hS => ?_)
                                  have hM := MD.puti (k := 52) (v := 4) hM (mfs_s52 _ _ _)
                                  have hF := hF.wo (e' := .inr (15, (mfs Ar I189).set 52 (.int 4)))
                                  obtain ⟨I230, eI230⟩ : ∃ g, g = upd I189 52 4 := ⟨_, rfl⟩
                                  rw [← eI230] at hM
                                  have hgn := gn_MD hG hM hF
                                  clear hG hM hF
                                  obtain ⟨G231, hG, hM, hF⟩ := hgn
                                  refine lv_aload_n hx hb dX14_next_371 rfl (lv_at hl 2 rfl) ?_
                                  refine lv_dup hx hb dX14_next_372 rfl ?_
                                  refine mm_get (v := .int (Ij 50)) hx hb hf_X14 (fun _ h9 => h9) hown hK hG hM.1 rfl 50 (by decide) (tb_use hT tw_1441) (fun _ h9 => h9) (by rw [mfs_g50, eI230, eI189, eI185] <;> rfl) dX14_next_373 ?_
                                  refine lv_iconst (v := 1) hx hb dX14_next_376 (by decide) ?_
                                  refine lv_iadd hx hb dX14_next_377 ?_
                                  refine lv_topi (fun x232 ex232 => ?_)
                                  refine mm_put (v := .int x232) (ty := .int) hx hb hf_X14 (fun _ h9 => h9) tyX14 tyX14_ok nmX14 hown hK hG hS hM.1 rfl 50 (by decide) (tb_use hT tw_1441) (fun _ h9 => h9) rfl (by decide +kernel) rfl rfl (mfs_l50 _ _) dX14_next_378 (fun H locs hG hS => ?_)
                                  have hM := MD.puti (k := 50) (v := x232) hM (mfs_s50 _ _ _)
                                  have hF := hF.wo (e' := .inr (15, (mfs Ar I230).set 50 (.int x232)))
                                  obtain ⟨I233, eI233⟩ : ∃ g, g = upd I230 50 x232 := ⟨_, rfl⟩
                                  rw [← eI233] at hM
                                  have hgn := gn_MD hG hM hF
                                  clear hG hM hF
                                  obtain ⟨G234, hG, hM, hF⟩ := hgn
                                  have hi9 : i9 ≤ p9 := hPA.2.2.1
                                  have hp9 : p9 ≤ en := hPA.2.1
                                  have hch := (hLs.2.2.2.2.2.2.2 p9 hcs)
                                  have hle : isLe (ft p9) = false := by rw [← chr_le hch, ← er187]; exact b2i_f (by rw [← er191]; exact c_107)
                                  have hdi : isDi (ft p9) = false := by rw [← chr_di hch, ← er187]; exact b2i_f (by rw [← er193]; exact c_230)
                                  have hnb : isBl (ft p9) = false := bl_no (fun z => c_6 (er143.trans ((chr_eq hch (by decide) (by decide)).mpr z))) (fun z => c_15 (er156.trans ((chr_eq hch (by decide) (by decide)).mpr z))) (fun z => c_24 (er169.trans ((chr_eq hch (by decide) (by decide)).mpr z))) (fun z => c_33 (er182.trans ((chr_eq hch (by decide) (by decide)).mpr z)))
                                  have hsk : sgK (ft p9) = some 10 := by rw [sgK, if_neg (fun z => c_324 (er187.trans ((chr_eq hch (by decide) (by decide)).mpr z))), if_neg (fun z => c_330 (er187.trans ((chr_eq hch (by decide) (by decide)).mpr z))), if_neg (fun z => c_336 (er187.trans ((chr_eq hch (by decide) (by decide)).mpr z))), if_neg (fun z => c_342 (er187.trans ((chr_eq hch (by decide) (by decide)).mpr z))), if_neg (fun z => c_348 (er187.trans ((chr_eq hch (by decide) (by decide)).mpr z))), if_neg (fun z => c_354 (er187.trans ((chr_eq hch (by decide) (by decide)).mpr z))), if_pos ((chr_eq hch (by decide) (by decide)).mp (er187.symm.trans c_360))]
                                  obtain ⟨t2, t3, t4⟩ := hPA.sig (by omega) hnb hle hdi hsk
                                  have hJX : IX I233 = IX Iv := (by rw [eI233, IX_up (by decide), eI230, IX_up (by decide), eI189, IX_up (by decide), eI185, IX_up (by decide)]; exact hIX)
                                  exact W.vret hx hb hr (fun t ht hW => ⟨⟨_, rfl, ⟨_, _, hM, hF, ⟨hLs.mx hJX rfl, ⟨hPA.lt, (by omega)⟩, (by rw [eI233, eI230, eI189, eI185]; rw [t2]; exact Or.inr (Or.inr (Or.inr (Or.inr (Or.inl ⟨by decide, by decide, rfl, er187.trans ((chr_eq hch (by decide) (by decide)).mpr (sgK_ok hsk).2.2)⟩))))), ⟨p9, (by omega), t3, (by rw [eI233, eI230, eI189, eI185]; show x184 = _; rw [ex184]; exact h51)⟩, (by rw [if_pos hfa]; rw [eI233, eI230, eI189, eI185]; exact h55), (by rw [ntL_ne (by rw [t2]; decide)]; exact hNT), (fun _ _ => ⟨p9 + 1, t4, (by rw [eI233, eI230, eI189, eI185]; show x232 = _; rw [ex232, h50, nI_1]; congr 1), (by rw [eI233, eI230, eI189, eI185]; rw [lnc, if_neg (fun z => by rw [z] at hnb; exact absurd hnb (by decide))]; exact h51)⟩)⟩, hJX, rfl⟩, mk_end hG ht⟩, hS.F ht⟩) hS.2.2 dX14_next_381
                  · skip
                    refine lv_iconst (v := 0) hx hb dX14_next_233 (by decide) ?_
                    refine lv_istore_n (lv' := [(3, .int 0), (2, .int r187), (1, .int (nI (fr + p9))), (0, .ref o)]) hx hb dX14_next_234 rfl hl (by decide) rfl (fun ls hl => ?_)
                    have hle : isLe (ft p9) = false := by rw [← chr_le (hLs.2.2.2.2.2.2.2 p9 hcs), ← er187]; exact b2i_f (by rw [← er191]; exact c_107)
                    have hdi : isDi (ft p9) = true := by rw [← chr_di (hLs.2.2.2.2.2.2.2 p9 hcs), ← er187]; exact b2i_t (by rw [← er193]; exact c_230)
                    exact hld 7 p9 0 0 I189 (by omega) hPA (by omega) hle hdi (by omega) (fun k hk => absurd hk (Nat.not_lt_zero k)) rfl (by rw [eI189, eI185]; show x184 = _; rw [ex184]; exact h51) (by rw [eI189, eI185]; exact h50) (by rw [eI189, eI185]; exact h51) (by rw [eI189, IX_up (by decide), eI185, IX_up (by decide)]; exact hIX) (by rw [eI189, eI185]; exact h55) G190 hM hF _ _ hG hS ls (lv_sub hl [3, 2, 0] rfl)
                · skip
                  have hle : isLe (ft p9) = true := by rw [← chr_le (hLs.2.2.2.2.2.2.2 p9 hcs), ← er187]; exact b2i_t (by rw [← er191]; exact c_107)
                  exact hla (en - p9) p9 0 I189 (by omega) hPA (by omega) hle (fun k hk => absurd hk (Nat.not_lt_zero k)) (by rw [eI189, eI185]; show x184 = _; rw [ex184]; exact h51) (by rw [eI189, eI185]; exact h50) (by rw [eI189, eI185]; exact h51) (by rw [eI189, IX_up (by decide), eI185, IX_up (by decide)]; exact hIX) (by rw [eI189, eI185]; exact h55) G190 hM hF _ _ hG hS ls (lv_sub hl [2, 1] rfl)
              · skip
                exact absurd (Int32.not_lt.mp (by rw [er187]; exact chr_ne (hLs.2.2.2.2.2.2.2 p9 hcs))) c_92
            · skip
              refine lv_aload_n hx hb dX14_next_36 rfl (lv_at hl 0 rfl) ?_
              refine va_calli (va_runV (As := []) (rest := []) ⟨hx, hb, hml, hown, (fun _ h9 => absurd h9 List.not_mem_nil : ∀ w ∈ ([] : List Cond), w.before _ s = true)⟩ (c_M_here l D cy A X hst hXT Gv o Ar Ij F L (mdN sx) (F sx) hM (hLs.src hM) hs31 (hLjIj.hlo (p := p9) hpl (by exact h50)) hLjIj.hhi) (tb_cw (C := RX14) 0 hT tw_1644 tw_109 tw_1641 tw_1643 tw_63 rfl rfl hq_X14_here ⟨Nat.le_of_ble_eq_true rfl, Nat.le_of_ble_eq_true rfl⟩) (mk_preC hst hG hK hA hX hS vc_15 hM.1) rfl rfl hl.1 rfl (lv_room (Nat.le_of_ble_eq_true rfl)) dX14_next_37 ⟨Nat.le_of_ble_eq_true rfl, Nat.le_of_ble_eq_true rfl⟩) hS (fun q _ h => h) (fun q h => h) (fun r235 G236 t H locs ht hvm hw hB hz1 hk1 hS => ?_)
              have hG : mm D vwCl A G236 H := by rw [← ht]; exact hB
              clear hB hz1 hk1 hvm ht
              obtain ⟨er235, hw⟩ := hw
              rw [hw] at hG
              rw [hLjIj.hr (p := p9) hpl (by exact h50)] at er235
              rw [if_pos hcs] at er235
              refine lv_bipush (v := 10) hx hb dX14_next_40 (by decide) ?_
              refine lv_icmp_ne (tgt := 55) hx hb dX14_next_42 (by decide) (fun c_42 => ?_) (fun c_42 => ?_)
              · skip
                refine lv_aload_n hx hb dX14_next_55 rfl (lv_at hl 0 rfl) ?_
                refine lv_dup hx hb dX14_next_56 rfl ?_
                refine mm_get (v := .int (Ij 50)) hx hb hf_X14 (fun _ h9 => h9) hown hK hG hM.1 rfl 50 (by decide) (tb_use hT tw_1441) (fun _ h9 => h9) (mfs_g50 _ _) dX14_next_57 ?_
                refine lv_iconst (v := 1) hx hb dX14_next_60 (by decide) ?_
                refine lv_iadd hx hb dX14_next_61 ?_
                refine lv_topi (fun x237 ex237 => ?_)
                refine mm_put (v := .int x237) (ty := .int) hx hb hf_X14 (fun _ h9 => h9) tyX14 tyX14_ok nmX14 hown hK hG hS hM.1 rfl 50 (by decide) (tb_use hT tw_1441) (fun _ h9 => h9) rfl (by decide +kernel) rfl rfl (mfs_l50 _ _) dX14_next_62 (fun H locs hG hS => ?_)
                have hM := MD.puti (k := 50) (v := x237) hM (mfs_s50 _ _ _)
                have hF := hF.wo (e' := .inr (15, (mfs Ar Ij).set 50 (.int x237)))
                obtain ⟨I238, eI238⟩ : ∃ g, g = upd Ij 50 x237 := ⟨_, rfl⟩
                rw [← eI238] at hM
                have hgn := gn_MD hG hM hF
                clear hG hM hF
                obtain ⟨G239, hG, hM, hF⟩ := hgn
                refine lv_goto (tgt := 0) hx hb dX14_next_65 (by decide) ?_
                have hch := (hLs.2.2.2.2.2.2.2 p9 hcs)
                have hbl := bl_of (Or.inr (Or.inr (Or.inr ((chr_eq hch (by decide) (by decide)).mp (er182.symm.trans c_33)))))
                have hln : I238 51 = lnc ft (p9 + 1) := by rw [eI238]; rw [lnc, if_neg (fun z => c_42 (er235.trans ((chr_eq hch (by decide) (by decide)).mpr z)))]; exact h51
                have hat : I238 50 = nI (fr + (p9 + 1)) := by rw [eI238]; show x237 = _; rw [ex237, h50, nI_1]; congr 1
                exact ih (p9 + 1) I238 (by omega) (hPA.blank (by omega) hbl) hat hln (by rw [eI238, IX_up (by decide)]; exact hIX) (by rw [eI238]; exact h55) G239 hM hF _ _ hG hS ls (lv_sub hl [0] rfl)
              · skip
                refine lv_aload_n hx hb dX14_next_45 rfl (lv_at hl 0 rfl) ?_
                refine lv_dup hx hb dX14_next_46 rfl ?_
                refine mm_get (v := .int (Ij 51)) hx hb hf_X14 (fun _ h9 => h9) hown hK hG hM.1 rfl 51 (by decide) (tb_use hT tw_1442) (fun _ h9 => h9) (mfs_g51 _ _) dX14_next_47 ?_
                refine lv_iconst (v := 1) hx hb dX14_next_50 (by decide) ?_
                refine lv_iadd hx hb dX14_next_51 ?_
                refine lv_topi (fun x240 ex240 => ?_)
                refine mm_put (v := .int x240) (ty := .int) hx hb hf_X14 (fun _ h9 => h9) tyX14 tyX14_ok nmX14 hown hK hG hS hM.1 rfl 51 (by decide) (tb_use hT tw_1442) (fun _ h9 => h9) rfl (by decide +kernel) rfl rfl (mfs_l51 _ _) dX14_next_52 (fun H locs hG hS => ?_)
                have hM := MD.puti (k := 51) (v := x240) hM (mfs_s51 _ _ _)
                have hF := hF.wo (e' := .inr (15, (mfs Ar Ij).set 51 (.int x240)))
                obtain ⟨I241, eI241⟩ : ∃ g, g = upd Ij 51 x240 := ⟨_, rfl⟩
                rw [← eI241] at hM
                have hgn := gn_MD hG hM hF
                clear hG hM hF
                obtain ⟨G242, hG, hM, hF⟩ := hgn
                refine lv_aload_n hx hb dX14_next_55 rfl (lv_at hl 0 rfl) ?_
                refine lv_dup hx hb dX14_next_56 rfl ?_
                refine mm_get (v := .int (Ij 50)) hx hb hf_X14 (fun _ h9 => h9) hown hK hG hM.1 rfl 50 (by decide) (tb_use hT tw_1441) (fun _ h9 => h9) (by rw [mfs_g50, eI241] <;> rfl) dX14_next_57 ?_
                refine lv_iconst (v := 1) hx hb dX14_next_60 (by decide) ?_
                refine lv_iadd hx hb dX14_next_61 ?_
                refine lv_topi (fun x243 ex243 => ?_)
                refine mm_put (v := .int x243) (ty := .int) hx hb hf_X14 (fun _ h9 => h9) tyX14 tyX14_ok nmX14 hown hK hG hS hM.1 rfl 50 (by decide) (tb_use hT tw_1441) (fun _ h9 => h9) rfl (by decide +kernel) rfl rfl (mfs_l50 _ _) dX14_next_62 (fun H locs hG hS => ?_)
                have hM := MD.puti (k := 50) (v := x243) hM (mfs_s50 _ _ _)
                have hF := hF.wo (e' := .inr (15, (mfs Ar I241).set 50 (.int x243)))
                obtain ⟨I244, eI244⟩ : ∃ g, g = upd I241 50 x243 := ⟨_, rfl⟩
                rw [← eI244] at hM
                have hgn := gn_MD hG hM hF
                clear hG hM hF
                obtain ⟨G245, hG, hM, hF⟩ := hgn
                refine lv_goto (tgt := 0) hx hb dX14_next_65 (by decide) ?_
                have hch := (hLs.2.2.2.2.2.2.2 p9 hcs)
                have hbl := bl_of (Or.inr (Or.inr (Or.inr ((chr_eq hch (by decide) (by decide)).mp (er182.symm.trans c_33)))))
                have hln : I244 51 = lnc ft (p9 + 1) := by rw [eI244, eI241]; rw [lnc, if_pos ((chr_eq hch (by decide) (by decide)).mp (er235.symm.trans c_42)), ← h51]; exact ex240
                have hat : I244 50 = nI (fr + (p9 + 1)) := by rw [eI244, eI241]; show x243 = _; rw [ex243, h50, nI_1]; congr 1
                exact ih (p9 + 1) I244 (by omega) (hPA.blank (by omega) hbl) hat hln (by rw [eI244, IX_up (by decide), eI241, IX_up (by decide)]; exact hIX) (by rw [eI244, eI241]; exact h55) G245 hM hF _ _ hG hS ls (lv_sub hl [0] rfl)
  exact hlb (en - p0) p0 Iv (by omega) hPA0 h500 h510 rfl hg G hM hF _ _ hG hS ls (lv_sub hl [0] rfl)
