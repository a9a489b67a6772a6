/-- a turn at a CLOSE takes no step -/
def agN (v : EdV) (c p : Nat) : Nat := if p < v.nO c ∧ (v.O c p).1 = 5 then 1 else 0
theorem agN_le {v : EdV} {c p : Nat} : agN v c p ≤ 1 := by unfold agN; split <;> decide
theorem VLD.ge {v : EdV} (h : VLD v) {j i : Nat} (h80 : v.nO j ≤ 80) (hj : j < v.nJ) (hi : i < v.nO j) (hk : (v.O j i).1 = 26) : ∃ s p, svN v (v.O j i).2.2.1 = some s ∧ paN v s (v.O j i).2.2.2.2.1 = some p := by
  have h1 := h 13 (100 * j + i) 0 _ ⟨j, hj, i, hi, rfl, rfl, hk, rfl⟩
  have h2 := h 14 (100 * j + i) 0 _ ⟨j, hj, i, hi, rfl, rfl, hk, rfl⟩
  rw [w_13 (by omega)] at h1
  rw [w_14 (by omega)] at h2
  unfold opP opS at h2
  rw [if_pos hk] at h2
  cases hs : svN v (v.O j i).2.2.1 with
  | none => rw [hs] at h1; cases h1
  | some s =>
    rw [hs] at h2
    dsimp only at h2
    cases hp : paN v s (v.O j i).2.2.2.2.1 with
    | none => rw [hp] at h2; cases h2
    | some p => exact ⟨s, p, rfl, hp⟩
theorem kd11 {k : Nat} (h : (25 ≤ k ∧ k < 35) ∨ k = 5) : k = 25 ∨ k = 26 ∨ k = 27 ∨ k = 28 ∨ k = 29 ∨ k = 30 ∨ k = 31 ∨ k = 32 ∨ k = 33 ∨ k = 34 ∨ k = 5 := by omega
theorem i64_dec {n : Nat} (h : n < 2 ^ 40) : Int64.ofNat (n + 1) - 1 = Int64.ofNat n := by
  apply Int64.toInt_inj.mp
  have e1 := i64_on (n := n + 1) (by omega)
  have e2 := i64_on (n := n) (by omega)
  have e3 : (1 : Int64).toInt = 1 := by decide
  rw [i64_sub (by rw [e1, e3]; omega) (by rw [e1, e3]; omega), e1, e2, e3]
  omega
set_option maxHeartbeats 4000000 in
set_option maxRecDepth 100000 in
theorem c_M_job (l : Launch) (D : va_G) (cy : Nat → ClassId) (A : Nat → Prop) (X : State → Prop) (hst : mk_St A X) (hXT : ∀ U : State, X U → TB U) (G : Nat → Option va_E) (o : Nat) (Ar : Nat → Nat) (Iv : Nat → Int32) (F : Nat → Nat → Int32) (L : Nat → Nat → Int64) (ft : Nat → Int32) (en b9 n9 : Nat) (v9 : EdV) (nm : Int64 → Int32) (ln sl9 : Nat) (f9 : Nat → Int32) (P0 : Nat → PdT) (iv : Int32) (xs : Int64) (hM : MD cy G o Ar Iv F L) (hB : BK (tkK ft en) (tkV ft en) n9 F b9 v9) (hLS : LSv v9) (hVL : VLD v9) (hn30 : n9 < 2 ^ 30) (hb9 : b9 < 2) (hbk : Iv 42 = nI b9) (h43 : ¬ Iv 43 = 0) (hnm : ∀ r x, NMt (tkK ft en) (tkV ft en) n9 r x → r = nm x) (hWd : WDv v9) (hCB : CBv v9) (hJT : JTv v9) (h66 : Iv 66 = nI ln) (hln : ln ≤ 64) (h68 : Iv 68 = nI sl9) (hsl : sl9 ≤ 64) (hoc : ∀ i, i < ln → F 65 i = oc_at (nI ln) f9 (nI i) ∧ 0 ≤ (F 65 i).toInt ∧ (F 65 i).toInt < 256) : Met l yX14_job [.code yX14_job cX14_job 17 (some .int)] ({ frames := 4, cells := 0, slots := 0, locals := 180 }) (mk_Pre D vwCl (tyL cy) A X G [.ref o, .int iv, .long xs]) (va_Qi (fun (r : Int32) (G2 : Nat → Option va_E) => ∃ (I2 : Nat → Int32) (F2 : Nat → Nat → Int32) (L2 : Nat → Nat → Int64), MD cy G2 o Ar I2 F2 L2 ∧ MF G G2 o Ar ∧ (∀ j, ¬ j = 38 → ¬ j = 68 → I2 j = Iv j) ∧ I2 38 = 0 ∧ (∃ k, k ≤ 64 ∧ I2 68 = nI k) ∧ (∀ j, ¬ (j = 67 ∨ (71 ≤ j ∧ j ≤ 73)) → F2 j = F j) ∧ (∀ j, ¬ (j = 74 ∨ j = 75) → L2 j = L j)) (mk_B D vwCl A) A) 0 0 A := by
  refine Met.ofW (cc := cX14_job) (maxL := 17) (ret := (some .int)) (by decide) rfl ?_
  intro p e s m args below meth c s₁ B hml hv
  obtain ⟨rfl, hG, hK, hA, hX⟩ := hv
  have hx := B.exec
  have hb := B.bytes
  have hr := B.returns
  have hlocks := B.notSynchronized
  have hT := hXT s hX
  have hown : s.vm.findClass RX14 = some m.cls := findClass_of_methodNamed B.named
  have hf_X14 : ∀ w ∈ u_ws RX14 TX14 76, w.before ([.ref o, .int iv, .long xs] : List Value).toArray s = true := tb_list hT fX14
  have hS : va_S A s.heap s.heap [] := va_S.rf
  have hl := lv_entry ([.ref o, .int iv, .long xs]) (n := 17) (Nat.le_of_ble_eq_true rfl)
  rw [lg_entry_eq]
  generalize (lg_sl ([.ref o, .int iv, .long xs]) ++ List.replicate (17 - (lg_sl ([.ref o, .int iv, .long xs])).length) Slot.unset).toArray = ls at hl ⊢
  have hl : lv_has ls 17 [(0, .ref o), (1, .int iv), (2, .long xs)] := hl
  have hF : MF G G o Ar := MF.rf
  have hnJ4 := hB.2.2.2.2.2.2.1
  refine lv_aload_n hx hb dX14_job_0 rfl (lv_at hl 0 rfl) ?_
  refine lv_iconst (v := 0) hx hb dX14_job_1 (by decide) ?_
  refine mm_put (v := .int 0) (ty := .int) hx hb hf_X14 (fun _ h9 => h9) tyX14 tyX14_ok nmX14 hown hK hG hS hM.1 rfl 38 (by decide) (tb_use hT tw_1429) (fun _ h9 => h9) rfl (by decide +kernel) rfl rfl (Nat.le_of_ble_eq_true rfl) dX14_job_2 (fun H locs hG hS => ?_)
  have hM := MD.puti (k := 38) (v := 0) hM rfl
  have hF := hF.wo (e' := .inr (15, (mfs Ar Iv).set 38 (.int 0)))
  obtain ⟨I1, eI1⟩ : ∃ g, g = upd Iv 38 0 := ⟨_, rfl⟩
  rw [← eI1] at hM
  generalize mm_set _ _ _ = G2 at hG hM hF
  refine lv_aload_n hx hb dX14_job_5 rfl (lv_at hl 0 rfl) ?_
  refine mm_get (v := .int (Iv 43)) hx hb hf_X14 (fun _ h9 => h9) hown hK hG hM.1 rfl 43 (by decide) (tb_use hT tw_1434) (fun _ h9 => h9) (by rw [eI1]; rfl) dX14_job_6 ?_
  refine lv_if_eq (tgt := 30) hx hb dX14_job_9 (by decide) (fun c_9 => ?_) (fun c_9 => ?_)
  · skip
    refine lv_iconst (v := (-1)) hx hb dX14_job_30 (by decide) ?_
    exact W.iret (v := (-1)) hx hb hr (fun t ht hW => ⟨⟨_, _, rfl, ⟨I1, F, L, hM, hF, (fun j h1 h2 => by rw [eI1, pk_un h1]), (by rw [eI1, pk_us]), ⟨sl9, hsl, (by rw [eI1, pk_un (by decide)]; exact h68)⟩, (fun _ _ => rfl), (fun _ _ => rfl)⟩, mk_end hG ht⟩, hS.F ht⟩) hS.2.2 dX14_job_31
  · skip
    refine lv_iload_n hx hb dX14_job_12 rfl (lv_at hl 1 rfl) ?_
    refine lv_iconst (v := 1) hx hb dX14_job_13 (by decide) ?_
    refine lv_icmp_lt (tgt := 30) hx hb dX14_job_14 (by decide) (fun c_14 => ?_) (fun c_14 => ?_)
    · skip
      refine lv_iconst (v := (-1)) hx hb dX14_job_30 (by decide) ?_
      exact W.iret (v := (-1)) hx hb hr (fun t ht hW => ⟨⟨_, _, rfl, ⟨I1, F, L, hM, hF, (fun j h1 h2 => by rw [eI1, pk_un h1]), (by rw [eI1, pk_us]), ⟨sl9, hsl, (by rw [eI1, pk_un (by decide)]; exact h68)⟩, (fun _ _ => rfl), (fun _ _ => rfl)⟩, mk_end hG ht⟩, hS.F ht⟩) hS.2.2 dX14_job_31
    · skip
      refine lv_iload_n hx hb dX14_job_17 rfl (lv_at hl 1 rfl) ?_
      refine lv_aload_n hx hb dX14_job_18 rfl (lv_at hl 0 rfl) ?_
      refine mm_get (v := .ref (Ar 6)) hx hb hf_X14 (fun _ h9 => h9) hown hK hG hM.1 rfl 6 (by decide) (tb_use hT tw_1397) (fun _ h9 => h9) rfl dX14_job_19 ?_
      refine lv_aload_n hx hb dX14_job_22 rfl (lv_at hl 0 rfl) ?_
      refine mm_get (v := .int (Iv 42)) hx hb hf_X14 (fun _ h9 => h9) hown hK hG hM.1 rfl 42 (by decide) (tb_use hT tw_1433) (fun _ h9 => h9) (by rw [eI1]; rfl) dX14_job_23 ?_
      refine mm_iald (n := 2) (f := F 6) hx hb hK hG 1 (hM.2.1 6 rfl) rfl (by rw [hbk]; exact nI_in (N := 2) hb9 (by decide)) dX14_job_26 ?_
      refine lv_topi (fun x3 ex3 => ?_)
      refine lv_icmp_le (tgt := 32) hx hb dX14_job_27 (by decide) (fun c_27 => ?_) (fun c_27 => ?_)
      · skip
        refine lv_lload_n hx hb dX14_job_32 rfl (lv_at hl 2 rfl) ?_
        refine lv_lconst (v := 0) hx hb dX14_job_33 (by decide) ?_
        refine W.lcmp hx hb dX14_job_34 ?_
        refine lv_if_lt (tgt := 46) hx hb dX14_job_35 (by decide) (fun c_35 => ?_) (fun c_35 => ?_)
        · skip
          refine lv_bipush (v := (-2)) hx hb dX14_job_46 (by decide) ?_
          exact W.iret (v := (-2)) hx hb hr (fun t ht hW => ⟨⟨_, _, rfl, ⟨I1, F, L, hM, hF, (fun j h1 h2 => by rw [eI1, pk_un h1]), (by rw [eI1, pk_us]), ⟨sl9, hsl, (by rw [eI1, pk_un (by decide)]; exact h68)⟩, (fun _ _ => rfl), (fun _ _ => rfl)⟩, mk_end hG ht⟩, hS.F ht⟩) hS.2.2 dX14_job_48
        · skip
          refine lv_lload_n hx hb dX14_job_38 rfl (lv_at hl 2 rfl) ?_
          refine lv_ldc2 hx hb hown (tb_use hT tw_1870) dX14_job_39 ?_
          refine W.lcmp hx hb dX14_job_42 ?_
          refine lv_if_le (tgt := 49) hx hb dX14_job_43 (by decide) (fun c_43 => ?_) (fun c_43 => ?_)
          · skip
            obtain ⟨j9, hj9, hjv, -⟩ := ix_of (i := iv) (n := v9.nJ) (by omega) c_14 (by have z := c_27; rw [ex3, hbk, nI_clamp (by omega), hB.2.2.2.2.2.1] at z; exact z)
            obtain ⟨hnO, hJO⟩ := hJT j9 hj9
            have hjr := hB.2.2.2.2.2.2.2 j9 hj9
            refine lv_iload_n hx hb dX14_job_49 rfl (lv_at hl 1 rfl) ?_
            refine lv_iconst (v := 1) hx hb dX14_job_50 (by decide) ?_
            refine lv_isub hx hb dX14_job_51 ?_
            rw [show iv - 1 = nI j9 by rw [hjv]; exact nI_pred j9]
            refine lv_istore (lv' := [(4, .int (nI j9)), (0, .ref o), (1, .int iv), (2, .long xs)]) hx hb dX14_job_52 hl (by decide) rfl (fun ls hl => ?_)
            refine lv_aload_n hx hb dX14_job_54 rfl (lv_at hl 1 rfl) ?_
            refine lv_iconst (v := 0) hx hb dX14_job_55 (by decide) ?_
            refine mm_put (v := .int 0) (ty := .int) hx hb hf_X14 (fun _ h9 => h9) tyX14 tyX14_ok nmX14 hown hK hG hS hM.1 rfl 68 (by decide) (tb_use hT tw_1459) (fun _ h9 => h9) rfl (by decide +kernel) rfl rfl (Nat.le_of_ble_eq_true rfl) dX14_job_56 (fun H locs hG hS => ?_)
            have hM := MD.puti (k := 68) (v := 0) hM rfl
            have hF := hF.wo (e' := .inr (15, (mfs Ar I1).set 68 (.int 0)))
            obtain ⟨I6, eI6⟩ : ∃ g, g = upd I1 68 0 := ⟨_, rfl⟩
            rw [← eI6] at hM
            generalize mm_set _ _ _ = G7 at hG hM hF
            have hx0 : ∃ n : Nat, n ≤ 5000 ∧ xs = Int64.ofNat n := ⟨xs.toInt.toNat, (by have y := Int64.le_iff_toInt_le.mp ((lg_cmp_le _ _).mp c_43); rw [show (5000 : Int64).toInt = 5000 by decide] at y; omega), Int64.toInt_inj.mp (by have y := Int64.not_lt.mp (fun z => c_35 ((lg_cmp_lt _ _).mpr z)); have u := Int64.le_iff_toInt_le.mp y; rw [show (0 : Int64).toInt = 0 by decide] at u; have w := Int64.le_iff_toInt_le.mp ((lg_cmp_le _ _).mp c_43); rw [show (5000 : Int64).toInt = 5000 by decide] at w; rw [i64_on (by omega)]; omega)⟩
            obtain ⟨lf0, hlf0, hxs⟩ := hx0
            have hlj : ∀ (n : Nat) (p9 m9 lf9 sz : Nat) (Ij : Nat → Int32) (Fj : Nat → Nat → Int32) (Lj : Nat → Nat → Int64), (2 * lf9 + agN v9 j9 p9 < n) → (m9 ≤ 16) → (p9 ≤ v9.nO j9 ∧ lf9 ≤ 5000) → (∀ j, ¬ j = 38 → ¬ j = 68 → Ij j = Iv j) → (Ij 38 = 0) → (Ij 42 = nI b9) → (Ij 66 = nI ln) → (Ij 68 = nI sz) → (sz ≤ 64) → (∀ j, ¬ (j = 67 ∨ (71 ≤ j ∧ j ≤ 73)) → Fj j = F j) → (∀ j, ¬ (j = 74 ∨ j = 75) → Lj j = L j) → ∀ (Gv : Nat → Option va_E), (MD cy Gv o Ar Ij Fj Lj) → (MF G Gv o Ar) → ∀ (H : Heap) (locs : List Loc), mm D vwCl A Gv H → va_S A s.heap H locs → ∀ ls : Array Slot, lv_has ls 17 [(0, .ref o), (4, .int (nI j9)), (5, .int (nI m9)), (6, .long (Int64.ofNat lf9)), (8, .int (nI p9))] → W p l e (headSpec [.code yX14_job cX14_job 17 (some .int)] ({ frames := 4, cells := 0, slots := 0, locals := 180 })).room s m ([.ref o, .int iv, .long xs] : List Value).toArray below meth c H locs 0 0 (MQ below (va_Qi (fun (r : Int32) (G2 : Nat → Option va_E) => ∃ (I2 : Nat → Int32) (F2 : Nat → Nat → Int32) (L2 : Nat → Nat → Int64), MD cy G2 o Ar I2 F2 L2 ∧ MF G G2 o Ar ∧ (∀ j, ¬ j = 38 → ¬ j = 68 → I2 j = Iv j) ∧ I2 38 = 0 ∧ (∃ k, k ≤ 64 ∧ I2 68 = nI k) ∧ (∀ j, ¬ (j = 67 ∨ (71 ≤ j ∧ j ≤ 73)) → F2 j = F j) ∧ (∀ j, ¬ (j = 74 ∨ j = 75) → L2 j = L j)) (mk_B D vwCl A) A) ([.ref o, .int iv, .long xs] : List Value).toArray s 0 0 A) (F0 m 68 ls []) := by
              intro n
              induction n with
              | zero =>
                intro p9 m9 lf9 sz Ij Fj Lj hmu hm16b hpl hIo h38j hbj h66j h68j hsz64 hFo hLo Gv hM hF H locs hG hS ls hl
                exact absurd hmu (Nat.not_lt_zero _)
              | succ n ih =>
                intro p9 m9 lf9 sz Ij Fj Lj hmu hm16b hpl hIo h38j hbj h66j h68j hsz64 hFo hLo Gv hM hF H locs hG hS ls hl
                refine lv_iload hx hb dX14_job_68 (lv_at hl 4 rfl) ?_
                refine lv_aload_n hx hb dX14_job_70 rfl (lv_at hl 0 rfl) ?_
                refine mm_get (v := .ref (Ar 34)) hx hb hf_X14 (fun _ h9 => h9) hown hK hG hM.1 rfl 34 (by decide) (tb_use hT tw_1425) (fun _ h9 => h9) rfl dX14_job_71 ?_
                refine lv_iconst (v := 4) hx hb dX14_job_74 (by decide) ?_
                refine lv_aload_n hx hb dX14_job_75 rfl (lv_at hl 0 rfl) ?_
                refine mm_get (v := .int (Ij 42)) hx hb hf_X14 (fun _ h9 => h9) hown hK hG hM.1 rfl 42 (by decide) (tb_use hT tw_1433) (fun _ h9 => h9) rfl dX14_job_76 ?_
                rw [show (Ij 42) = nI b9 from hbj]
                refine lv_imul hx hb dX14_job_79 ?_
                refine lv_iload hx hb dX14_job_80 (lv_at hl 1 rfl) ?_
                refine lv_iadd hx hb dX14_job_82 ?_
                refine mm_iald (n := 8) (f := Fj 34) hx hb hK hG 1 (hM.2.1 34 rfl) rfl (by rw [show (4 : Int32) * nI b9 + nI j9 = nI (4 * b9 + j9) from nI_ma 4 b9 j9]; exact nI_in (N := 8) (by omega) (by decide)) dX14_job_83 ?_
                refine lv_topi (fun x8 ex8 => ?_)
                refine lv_icmp_ge (tgt := 585) hx hb dX14_job_84 (by decide) (fun c_84 => ?_) (fun c_84 => ?_)
                · skip
                  refine lv_iconst (v := 1) hx hb dX14_job_585 (by decide) ?_
                  exact W.iret (v := 1) hx hb hr (fun t ht hW => ⟨⟨_, _, rfl, ⟨Ij, Fj, Lj, hM, hF, hIo, h38j, ⟨sz, hsz64, h68j⟩, hFo, hLo⟩, mk_end hG ht⟩, hS.F ht⟩) hS.2.2 dX14_job_586
                · skip
                  have hp9 : p9 < v9.nO j9 := nI_lt_of (by omega) (by omega) (by have z := c_84; rw [ex8, show (4 : Int32) * nI b9 + nI j9 = nI (4 * b9 + j9) from nI_ma 4 b9 j9, nI_clamp (by omega), hFo 34 (by decide), hjr.2.1] at z; exact z)
                  have hop := hjr.2.2.2 p9 hp9
                  obtain ⟨hk0, hk5, hk34⟩ := hJO p9 hp9
                  have hBj : BK (tkK ft en) (tkV ft en) n9 Fj b9 v9 := ⟨hB.1.mv (Nat.le_refl _) (fun k i hk => by rw [hFo k (by omega)]) rfl rfl rfl rfl, hB.2.1.mv (Nat.le_refl _) (fun k i hk => by rw [hFo k (by omega)]) rfl rfl, hB.2.2.1.mv (Nat.le_refl _) (fun k i hk => by rw [hFo k (by omega)]) rfl rfl rfl rfl, hB.2.2.2.1.mv (Nat.le_refl _) (fun k i hk => by rw [hFo k (by omega)]) rfl rfl, hB.2.2.2.2.1.mv (Nat.le_refl _) (fun k i hk => by rw [hFo k (by omega)]) rfl rfl, hB.2.2.2.2.2.mv (Nat.le_refl _) (fun k i hk => by rw [hFo k (by omega)]) rfl rfl rfl rfl⟩
                  have hop := (hBj.2.2.2.2.2.2.2 j9 hj9).2.2.2 p9 hp9
                  refine lv_bipush (v := 100) hx hb dX14_job_87 (by decide) ?_
                  refine lv_iload hx hb dX14_job_89 (lv_at hl 1 rfl) ?_
                  refine lv_imul hx hb dX14_job_91 ?_
                  refine lv_iload hx hb dX14_job_92 (lv_at hl 4 rfl) ?_
                  refine lv_iadd hx hb dX14_job_94 ?_
                  rw [show ((100 * (nI j9)) + (nI p9)) = nI (100 * j9 + p9) from nI_ma 100 j9 p9]
                  refine lv_istore (lv' := [(9, .int (nI (100 * j9 + p9))), (0, .ref o), (4, .int (nI j9)), (5, .int (nI m9)), (6, .long (Int64.ofNat lf9)), (8, .int (nI p9))]) hx hb dX14_job_95 hl (by decide) rfl (fun ls hl => ?_)
                  refine lv_aload_n hx hb dX14_job_97 rfl (lv_at hl 1 rfl) ?_
                  refine mm_get (v := .ref (Ar 35)) hx hb hf_X14 (fun _ h9 => h9) hown hK hG hM.1 rfl 35 (by decide) (tb_use hT tw_1426) (fun _ h9 => h9) rfl dX14_job_98 ?_
                  refine lv_sipush (v := 400) hx hb dX14_job_101 (by decide) ?_
                  refine lv_aload_n hx hb dX14_job_104 rfl (lv_at hl 1 rfl) ?_
                  refine mm_get (v := .int (Ij 42)) hx hb hf_X14 (fun _ h9 => h9) hown hK hG hM.1 rfl 42 (by decide) (tb_use hT tw_1433) (fun _ h9 => h9) rfl dX14_job_105 ?_
                  rw [show (Ij 42) = nI b9 from hbj]
                  refine lv_imul hx hb dX14_job_108 ?_
                  refine lv_iload hx hb dX14_job_109 (lv_at hl 0 rfl) ?_
                  refine lv_iadd hx hb dX14_job_111 ?_
                  refine mm_iald (n := 800) (f := Fj 35) hx hb hK hG 1 (hM.2.1 35 rfl) rfl (by rw [show (400 : Int32) * nI b9 + nI (100 * j9 + p9) = nI (400 * b9 + (100 * j9 + p9)) from nI_ma 400 b9 (100 * j9 + p9)]; exact nI_in (N := 800) (by omega) (by decide)) dX14_job_112 ?_
                  refine lv_topi (fun x9 ex9 => ?_)
                  refine lv_istore (lv' := [(10, .int x9), (9, .int (nI (100 * j9 + p9))), (0, .ref o), (4, .int (nI j9)), (5, .int (nI m9)), (6, .long (Int64.ofNat lf9)), (8, .int (nI p9))]) hx hb dX14_job_113 hl (by decide) rfl (fun ls hl => ?_)
                  have hx35 : x9 = (if (v9.O j9 p9).1 = 5 then 25 else nI ((v9.O j9 p9).1 - 10)) := by rw [ex9, show (400 : Int32) * nI b9 + nI (100 * j9 + p9) = nI (400 * b9 + (100 * j9 + p9)) from nI_ma 400 b9 (100 * j9 + p9), nI_clamp (by omega)]; exact hop.1
                  obtain ⟨kd9, hkde⟩ : ∃ y, (v9.O j9 p9).1 = y := ⟨_, rfl⟩
                  have hcs : kd9 = 25 ∨ kd9 = 26 ∨ kd9 = 27 ∨ kd9 = 28 ∨ kd9 = 29 ∨ kd9 = 30 ∨ kd9 = 31 ∨ kd9 = 32 ∨ kd9 = 33 ∨ kd9 = 34 ∨ kd9 = 5 := kd11 (by rw [← hkde]; exact hk0)
                  rcases hcs with hkd | hkd | hkd | hkd | hkd | hkd | hkd | hkd | hkd | hkd | hkd
                  · skip
                    replace hkd := hkde.trans hkd
                    rw [show x9 = 15 by rw [hx35, hkd]; rfl] at hl
                    refine lv_iload hx hb dX14_job_115 (lv_at hl 0 rfl) ?_
                    refine lv_bipush (v := 25) hx hb dX14_job_117 (by decide) ?_
                    refine lv_icmp_ne (tgt := 143) hx hb dX14_job_119 (by decide) (fun c_119 => ?_) (fun c_119 => ?_)
                    · skip
                      refine lv_lload hx hb dX14_job_143 (lv_at hl 5 rfl) ?_
                      refine lv_lconst (v := 0) hx hb dX14_job_145 (by decide) ?_
                      refine W.lcmp hx hb dX14_job_146 ?_
                      refine lv_if_ne (tgt := 152) hx hb dX14_job_147 (by decide) (fun c_147 => ?_) (fun c_147 => ?_)
                      · skip
                        obtain ⟨lf, hlf⟩ : ∃ y, lf9 = y + 1 := ⟨lf9 - 1, by have y : lf9 ≠ 0 := fun z => c_147 ((lg_cmp_eq _ _).mpr (by rw [z]; rfl)); omega⟩
                        rw [hlf] at hl hmu
                        refine lv_lload hx hb dX14_job_152 (lv_at hl 5 rfl) ?_
                        refine lv_lconst (v := 1) hx hb dX14_job_154 (by decide) ?_
                        refine lv_lsub hx hb dX14_job_155 ?_
                        rw [i64_dec (by omega)]
                        refine lv_topl (fun x11 ex11 => ?_)
                        refine lv_lstore (lv' := [(6, .long x11), (10, .int 15), (9, .int (nI (100 * j9 + p9))), (0, .ref o), (4, .int (nI j9)), (5, .int (nI m9)), (8, .int (nI p9))]) hx hb dX14_job_156 hl (by decide) rfl (fun ls hl => ?_)
                        refine lv_iload hx hb dX14_job_158 (lv_at hl 1 rfl) ?_
                        refine lv_bipush (v := 15) hx hb dX14_job_160 (by decide) ?_
                        refine lv_icmp_eq (tgt := 172) hx hb dX14_job_162 (by decide) (fun c_162 => ?_) (fun c_162 => ?_)
                        · skip
                          refine lv_iconst (v := 0) hx hb dX14_job_172 (by decide) ?_
                          refine lv_goto (tgt := 209) hx hb dX14_job_173 (by decide) ?_
                          refine lv_istore (lv' := [(11, .int 0), (6, .long x11), (10, .int 15), (9, .int (nI (100 * j9 + p9))), (0, .ref o), (4, .int (nI j9)), (5, .int (nI m9)), (8, .int (nI p9))]) hx hb dX14_job_209 hl (by decide) rfl (fun ls hl => ?_)
                          refine lv_iload hx hb dX14_job_211 (lv_at hl 2 rfl) ?_
                          refine lv_bipush (v := 15) hx hb dX14_job_213 (by decide) ?_
                          refine lv_icmp_eq (tgt := 232) hx hb dX14_job_215 (by decide) (fun c_215 => ?_) (fun c_215 => ?_)
                          · skip
                            refine lv_iconst (v := 1) hx hb dX14_job_232 (by decide) ?_
                            refine lv_goto (tgt := 237) hx hb dX14_job_233 (by decide) ?_
                            refine lv_istore (lv' := [(12, .int 1), (11, .int 0), (6, .long x11), (10, .int 15), (9, .int (nI (100 * j9 + p9))), (0, .ref o), (4, .int (nI j9)), (5, .int (nI m9)), (8, .int (nI p9))]) hx hb dX14_job_237 hl (by decide) rfl (fun ls hl => ?_)
                            refine lv_iload hx hb dX14_job_239 (lv_at hl 7 rfl) ?_
                            refine lv_iload hx hb dX14_job_241 (lv_at hl 1 rfl) ?_
                            refine lv_icmp_lt (tgt := 258) hx hb dX14_job_243 (by decide) (fun c_243 => ?_) (fun c_243 => ?_)
                            · skip
                              refine lv_bipush (v := (-3)) hx hb dX14_job_258 (by decide) ?_
                              exact W.iret (v := (-3)) hx hb hr (fun t ht hW => ⟨⟨_, _, rfl, ⟨Ij, Fj, Lj, hM, hF, hIo, h38j, ⟨sz, hsz64, h68j⟩, hFo, hLo⟩, mk_end hG ht⟩, hS.F ht⟩) hS.2.2 dX14_job_260
                            · skip
                              refine lv_iload hx hb dX14_job_246 (lv_at hl 0 rfl) ?_
                              refine lv_if_eq (tgt := 261) hx hb dX14_job_248 (by decide) (fun c_248 => ?_) (fun c_248 => ?_)
                              · skip
                                exact absurd c_248 (by decide)
                              · skip
                                refine lv_iload hx hb dX14_job_251 (lv_at hl 7 rfl) ?_
                                refine lv_bipush (v := 16) hx hb dX14_job_253 (by decide) ?_
                                refine lv_icmp_ne (tgt := 261) hx hb dX14_job_255 (by decide) (fun c_255 => ?_) (fun c_255 => ?_)
                                · skip
                                  have hm16 : m9 < 16 := by have y : m9 ≠ 16 := fun z => c_255 (by rw [z]; rfl); omega
                                  refine lv_iload hx hb dX14_job_261 (lv_at hl 7 rfl) ?_
                                  refine lv_if_le (tgt := 278) hx hb dX14_job_263 (by decide) (fun c_263 => ?_) (fun c_263 => ?_)
                                  · skip
                                    refine lv_lconst (v := 0) hx hb dX14_job_278 (by decide) ?_
                                    refine lv_lstore (lv' := [(13, .long 0), (12, .int 1), (11, .int 0), (6, .long x11), (10, .int 15), (9, .int (nI (100 * j9 + p9))), (0, .ref o), (4, .int (nI j9)), (5, .int (nI m9)), (8, .int (nI p9))]) hx hb dX14_job_279 hl (by decide) rfl (fun ls hl => ?_)
                                    refine lv_iload hx hb dX14_job_281 (lv_at hl 8 rfl) ?_
                                    refine lv_iconst (v := 1) hx hb dX14_job_283 (by decide) ?_
                                    refine lv_icmp_le (tgt := 299) hx hb dX14_job_284 (by decide) (fun c_284 => ?_) (fun c_284 => ?_)
                                    · skip
                                      refine lv_lconst (v := 0) hx hb dX14_job_299 (by decide) ?_
                                      refine lv_lstore (lv' := [(15, .long 0), (13, .long 0), (12, .int 1), (11, .int 0), (6, .long x11), (10, .int 15), (9, .int (nI (100 * j9 + p9))), (0, .ref o), (4, .int (nI j9)), (5, .int (nI m9)), (8, .int (nI p9))]) hx hb dX14_job_300 hl (by decide) rfl (fun ls hl => ?_)
                                      obtain ⟨x12, ex12⟩ : ∃ y : Int32, y = (nI p9) + 1 := ⟨_, rfl⟩
                                      refine lv_iinc (v := x12) (lv' := [(8, .int x12), (15, .long 0), (13, .long 0), (12, .int 1), (11, .int 0), (6, .long x11), (10, .int 15), (9, .int (nI (100 * j9 + p9))), (0, .ref o), (4, .int (nI j9)), (5, .int (nI m9))]) hx hb dX14_job_302 hl (k := 10) rfl (by rw [ex12]; rfl) (by decide) rfl (fun ls hl => ?_)
                                      refine lv_iload hx hb dX14_job_305 (lv_at hl 6 rfl) ?_
                                      refine lv_tableIn (tgt := 360) hx hb dX14_job_307 (by decide) (by decide) (off := 53) rfl (by decide) ?_
                                      refine lv_aload_n hx hb dX14_job_360 rfl (lv_at hl 8 rfl) ?_
                                      refine mm_get (v := .ref (Ar 75)) hx hb hf_X14 (fun _ h9 => h9) hown hK hG hM.1 rfl 75 (by decide) (tb_use hT tw_1466) (fun _ h9 => h9) rfl dX14_job_361 ?_
                                      refine lv_iload hx hb dX14_job_364 (lv_at hl 10 rfl) ?_
                                      refine lv_aload_n hx hb dX14_job_366 rfl (lv_at hl 8 rfl) ?_
                                      refine mm_get (v := .ref (Ar 36)) hx hb hf_X14 (fun _ h9 => h9) hown hK hG hM.1 rfl 36 (by decide) (tb_use hT tw_1427) (fun _ h9 => h9) rfl dX14_job_367 ?_
                                      refine lv_sipush (v := 400) hx hb dX14_job_370 (by decide) ?_
                                      refine lv_aload_n hx hb dX14_job_373 rfl (lv_at hl 8 rfl) ?_
                                      refine mm_get (v := .int (Ij 42)) hx hb hf_X14 (fun _ h9 => h9) hown hK hG hM.1 rfl 42 (by decide) (tb_use hT tw_1433) (fun _ h9 => h9) rfl dX14_job_374 ?_
                                      rw [show (Ij 42) = nI b9 from hbj]
                                      refine lv_imul hx hb dX14_job_377 ?_
                                      refine lv_iload hx hb dX14_job_378 (lv_at hl 7 rfl) ?_
                                      refine lv_iadd hx hb dX14_job_380 ?_
                                      refine mm_iald (n := 800) (f := Fj 36) hx hb hK hG 1 (hM.2.1 36 rfl) rfl (by rw [show (400 : Int32) * nI b9 + nI (100 * j9 + p9) = nI (400 * b9 + (100 * j9 + p9)) from nI_ma 400 b9 (100 * j9 + p9)]; exact nI_in (N := 800) (by omega) (by decide)) dX14_job_381 ?_
                                      refine lv_topi (fun x13 ex13 => ?_)
                                      obtain ⟨x14, ex14⟩ : ∃ y, y = (x13 : Int32).toInt64 := ⟨_, rfl⟩
                                      refine lv_i2l (v := x14) hx hb dX14_job_382 ex14.symm ?_
                                      refine mm_last (n := mdN 75) (f := Lj 75) hx hb hK hG hS 2 (hM.2.2.1 75 rfl) rfl (nI_in (N := mdN 75) (by show _ < 16; omega) (by decide)) dX14_job_383 (fun H locs hG hS => ?_)
                                      have hM := MD.setj (k := 75) (vp_updL (Lj 75) (nI m9).toNatClampNeg x14) hM rfl
                                      have hF := hF.wa (k := 75) (e' := .inl (cy 2, mdN 75, .inr (.inl (vp_updL (Lj 75) (nI m9).toNatClampNeg x14)))) rfl
                                      obtain ⟨L15, eL15⟩ : ∃ g, g = va_up Lj 75 (vp_updL (Lj 75) (nI m9).toNatClampNeg x14) := ⟨_, rfl⟩
                                      rw [← eL15] at hM
                                      generalize mm_set _ _ _ = G16 at hG hM hF
                                      obtain ⟨x17, ex17⟩ : ∃ y : Int32, y = (nI m9) + 1 := ⟨_, rfl⟩
                                      refine lv_iinc (v := x17) (lv' := [(5, .int x17), (8, .int x12), (15, .long 0), (13, .long 0), (12, .int 1), (11, .int 0), (6, .long x11), (10, .int 15), (9, .int (nI (100 * j9 + p9))), (0, .ref o), (4, .int (nI j9))]) hx hb dX14_job_384 hl (k := 10) rfl (by rw [ex17]; rfl) (by decide) rfl (fun ls hl => ?_)
                                      refine lv_goto (tgt := 582) hx hb dX14_job_387 (by decide) ?_
                                      refine lv_goto (tgt := 68) hx hb dX14_job_582 (by decide) ?_
                                      rw [show x12 = nI (p9 + 1) by rw [ex12]; exact (nI_succ p9).symm] at hl
                                      rw [show x17 = nI (m9 + 1) by rw [ex17]; exact (nI_succ m9).symm] at hl
                                      rw [ex11] at hl
                                      have hmu2 : 2 * lf + agN v9 j9 (p9 + 1) < n := by have y := @agN_le v9 j9 (p9 + 1); omega
                                      exact ih (p9 + 1) (m9 + 1) lf sz Ij Fj L15 hmu2 (by omega) (by omega) hIo h38j hbj h66j h68j hsz64 hFo (fun j hj => by rw [eL15, va_up_ne _ _ (by omega)]; exact hLo j hj) G16 hM hF _ _ hG hS ls (lv_sub hl [9, 10, 0, 6, 1] rfl)
                                    · skip
                                      have hm2 : 1 < m9 := Nat.lt_of_not_le (fun y => c_284 (nI_le (b := 1) y (by decide)))
                                      refine lv_aload_n hx hb dX14_job_287 rfl (lv_at hl 6 rfl) ?_
                                      refine mm_get (v := .ref (Ar 75)) hx hb hf_X14 (fun _ h9 => h9) hown hK hG hM.1 rfl 75 (by decide) (tb_use hT tw_1466) (fun _ h9 => h9) rfl dX14_job_288 ?_
                                      refine lv_iload hx hb dX14_job_291 (lv_at hl 8 rfl) ?_
                                      refine lv_iconst (v := 2) hx hb dX14_job_293 (by decide) ?_
                                      refine lv_isub hx hb dX14_job_294 ?_
                                      rw [show ((nI m9) - 2) = nI (m9 - 2) from nI_sb (a := 2) (b := m9) (by omega)]
                                      refine mm_lald (n := 16) (f := Lj 75) hx hb hK hG 2 (hM.2.2.1 75 rfl) rfl (nI_in (N := 16) (by omega) (by decide)) dX14_job_295 ?_
                                      refine lv_topl (fun x18 ex18 => ?_)
                                      refine lv_goto (tgt := 300) hx hb dX14_job_296 (by decide) ?_
                                      refine lv_lstore (lv' := [(15, .long x18), (13, .long 0), (12, .int 1), (11, .int 0), (6, .long x11), (10, .int 15), (9, .int (nI (100 * j9 + p9))), (0, .ref o), (4, .int (nI j9)), (5, .int (nI m9)), (8, .int (nI p9))]) hx hb dX14_job_300 hl (by decide) rfl (fun ls hl => ?_)
                                      obtain ⟨x19, ex19⟩ : ∃ y : Int32, y = (nI p9) + 1 := ⟨_, rfl⟩
                                      refine lv_iinc (v := x19) (lv' := [(8, .int x19), (15, .long x18), (13, .long 0), (12, .int 1), (11, .int 0), (6, .long x11), (10, .int 15), (9, .int (nI (100 * j9 + p9))), (0, .ref o), (4, .int (nI j9)), (5, .int (nI m9))]) hx hb dX14_job_302 hl (k := 10) rfl (by rw [ex19]; rfl) (by decide) rfl (fun ls hl => ?_)
                                      refine lv_iload hx hb dX14_job_305 (lv_at hl 6 rfl) ?_
                                      refine lv_tableIn (tgt := 360) hx hb dX14_job_307 (by decide) (by decide) (off := 53) rfl (by decide) ?_
                                      refine lv_aload_n hx hb dX14_job_360 rfl (lv_at hl 8 rfl) ?_
                                      refine mm_get (v := .ref (Ar 75)) hx hb hf_X14 (fun _ h9 => h9) hown hK hG hM.1 rfl 75 (by decide) (tb_use hT tw_1466) (fun _ h9 => h9) rfl dX14_job_361 ?_
                                      refine lv_iload hx hb dX14_job_364 (lv_at hl 10 rfl) ?_
                                      refine lv_aload_n hx hb dX14_job_366 rfl (lv_at hl 8 rfl) ?_
                                      refine mm_get (v := .ref (Ar 36)) hx hb hf_X14 (fun _ h9 => h9) hown hK hG hM.1 rfl 36 (by decide) (tb_use hT tw_1427) (fun _ h9 => h9) rfl dX14_job_367 ?_
                                      refine lv_sipush (v := 400) hx hb dX14_job_370 (by decide) ?_
                                      refine lv_aload_n hx hb dX14_job_373 rfl (lv_at hl 8 rfl) ?_
                                      refine mm_get (v := .int (Ij 42)) hx hb hf_X14 (fun _ h9 => h9) hown hK hG hM.1 rfl 42 (by decide) (tb_use hT tw_1433) (fun _ h9 => h9) rfl dX14_job_374 ?_
                                      rw [show (Ij 42) = nI b9 from hbj]
                                      refine lv_imul hx hb dX14_job_377 ?_
                                      refine lv_iload hx hb dX14_job_378 (lv_at hl 7 rfl) ?_
                                      refine lv_iadd hx hb dX14_job_380 ?_
                                      refine mm_iald (n := 800) (f := Fj 36) hx hb hK hG 1 (hM.2.1 36 rfl) rfl (by rw [show (400 : Int32) * nI b9 + nI (100 * j9 + p9) = nI (400 * b9 + (100 * j9 + p9)) from nI_ma 400 b9 (100 * j9 + p9)]; exact nI_in (N := 800) (by omega) (by decide)) dX14_job_381 ?_
                                      refine lv_topi (fun x20 ex20 => ?_)
                                      obtain ⟨x21, ex21⟩ : ∃ y, y = (x20 : Int32).toInt64 := ⟨_, rfl⟩
                                      refine lv_i2l (v := x21) hx hb dX14_job_382 ex21.symm ?_
                                      refine mm_last (n := mdN 75) (f := Lj 75) hx hb hK hG hS 2 (hM.2.2.1 75 rfl) rfl (nI_in (N := mdN 75) (by show _ < 16; omega) (by decide)) dX14_job_383 (fun H locs hG hS => ?_)
                                      have hM := MD.setj (k := 75) (vp_updL (Lj 75) (nI m9).toNatClampNeg x21) hM rfl
                                      have hF := hF.wa (k := 75) (e' := .inl (cy 2, mdN 75, .inr (.inl (vp_updL (Lj 75) (nI m9).toNatClampNeg x21)))) rfl
                                      obtain ⟨L22, eL22⟩ : ∃ g, g = va_up Lj 75 (vp_updL (Lj 75) (nI m9).toNatClampNeg x21) := ⟨_, rfl⟩
                                      rw [← eL22] at hM
                                      generalize mm_set _ _ _ = G23 at hG hM hF
                                      obtain ⟨x24, ex24⟩ : ∃ y : Int32, y = (nI m9) + 1 := ⟨_, rfl⟩
                                      refine lv_iinc (v := x24) (lv' := [(5, .int x24), (8, .int x19), (15, .long x18), (13, .long 0), (12, .int 1), (11, .int 0), (6, .long x11), (10, .int 15), (9, .int (nI (100 * j9 + p9))), (0, .ref o), (4, .int (nI j9))]) hx hb dX14_job_384 hl (k := 10) rfl (by rw [ex24]; rfl) (by decide) rfl (fun ls hl => ?_)
                                      refine lv_goto (tgt := 582) hx hb dX14_job_387 (by decide) ?_
                                      refine lv_goto (tgt := 68) hx hb dX14_job_582 (by decide) ?_
                                      rw [show x19 = nI (p9 + 1) by rw [ex19]; exact (nI_succ p9).symm] at hl
                                      rw [show x24 = nI (m9 + 1) by rw [ex24]; exact (nI_succ m9).symm] at hl
                                      rw [ex11] at hl
                                      have hmu2 : 2 * lf + agN v9 j9 (p9 + 1) < n := by have y := @agN_le v9 j9 (p9 + 1); omega
                                      exact ih (p9 + 1) (m9 + 1) lf sz Ij Fj L22 hmu2 (by omega) (by omega) hIo h38j hbj h66j h68j hsz64 hFo (fun j hj => by rw [eL22, va_up_ne _ _ (by omega)]; exact hLo j hj) G23 hM hF _ _ hG hS ls (lv_sub hl [9, 10, 0, 6, 1] rfl)
                                  · skip
                                    have hm1 : 0 < m9 := Nat.pos_of_ne_zero (fun y => c_263 (by rw [y]; exact Int32.le_refl 0))
                                    refine lv_aload_n hx hb dX14_job_266 rfl (lv_at hl 5 rfl) ?_
                                    refine mm_get (v := .ref (Ar 75)) hx hb hf_X14 (fun _ h9 => h9) hown hK hG hM.1 rfl 75 (by decide) (tb_use hT tw_1466) (fun _ h9 => h9) rfl dX14_job_267 ?_
                                    refine lv_iload hx hb dX14_job_270 (lv_at hl 7 rfl) ?_
                                    refine lv_iconst (v := 1) hx hb dX14_job_272 (by decide) ?_
                                    refine lv_isub hx hb dX14_job_273 ?_
                                    rw [show ((nI m9) - 1) = nI (m9 - 1) from nI_sb (a := 1) (b := m9) (by omega)]
                                    refine mm_lald (n := 16) (f := Lj 75) hx hb hK hG 2 (hM.2.2.1 75 rfl) rfl (nI_in (N := 16) (by omega) (by decide)) dX14_job_274 ?_
                                    refine lv_topl (fun x25 ex25 => ?_)
                                    refine lv_goto (tgt := 279) hx hb dX14_job_275 (by decide) ?_
                                    refine lv_lstore (lv' := [(13, .long x25), (12, .int 1), (11, .int 0), (6, .long x11), (10, .int 15), (9, .int (nI (100 * j9 + p9))), (0, .ref o), (4, .int (nI j9)), (5, .int (nI m9)), (8, .int (nI p9))]) hx hb dX14_job_279 hl (by decide) rfl (fun ls hl => ?_)
                                    refine lv_iload hx hb dX14_job_281 (lv_at hl 8 rfl) ?_
                                    refine lv_iconst (v := 1) hx hb dX14_job_283 (by decide) ?_
                                    refine lv_icmp_le (tgt := 299) hx hb dX14_job_284 (by decide) (fun c_284 => ?_) (fun c_284 => ?_)
                                    · skip
                                      refine lv_lconst (v := 0) hx hb dX14_job_299 (by decide) ?_
                                      refine lv_lstore (lv' := [(15, .long 0), (13, .long x25), (12, .int 1), (11, .int 0), (6, .long x11), (10, .int 15), (9, .int (nI (100 * j9 + p9))), (0, .ref o), (4, .int (nI j9)), (5, .int (nI m9)), (8, .int (nI p9))]) hx hb dX14_job_300 hl (by decide) rfl (fun ls hl => ?_)
                                      obtain ⟨x26, ex26⟩ : ∃ y : Int32, y = (nI p9) + 1 := ⟨_, rfl⟩
                                      refine lv_iinc (v := x26) (lv' := [(8, .int x26), (15, .long 0), (13, .long x25), (12, .int 1), (11, .int 0), (6, .long x11), (10, .int 15), (9, .int (nI (100 * j9 + p9))), (0, .ref o), (4, .int (nI j9)), (5, .int (nI m9))]) hx hb dX14_job_302 hl (k := 10) rfl (by rw [ex26]; rfl) (by decide) rfl (fun ls hl => ?_)
                                      refine lv_iload hx hb dX14_job_305 (lv_at hl 6 rfl) ?_
                                      refine lv_tableIn (tgt := 360) hx hb dX14_job_307 (by decide) (by decide) (off := 53) rfl (by decide) ?_
                                      refine lv_aload_n hx hb dX14_job_360 rfl (lv_at hl 8 rfl) ?_
                                      refine mm_get (v := .ref (Ar 75)) hx hb hf_X14 (fun _ h9 => h9) hown hK hG hM.1 rfl 75 (by decide) (tb_use hT tw_1466) (fun _ h9 => h9) rfl dX14_job_361 ?_
                                      refine lv_iload hx hb dX14_job_364 (lv_at hl 10 rfl) ?_
                                      refine lv_aload_n hx hb dX14_job_366 rfl (lv_at hl 8 rfl) ?_
                                      refine mm_get (v := .ref (Ar 36)) hx hb hf_X14 (fun _ h9 => h9) hown hK hG hM.1 rfl 36 (by decide) (tb_use hT tw_1427) (fun _ h9 => h9) rfl dX14_job_367 ?_
                                      refine lv_sipush (v := 400) hx hb dX14_job_370 (by decide) ?_
                                      refine lv_aload_n hx hb dX14_job_373 rfl (lv_at hl 8 rfl) ?_
                                      refine mm_get (v := .int (Ij 42)) hx hb hf_X14 (fun _ h9 => h9) hown hK hG hM.1 rfl 42 (by decide) (tb_use hT tw_1433) (fun _ h9 => h9) rfl dX14_job_374 ?_
                                      rw [show (Ij 42) = nI b9 from hbj]
                                      refine lv_imul hx hb dX14_job_377 ?_
                                      refine lv_iload hx hb dX14_job_378 (lv_at hl 7 rfl) ?_
                                      refine lv_iadd hx hb dX14_job_380 ?_
                                      refine mm_iald (n := 800) (f := Fj 36) hx hb hK hG 1 (hM.2.1 36 rfl) rfl (by rw [show (400 : Int32) * nI b9 + nI (100 * j9 + p9) = nI (400 * b9 + (100 * j9 + p9)) from nI_ma 400 b9 (100 * j9 + p9)]; exact nI_in (N := 800) (by omega) (by decide)) dX14_job_381 ?_
                                      refine lv_topi (fun x27 ex27 => ?_)
                                      obtain ⟨x28, ex28⟩ : ∃ y, y = (x27 : Int32).toInt64 := ⟨_, rfl⟩
                                      refine lv_i2l (v := x28) hx hb dX14_job_382 ex28.symm ?_
                                      refine mm_last (n := mdN 75) (f := Lj 75) hx hb hK hG hS 2 (hM.2.2.1 75 rfl) rfl (nI_in (N := mdN 75) (by show _ < 16; omega) (by decide)) dX14_job_383 (fun H locs hG hS => ?_)
                                      have hM := MD.setj (k := 75) (vp_updL (Lj 75) (nI m9).toNatClampNeg x28) hM rfl
                                      have hF := hF.wa (k := 75) (e' := .inl (cy 2, mdN 75, .inr (.inl (vp_updL (Lj 75) (nI m9).toNatClampNeg x28)))) rfl
                                      obtain ⟨L29, eL29⟩ : ∃ g, g = va_up Lj 75 (vp_updL (Lj 75) (nI m9).toNatClampNeg x28) := ⟨_, rfl⟩
                                      rw [← eL29] at hM
                                      generalize mm_set _ _ _ = G30 at hG hM hF
                                      obtain ⟨x31, ex31⟩ : ∃ y : Int32, y = (nI m9) + 1 := ⟨_, rfl⟩
                                      refine lv_iinc (v := x31) (lv' := [(5, .int x31), (8, .int x26), (15, .long 0), (13, .long x25), (12, .int 1), (11, .int 0), (6, .long x11), (10, .int 15), (9, .int (nI (100 * j9 + p9))), (0, .ref o), (4, .int (nI j9))]) hx hb dX14_job_384 hl (k := 10) rfl (by rw [ex31]; rfl) (by decide) rfl (fun ls hl => ?_)
                                      refine lv_goto (tgt := 582) hx hb dX14_job_387 (by decide) ?_
                                      refine lv_goto (tgt := 68) hx hb dX14_job_582 (by decide) ?_
                                      rw [show x26 = nI (p9 + 1) by rw [ex26]; exact (nI_succ p9).symm] at hl
                                      rw [show x31 = nI (m9 + 1) by rw [ex31]; exact (nI_succ m9).symm] at hl
                                      rw [ex11] at hl
                                      have hmu2 : 2 * lf + agN v9 j9 (p9 + 1) < n := by have y := @agN_le v9 j9 (p9 + 1); omega
                                      exact ih (p9 + 1) (m9 + 1) lf sz Ij Fj L29 hmu2 (by omega) (by omega) hIo h38j hbj h66j h68j hsz64 hFo (fun j hj => by rw [eL29, va_up_ne _ _ (by omega)]; exact hLo j hj) G30 hM hF _ _ hG hS ls (lv_sub hl [9, 10, 0, 6, 1] rfl)
                                    · skip
                                      have hm2 : 1 < m9 := Nat.lt_of_not_le (fun y => c_284 (nI_le (b := 1) y (by decide)))
                                      refine lv_aload_n hx hb dX14_job_287 rfl (lv_at hl 6 rfl) ?_
                                      refine mm_get (v := .ref (Ar 75)) hx hb hf_X14 (fun _ h9 => h9) hown hK hG hM.1 rfl 75 (by decide) (tb_use hT tw_1466) (fun _ h9 => h9) rfl dX14_job_288 ?_
                                      refine lv_iload hx hb dX14_job_291 (lv_at hl 8 rfl) ?_
                                      refine lv_iconst (v := 2) hx hb dX14_job_293 (by decide) ?_
                                      refine lv_isub hx hb dX14_job_294 ?_
                                      rw [show ((nI m9) - 2) = nI (m9 - 2) from nI_sb (a := 2) (b := m9) (by omega)]
                                      refine mm_lald (n := 16) (f := Lj 75) hx hb hK hG 2 (hM.2.2.1 75 rfl) rfl (nI_in (N := 16) (by omega) (by decide)) dX14_job_295 ?_
                                      refine lv_topl (fun x32 ex32 => ?_)
                                      refine lv_goto (tgt := 300) hx hb dX14_job_296 (by decide) ?_
                                      refine lv_lstore (lv' := [(15, .long x32), (13, .long x25), (12, .int 1), (11, .int 0), (6, .long x11), (10, .int 15), (9, .int (nI (100 * j9 + p9))), (0, .ref o), (4, .int (nI j9)), (5, .int (nI m9)), (8, .int (nI p9))]) hx hb dX14_job_300 hl (by decide) rfl (fun ls hl => ?_)
                                      obtain ⟨x33, ex33⟩ : ∃ y : Int32, y = (nI p9) + 1 := ⟨_, rfl⟩
                                      refine lv_iinc (v := x33) (lv' := [(8, .int x33), (15, .long x32), (13, .long x25), (12, .int 1), (11, .int 0), (6, .long x11), (10, .int 15), (9, .int (nI (100 * j9 + p9))), (0, .ref o), (4, .int (nI j9)), (5, .int (nI m9))]) hx hb dX14_job_302 hl (k := 10) rfl (by rw [ex33]; rfl) (by decide) rfl (fun ls hl => ?_)
                                      refine lv_iload hx hb dX14_job_305 (lv_at hl 6 rfl) ?_
                                      refine lv_tableIn (tgt := 360) hx hb dX14_job_307 (by decide) (by decide) (off := 53) rfl (by decide) ?_
                                      refine lv_aload_n hx hb dX14_job_360 rfl (lv_at hl 8 rfl) ?_
                                      refine mm_get (v := .ref (Ar 75)) hx hb hf_X14 (fun _ h9 => h9) hown hK hG hM.1 rfl 75 (by decide) (tb_use hT tw_1466) (fun _ h9 => h9) rfl dX14_job_361 ?_
                                      refine lv_iload hx hb dX14_job_364 (lv_at hl 10 rfl) ?_
                                      refine lv_aload_n hx hb dX14_job_366 rfl (lv_at hl 8 rfl) ?_
                                      refine mm_get (v := .ref (Ar 36)) hx hb hf_X14 (fun _ h9 => h9) hown hK hG hM.1 rfl 36 (by decide) (tb_use hT tw_1427) (fun _ h9 => h9) rfl dX14_job_367 ?_
                                      refine lv_sipush (v := 400) hx hb dX14_job_370 (by decide) ?_
                                      refine lv_aload_n hx hb dX14_job_373 rfl (lv_at hl 8 rfl) ?_
                                      refine mm_get (v := .int (Ij 42)) hx hb hf_X14 (fun _ h9 => h9) hown hK hG hM.1 rfl 42 (by decide) (tb_use hT tw_1433) (fun _ h9 => h9) rfl dX14_job_374 ?_
                                      rw [show (Ij 42) = nI b9 from hbj]
                                      refine lv_imul hx hb dX14_job_377 ?_
                                      refine lv_iload hx hb dX14_job_378 (lv_at hl 7 rfl) ?_
                                      refine lv_iadd hx hb dX14_job_380 ?_
                                      refine mm_iald (n := 800) (f := Fj 36) hx hb hK hG 1 (hM.2.1 36 rfl) rfl (by rw [show (400 : Int32) * nI b9 + nI (100 * j9 + p9) = nI (400 * b9 + (100 * j9 + p9)) from nI_ma 400 b9 (100 * j9 + p9)]; exact nI_in (N := 800) (by omega) (by decide)) dX14_job_381 ?_
                                      refine lv_topi (fun x34 ex34 => ?_)
                                      obtain ⟨x35, ex35⟩ : ∃ y, y = (x34 : Int32).toInt64 := ⟨_, rfl⟩
                                      refine lv_i2l (v := x35) hx hb dX14_job_382 ex35.symm ?_
                                      refine mm_last (n := mdN 75) (f := Lj 75) hx hb hK hG hS 2 (hM.2.2.1 75 rfl) rfl (nI_in (N := mdN 75) (by show _ < 16; omega) (by decide)) dX14_job_383 (fun H locs hG hS => ?_)
                                      have hM := MD.setj (k := 75) (vp_updL (Lj 75) (nI m9).toNatClampNeg x35) hM rfl
                                      have hF := hF.wa (k := 75) (e' := .inl (cy 2, mdN 75, .inr (.inl (vp_updL (Lj 75) (nI m9).toNatClampNeg x35)))) rfl
                                      obtain ⟨L36, eL36⟩ : ∃ g, g = va_up Lj 75 (vp_updL (Lj 75) (nI m9).toNatClampNeg x35) := ⟨_, rfl⟩
                                      rw [← eL36] at hM
                                      generalize mm_set _ _ _ = G37 at hG hM hF
                                      obtain ⟨x38, ex38⟩ : ∃ y : Int32, y = (nI m9) + 1 := ⟨_, rfl⟩
                                      refine lv_iinc (v := x38) (lv' := [(5, .int x38), (8, .int x33), (15, .long x32), (13, .long x25), (12, .int 1), (11, .int 0), (6, .long x11), (10, .int 15), (9, .int (nI (100 * j9 + p9))), (0, .ref o), (4, .int (nI j9))]) hx hb dX14_job_384 hl (k := 10) rfl (by rw [ex38]; rfl) (by decide) rfl (fun ls hl => ?_)
                                      refine lv_goto (tgt := 582) hx hb dX14_job_387 (by decide) ?_
                                      refine lv_goto (tgt := 68) hx hb dX14_job_582 (by decide) ?_
                                      rw [show x33 = nI (p9 + 1) by rw [ex33]; exact (nI_succ p9).symm] at hl
                                      rw [show x38 = nI (m9 + 1) by rw [ex38]; exact (nI_succ m9).symm] at hl
                                      rw [ex11] at hl
                                      have hmu2 : 2 * lf + agN v9 j9 (p9 + 1) < n := by have y := @agN_le v9 j9 (p9 + 1); omega
                                      exact ih (p9 + 1) (m9 + 1) lf sz Ij Fj L36 hmu2 (by omega) (by omega) hIo h38j hbj h66j h68j hsz64 hFo (fun j hj => by rw [eL36, va_up_ne _ _ (by omega)]; exact hLo j hj) G37 hM hF _ _ hG hS ls (lv_sub hl [9, 10, 0, 6, 1] rfl)
                                · skip
                                  refine lv_bipush (v := (-3)) hx hb dX14_job_258 (by decide) ?_
                                  exact W.iret (v := (-3)) hx hb hr (fun t ht hW => ⟨⟨_, _, rfl, ⟨Ij, Fj, Lj, hM, hF, hIo, h38j, ⟨sz, hsz64, h68j⟩, hFo, hLo⟩, mk_end hG ht⟩, hS.F ht⟩) hS.2.2 dX14_job_260
                          · skip
                            exact absurd (by decide) c_215
                        · skip
                          exact absurd (by decide) c_162
                      · skip
                        refine lv_iconst (v := 0) hx hb dX14_job_150 (by decide) ?_
                        exact W.iret (v := 0) hx hb hr (fun t ht hW => ⟨⟨_, _, rfl, ⟨Ij, Fj, Lj, hM, hF, hIo, h38j, ⟨sz, hsz64, h68j⟩, hFo, hLo⟩, mk_end hG ht⟩, hS.F ht⟩) hS.2.2 dX14_job_151
                    · skip
                      exact absurd c_119 (by decide)
                  · skip
                    replace hkd := hkde.trans hkd
                    rw [show x9 = 16 by rw [hx35, hkd]; rfl] at hl
                    refine lv_iload hx hb dX14_job_115 (lv_at hl 0 rfl) ?_
                    refine lv_bipush (v := 25) hx hb dX14_job_117 (by decide) ?_
                    refine lv_icmp_ne (tgt := 143) hx hb dX14_job_119 (by decide) (fun c_119 => ?_) (fun c_119 => ?_)
                    · skip
                      refine lv_lload hx hb dX14_job_143 (lv_at hl 5 rfl) ?_
                      refine lv_lconst (v := 0) hx hb dX14_job_145 (by decide) ?_
                      refine W.lcmp hx hb dX14_job_146 ?_
                      refine lv_if_ne (tgt := 152) hx hb dX14_job_147 (by decide) (fun c_147 => ?_) (fun c_147 => ?_)
                      · skip
                        obtain ⟨lf, hlf⟩ : ∃ y, lf9 = y + 1 := ⟨lf9 - 1, by have y : lf9 ≠ 0 := fun z => c_147 ((lg_cmp_eq _ _).mpr (by rw [z]; rfl)); omega⟩
                        rw [hlf] at hl hmu
                        refine lv_lload hx hb dX14_job_152 (lv_at hl 5 rfl) ?_
                        refine lv_lconst (v := 1) hx hb dX14_job_154 (by decide) ?_
                        refine lv_lsub hx hb dX14_job_155 ?_
                        rw [i64_dec (by omega)]
                        refine lv_topl (fun x40 ex40 => ?_)
                        refine lv_lstore (lv' := [(6, .long x40), (10, .int 16), (9, .int (nI (100 * j9 + p9))), (0, .ref o), (4, .int (nI j9)), (5, .int (nI m9)), (8, .int (nI p9))]) hx hb dX14_job_156 hl (by decide) rfl (fun ls hl => ?_)
                        refine lv_iload hx hb dX14_job_158 (lv_at hl 1 rfl) ?_
                        refine lv_bipush (v := 15) hx hb dX14_job_160 (by decide) ?_
                        refine lv_icmp_eq (tgt := 172) hx hb dX14_job_162 (by decide) (fun c_162 => ?_) (fun c_162 => ?_)
                        · skip
                          exact absurd c_162 (by decide)
                        · skip
                          refine lv_iload hx hb dX14_job_165 (lv_at hl 1 rfl) ?_
                          refine lv_bipush (v := 16) hx hb dX14_job_167 (by decide) ?_
                          refine lv_icmp_ne (tgt := 176) hx hb dX14_job_169 (by decide) (fun c_169 => ?_) (fun c_169 => ?_)
                          · skip
                            exact absurd (by decide) c_169
                          · skip
                            refine lv_iconst (v := 0) hx hb dX14_job_172 (by decide) ?_
                            refine lv_goto (tgt := 209) hx hb dX14_job_173 (by decide) ?_
                            refine lv_istore (lv' := [(11, .int 0), (6, .long x40), (10, .int 16), (9, .int (nI (100 * j9 + p9))), (0, .ref o), (4, .int (nI j9)), (5, .int (nI m9)), (8, .int (nI p9))]) hx hb dX14_job_209 hl (by decide) rfl (fun ls hl => ?_)
                            refine lv_iload hx hb dX14_job_211 (lv_at hl 2 rfl) ?_
                            refine lv_bipush (v := 15) hx hb dX14_job_213 (by decide) ?_
                            refine lv_icmp_eq (tgt := 232) hx hb dX14_job_215 (by decide) (fun c_215 => ?_) (fun c_215 => ?_)
                            · skip
                              exact absurd c_215 (by decide)
                            · skip
                              refine lv_iload hx hb dX14_job_218 (lv_at hl 2 rfl) ?_
                              refine lv_bipush (v := 16) hx hb dX14_job_220 (by decide) ?_
                              refine lv_icmp_eq (tgt := 232) hx hb dX14_job_222 (by decide) (fun c_222 => ?_) (fun c_222 => ?_)
                              · skip
                                refine lv_iconst (v := 1) hx hb dX14_job_232 (by decide) ?_
                                refine lv_goto (tgt := 237) hx hb dX14_job_233 (by decide) ?_
                                refine lv_istore (lv' := [(12, .int 1), (11, .int 0), (6, .long x40), (10, .int 16), (9, .int (nI (100 * j9 + p9))), (0, .ref o), (4, .int (nI j9)), (5, .int (nI m9)), (8, .int (nI p9))]) hx hb dX14_job_237 hl (by decide) rfl (fun ls hl => ?_)
                                refine lv_iload hx hb dX14_job_239 (lv_at hl 7 rfl) ?_
                                refine lv_iload hx hb dX14_job_241 (lv_at hl 1 rfl) ?_
                                refine lv_icmp_lt (tgt := 258) hx hb dX14_job_243 (by decide) (fun c_243 => ?_) (fun c_243 => ?_)
                                · skip
                                  refine lv_bipush (v := (-3)) hx hb dX14_job_258 (by decide) ?_
                                  exact W.iret (v := (-3)) hx hb hr (fun t ht hW => ⟨⟨_, _, rfl, ⟨Ij, Fj, Lj, hM, hF, hIo, h38j, ⟨sz, hsz64, h68j⟩, hFo, hLo⟩, mk_end hG ht⟩, hS.F ht⟩) hS.2.2 dX14_job_260
                                · skip
                                  refine lv_iload hx hb dX14_job_246 (lv_at hl 0 rfl) ?_
                                  refine lv_if_eq (tgt := 261) hx hb dX14_job_248 (by decide) (fun c_248 => ?_) (fun c_248 => ?_)
                                  · skip
                                    exact absurd c_248 (by decide)
                                  · skip
                                    refine lv_iload hx hb dX14_job_251 (lv_at hl 7 rfl) ?_
                                    refine lv_bipush (v := 16) hx hb dX14_job_253 (by decide) ?_
                                    refine lv_icmp_ne (tgt := 261) hx hb dX14_job_255 (by decide) (fun c_255 => ?_) (fun c_255 => ?_)
                                    · skip
                                      have hm16 : m9 < 16 := by have y : m9 ≠ 16 := fun z => c_255 (by rw [z]; rfl); omega
                                      refine lv_iload hx hb dX14_job_261 (lv_at hl 7 rfl) ?_
                                      refine lv_if_le (tgt := 278) hx hb dX14_job_263 (by decide) (fun c_263 => ?_) (fun c_263 => ?_)
                                      · skip
                                        refine lv_lconst (v := 0) hx hb dX14_job_278 (by decide) ?_
                                        refine lv_lstore (lv' := [(13, .long 0), (12, .int 1), (11, .int 0), (6, .long x40), (10, .int 16), (9, .int (nI (100 * j9 + p9))), (0, .ref o), (4, .int (nI j9)), (5, .int (nI m9)), (8, .int (nI p9))]) hx hb dX14_job_279 hl (by decide) rfl (fun ls hl => ?_)
                                        refine lv_iload hx hb dX14_job_281 (lv_at hl 8 rfl) ?_
                                        refine lv_iconst (v := 1) hx hb dX14_job_283 (by decide) ?_
                                        refine lv_icmp_le (tgt := 299) hx hb dX14_job_284 (by decide) (fun c_284 => ?_) (fun c_284 => ?_)
                                        · skip
                                          refine lv_lconst (v := 0) hx hb dX14_job_299 (by decide) ?_
                                          refine lv_lstore (lv' := [(15, .long 0), (13, .long 0), (12, .int 1), (11, .int 0), (6, .long x40), (10, .int 16), (9, .int (nI (100 * j9 + p9))), (0, .ref o), (4, .int (nI j9)), (5, .int (nI m9)), (8, .int (nI p9))]) hx hb dX14_job_300 hl (by decide) rfl (fun ls hl => ?_)
                                          obtain ⟨x41, ex41⟩ : ∃ y : Int32, y = (nI p9) + 1 := ⟨_, rfl⟩
                                          refine lv_iinc (v := x41) (lv' := [(8, .int x41), (15, .long 0), (13, .long 0), (12, .int 1), (11, .int 0), (6, .long x40), (10, .int 16), (9, .int (nI (100 * j9 + p9))), (0, .ref o), (4, .int (nI j9)), (5, .int (nI m9))]) hx hb dX14_job_302 hl (k := 10) rfl (by rw [ex41]; rfl) (by decide) rfl (fun ls hl => ?_)
                                          refine lv_iload hx hb dX14_job_305 (lv_at hl 6 rfl) ?_
                                          refine lv_tableIn (tgt := 390) hx hb dX14_job_307 (by decide) (by decide) (off := 83) rfl (by decide) ?_
                                          refine lv_aload_n hx hb dX14_job_390 rfl (lv_at hl 8 rfl) ?_
                                          refine mm_get (v := .ref (Ar 75)) hx hb hf_X14 (fun _ h9 => h9) hown hK hG hM.1 rfl 75 (by decide) (tb_use hT tw_1466) (fun _ h9 => h9) rfl dX14_job_391 ?_
                                          refine lv_iload hx hb dX14_job_394 (lv_at hl 10 rfl) ?_
                                          refine lv_aload_n hx hb dX14_job_396 rfl (lv_at hl 8 rfl) ?_
                                          refine lv_iload hx hb dX14_job_397 (lv_at hl 7 rfl) ?_
                                          obtain ⟨s9, i9, hs0, hi0⟩ := hVL.ge hnO hj9 hp9 hkd
                                          refine va_calll (va_runV (As := [.int (nI (100 * j9 + p9))]) (rest := [.int (nI m9), .ref (Ar 75)]) ⟨hx, hb, hml, hown, (fun _ h9 => absurd h9 List.not_mem_nil : ∀ w ∈ ([] : List Cond), w.before _ s = true)⟩ (c_M_floor l D cy A X hst hXT Gv o Ar Ij Fj Lj ft en b9 n9 v9 s9 i9 j9 p9 ln f9 P0 hM hBj hVL hn30 hb9 (by exact hbj) hWd hCB (by exact h66j) hln (fun i hi => by rw [hFo 65 (by decide)]; exact hoc i hi) (by omega) (by omega) (hop.2.2.1 hkd) hs0 hi0) (tb_cw (C := RX14) 1 hT tw_1874 tw_109 tw_1871 tw_1873 tw_100 rfl rfl (by decide +kernel) ⟨Nat.le_of_ble_eq_true rfl, Nat.le_of_ble_eq_true rfl⟩) (mk_preV hst hG hK hA hX hS (ci := 15) rfl hM.1) rfl rfl hl.1 rfl (lv_room (Nat.le_of_ble_eq_true rfl)) dX14_job_399 ⟨Nat.le_of_ble_eq_true rfl, Nat.le_of_ble_eq_true rfl⟩) hS (fun q _ h => h) (fun q h => h) (fun r42 G43 t H1 locs ht hvm hw hB hz1 hk1 hS => ?_)
                                          have hG : mm D vwCl A G43 H1 := by rw [← ht]; exact hB
                                          clear hB hz1 hk1 hvm ht
                                          generalize H1 = H at hG hS ⊢
                                          obtain ⟨er42, F9, L9, hM2, hF2, hf9, hL9⟩ := hw
                                          replace hF := hF.tr hF2; replace hM := hM2; clear hM2 hF2
                                          have hFo9 : ∀ j, ¬ (j = 67 ∨ (71 ≤ j ∧ j ≤ 73)) → F9 j = F j := fun j hj => by rw [hf9 j (by omega)]; exact hFo j hj
                                          have hLo9 : ∀ j, ¬ (j = 74 ∨ j = 75) → L9 j = L j := fun j hj => by rw [hL9 j (by omega)]; exact hLo j hj
                                          refine mm_last (n := mdN 75) (f := L9 75) hx hb hK hG hS 2 (hM.2.2.1 75 rfl) rfl (nI_in (N := mdN 75) (by show _ < 16; omega) (by decide)) dX14_job_402 (fun H locs hG hS => ?_)
                                          have hM := MD.setj (k := 75) (vp_updL (L9 75) (nI m9).toNatClampNeg r42) hM rfl
                                          have hF := hF.wa (k := 75) (e' := .inl (cy 2, mdN 75, .inr (.inl (vp_updL (L9 75) (nI m9).toNatClampNeg r42)))) rfl
                                          obtain ⟨L44, eL44⟩ : ∃ g, g = va_up L9 75 (vp_updL (L9 75) (nI m9).toNatClampNeg r42) := ⟨_, rfl⟩
                                          rw [← eL44] at hM
                                          generalize mm_set _ _ _ = G45 at hG hM hF
                                          obtain ⟨x46, ex46⟩ : ∃ y : Int32, y = (nI m9) + 1 := ⟨_, rfl⟩
                                          refine lv_iinc (v := x46) (lv' := [(5, .int x46), (8, .int x41), (15, .long 0), (13, .long 0), (12, .int 1), (11, .int 0), (6, .long x40), (10, .int 16), (9, .int (nI (100 * j9 + p9))), (0, .ref o), (4, .int (nI j9))]) hx hb dX14_job_403 hl (k := 10) rfl (by rw [ex46]; rfl) (by decide) rfl (fun ls hl => ?_)
                                          refine lv_goto (tgt := 582) hx hb dX14_job_406 (by decide) ?_
                                          refine lv_goto (tgt := 68) hx hb dX14_job_582 (by decide) ?_
                                          rw [show x41 = nI (p9 + 1) by rw [ex41]; exact (nI_succ p9).symm] at hl
                                          rw [show x46 = nI (m9 + 1) by rw [ex46]; exact (nI_succ m9).symm] at hl
                                          rw [ex40] at hl
                                          have hmu2 : 2 * lf + agN v9 j9 (p9 + 1) < n := by have y := @agN_le v9 j9 (p9 + 1); omega
                                          exact ih (p9 + 1) (m9 + 1) lf sz Ij F9 L44 hmu2 (by omega) (by omega) hIo h38j hbj h66j h68j hsz64 hFo9 (fun j hj => by rw [eL44, va_up_ne _ _ (by omega)]; exact hLo9 j hj) G45 hM hF _ _ hG hS ls (lv_sub hl [9, 10, 0, 6, 1] rfl)
                                        · skip
                                          have hm2 : 1 < m9 := Nat.lt_of_not_le (fun y => c_284 (nI_le (b := 1) y (by decide)))
                                          refine lv_aload_n hx hb dX14_job_287 rfl (lv_at hl 6 rfl) ?_
                                          refine mm_get (v := .ref (Ar 75)) hx hb hf_X14 (fun _ h9 => h9) hown hK hG hM.1 rfl 75 (by decide) (tb_use hT tw_1466) (fun _ h9 => h9) rfl dX14_job_288 ?_
                                          refine lv_iload hx hb dX14_job_291 (lv_at hl 8 rfl) ?_
                                          refine lv_iconst (v := 2) hx hb dX14_job_293 (by decide) ?_
                                          refine lv_isub hx hb dX14_job_294 ?_
                                          rw [show ((nI m9) - 2) = nI (m9 - 2) from nI_sb (a := 2) (b := m9) (by omega)]
                                          refine mm_lald (n := 16) (f := Lj 75) hx hb hK hG 2 (hM.2.2.1 75 rfl) rfl (nI_in (N := 16) (by omega) (by decide)) dX14_job_295 ?_
                                          refine lv_topl (fun x47 ex47 => ?_)
                                          refine lv_goto (tgt := 300) hx hb dX14_job_296 (by decide) ?_
                                          refine lv_lstore (lv' := [(15, .long x47), (13, .long 0), (12, .int 1), (11, .int 0), (6, .long x40), (10, .int 16), (9, .int (nI (100 * j9 + p9))), (0, .ref o), (4, .int (nI j9)), (5, .int (nI m9)), (8, .int (nI p9))]) hx hb dX14_job_300 hl (by decide) rfl (fun ls hl => ?_)
                                          obtain ⟨x48, ex48⟩ : ∃ y : Int32, y = (nI p9) + 1 := ⟨_, rfl⟩
                                          refine lv_iinc (v := x48) (lv' := [(8, .int x48), (15, .long x47), (13, .long 0), (12, .int 1), (11, .int 0), (6, .long x40), (10, .int 16), (9, .int (nI (100 * j9 + p9))), (0, .ref o), (4, .int (nI j9)), (5, .int (nI m9))]) hx hb dX14_job_302 hl (k := 10) rfl (by rw [ex48]; rfl) (by decide) rfl (fun ls hl => ?_)
                                          refine lv_iload hx hb dX14_job_305 (lv_at hl 6 rfl) ?_
                                          refine lv_tableIn (tgt := 390) hx hb dX14_job_307 (by decide) (by decide) (off := 83) rfl (by decide) ?_
                                          refine lv_aload_n hx hb dX14_job_390 rfl (lv_at hl 8 rfl) ?_
                                          refine mm_get (v := .ref (Ar 75)) hx hb hf_X14 (fun _ h9 => h9) hown hK hG hM.1 rfl 75 (by decide) (tb_use hT tw_1466) (fun _ h9 => h9) rfl dX14_job_391 ?_
                                          refine lv_iload hx hb dX14_job_394 (lv_at hl 10 rfl) ?_
                                          refine lv_aload_n hx hb dX14_job_396 rfl (lv_at hl 8 rfl) ?_
                                          refine lv_iload hx hb dX14_job_397 (lv_at hl 7 rfl) ?_
                                          obtain ⟨s9, i9, hs0, hi0⟩ := hVL.ge hnO hj9 hp9 hkd
                                          refine va_calll (va_runV (As := [.int (nI (100 * j9 + p9))]) (rest := [.int (nI m9), .ref (Ar 75)]) ⟨hx, hb, hml, hown, (fun _ h9 => absurd h9 List.not_mem_nil : ∀ w ∈ ([] : List Cond), w.before _ s = true)⟩ (c_M_floor l D cy A X hst hXT Gv o Ar Ij Fj Lj ft en b9 n9 v9 s9 i9 j9 p9 ln f9 P0 hM hBj hVL hn30 hb9 (by exact hbj) hWd hCB (by exact h66j) hln (fun i hi => by rw [hFo 65 (by decide)]; exact hoc i hi) (by omega) (by omega) (hop.2.2.1 hkd) hs0 hi0) (tb_cw (C := RX14) 1 hT tw_1874 tw_109 tw_1871 tw_1873 tw_100 rfl rfl (by decide +kernel) ⟨Nat.le_of_ble_eq_true rfl, Nat.le_of_ble_eq_true rfl⟩) (mk_preV hst hG hK hA hX hS (ci := 15) rfl hM.1) rfl rfl hl.1 rfl (lv_room (Nat.le_of_ble_eq_true rfl)) dX14_job_399 ⟨Nat.le_of_ble_eq_true rfl, Nat.le_of_ble_eq_true rfl⟩) hS (fun q _ h => h) (fun q h => h) (fun r49 G50 t H1 locs ht hvm hw hB hz1 hk1 hS => ?_)
                                          have hG : mm D vwCl A G50 H1 := by rw [← ht]; exact hB
                                          clear hB hz1 hk1 hvm ht
                                          generalize H1 = H at hG hS ⊢
                                          obtain ⟨er49, F9, L9, hM2, hF2, hf9, hL9⟩ := hw
                                          replace hF := hF.tr hF2; replace hM := hM2; clear hM2 hF2
                                          have hFo9 : ∀ j, ¬ (j = 67 ∨ (71 ≤ j ∧ j ≤ 73)) → F9 j = F j := fun j hj => by rw [hf9 j (by omega)]; exact hFo j hj
                                          have hLo9 : ∀ j, ¬ (j = 74 ∨ j = 75) → L9 j = L j := fun j hj => by rw [hL9 j (by omega)]; exact hLo j hj
                                          refine mm_last (n := mdN 75) (f := L9 75) hx hb hK hG hS 2 (hM.2.2.1 75 rfl) rfl (nI_in (N := mdN 75) (by show _ < 16; omega) (by decide)) dX14_job_402 (fun H locs hG hS => ?_)
                                          have hM := MD.setj (k := 75) (vp_updL (L9 75) (nI m9).toNatClampNeg r49) hM rfl
                                          have hF := hF.wa (k := 75) (e' := .inl (cy 2, mdN 75, .inr (.inl (vp_updL (L9 75) (nI m9).toNatClampNeg r49)))) rfl
                                          obtain ⟨L51, eL51⟩ : ∃ g, g = va_up L9 75 (vp_updL (L9 75) (nI m9).toNatClampNeg r49) := ⟨_, rfl⟩
                                          rw [← eL51] at hM
                                          generalize mm_set _ _ _ = G52 at hG hM hF
                                          obtain ⟨x53, ex53⟩ : ∃ y : Int32, y = (nI m9) + 1 := ⟨_, rfl⟩
                                          refine lv_iinc (v := x53) (lv' := [(5, .int x53), (8, .int x48), (15, .long x47), (13, .long 0), (12, .int 1), (11, .int 0), (6, .long x40), (10, .int 16), (9, .int (nI (100 * j9 + p9))), (0, .ref o), (4, .int (nI j9))]) hx hb dX14_job_403 hl (k := 10) rfl (by rw [ex53]; rfl) (by decide) rfl (fun ls hl => ?_)
                                          refine lv_goto (tgt := 582) hx hb dX14_job_406 (by decide) ?_
                                          refine lv_goto (tgt := 68) hx hb dX14_job_582 (by decide) ?_
                                          rw [show x48 = nI (p9 + 1) by rw [ex48]; exact (nI_succ p9).symm] at hl
                                          rw [show x53 = nI (m9 + 1) by rw [ex53]; exact (nI_succ m9).symm] at hl
                                          rw [ex40] at hl
                                          have hmu2 : 2 * lf + agN v9 j9 (p9 + 1) < n := by have y := @agN_le v9 j9 (p9 + 1); omega
                                          exact ih (p9 + 1) (m9 + 1) lf sz Ij F9 L51 hmu2 (by omega) (by omega) hIo h38j hbj h66j h68j hsz64 hFo9 (fun j hj => by rw [eL51, va_up_ne _ _ (by omega)]; exact hLo9 j hj) G52 hM hF _ _ hG hS ls (lv_sub hl [9, 10, 0, 6, 1] rfl)
                                      · skip
                                        have hm1 : 0 < m9 := Nat.pos_of_ne_zero (fun y => c_263 (by rw [y]; exact Int32.le_refl 0))
                                        refine lv_aload_n hx hb dX14_job_266 rfl (lv_at hl 5 rfl) ?_
                                        refine mm_get (v := .ref (Ar 75)) hx hb hf_X14 (fun _ h9 => h9) hown hK hG hM.1 rfl 75 (by decide) (tb_use hT tw_1466) (fun _ h9 => h9) rfl dX14_job_267 ?_
                                        refine lv_iload hx hb dX14_job_270 (lv_at hl 7 rfl) ?_
                                        refine lv_iconst (v := 1) hx hb dX14_job_272 (by decide) ?_
                                        refine lv_isub hx hb dX14_job_273 ?_
                                        rw [show ((nI m9) - 1) = nI (m9 - 1) from nI_sb (a := 1) (b := m9) (by omega)]
                                        refine mm_lald (n := 16) (f := Lj 75) hx hb hK hG 2 (hM.2.2.1 75 rfl) rfl (nI_in (N := 16) (by omega) (by decide)) dX14_job_274 ?_
                                        refine lv_topl (fun x54 ex54 => ?_)
                                        refine lv_goto (tgt := 279) hx hb dX14_job_275 (by decide) ?_
                                        refine lv_lstore (lv' := [(13, .long x54), (12, .int 1), (11, .int 0), (6, .long x40), (10, .int 16), (9, .int (nI (100 * j9 + p9))), (0, .ref o), (4, .int (nI j9)), (5, .int (nI m9)), (8, .int (nI p9))]) hx hb dX14_job_279 hl (by decide) rfl (fun ls hl => ?_)
                                        refine lv_iload hx hb dX14_job_281 (lv_at hl 8 rfl) ?_
                                        refine lv_iconst (v := 1) hx hb dX14_job_283 (by decide) ?_
                                        refine lv_icmp_le (tgt := 299) hx hb dX14_job_284 (by decide) (fun c_284 => ?_) (fun c_284 => ?_)
                                        · skip
                                          refine lv_lconst (v := 0) hx hb dX14_job_299 (by decide) ?_
                                          refine lv_lstore (lv' := [(15, .long 0), (13, .long x54), (12, .int 1), (11, .int 0), (6, .long x40), (10, .int 16), (9, .int (nI (100 * j9 + p9))), (0, .ref o), (4, .int (nI j9)), (5, .int (nI m9)), (8, .int (nI p9))]) hx hb dX14_job_300 hl (by decide) rfl (fun ls hl => ?_)
                                          obtain ⟨x55, ex55⟩ : ∃ y : Int32, y = (nI p9) + 1 := ⟨_, rfl⟩
                                          refine lv_iinc (v := x55) (lv' := [(8, .int x55), (15, .long 0), (13, .long x54), (12, .int 1), (11, .int 0), (6, .long x40), (10, .int 16), (9, .int (nI (100 * j9 + p9))), (0, .ref o), (4, .int (nI j9)), (5, .int (nI m9))]) hx hb dX14_job_302 hl (k := 10) rfl (by rw [ex55]; rfl) (by decide) rfl (fun ls hl => ?_)
                                          refine lv_iload hx hb dX14_job_305 (lv_at hl 6 rfl) ?_
                                          refine lv_tableIn (tgt := 390) hx hb dX14_job_307 (by decide) (by decide) (off := 83) rfl (by decide) ?_
                                          refine lv_aload_n hx hb dX14_job_390 rfl (lv_at hl 8 rfl) ?_
                                          refine mm_get (v := .ref (Ar 75)) hx hb hf_X14 (fun _ h9 => h9) hown hK hG hM.1 rfl 75 (by decide) (tb_use hT tw_1466) (fun _ h9 => h9) rfl dX14_job_391 ?_
                                          refine lv_iload hx hb dX14_job_394 (lv_at hl 10 rfl) ?_
                                          refine lv_aload_n hx hb dX14_job_396 rfl (lv_at hl 8 rfl) ?_
                                          refine lv_iload hx hb dX14_job_397 (lv_at hl 7 rfl) ?_
                                          obtain ⟨s9, i9, hs0, hi0⟩ := hVL.ge hnO hj9 hp9 hkd
                                          refine va_calll (va_runV (As := [.int (nI (100 * j9 + p9))]) (rest := [.int (nI m9), .ref (Ar 75)]) ⟨hx, hb, hml, hown, (fun _ h9 => absurd h9 List.not_mem_nil : ∀ w ∈ ([] : List Cond), w.before _ s = true)⟩ (c_M_floor l D cy A X hst hXT Gv o Ar Ij Fj Lj ft en b9 n9 v9 s9 i9 j9 p9 ln f9 P0 hM hBj hVL hn30 hb9 (by exact hbj) hWd hCB (by exact h66j) hln (fun i hi => by rw [hFo 65 (by decide)]; exact hoc i hi) (by omega) (by omega) (hop.2.2.1 hkd) hs0 hi0) (tb_cw (C := RX14) 1 hT tw_1874 tw_109 tw_1871 tw_1873 tw_100 rfl rfl (by decide +kernel) ⟨Nat.le_of_ble_eq_true rfl, Nat.le_of_ble_eq_true rfl⟩) (mk_preV hst hG hK hA hX hS (ci := 15) rfl hM.1) rfl rfl hl.1 rfl (lv_room (Nat.le_of_ble_eq_true rfl)) dX14_job_399 ⟨Nat.le_of_ble_eq_true rfl, Nat.le_of_ble_eq_true rfl⟩) hS (fun q _ h => h) (fun q h => h) (fun r56 G57 t H1 locs ht hvm hw hB hz1 hk1 hS => ?_)
                                          have hG : mm D vwCl A G57 H1 := by rw [← ht]; exact hB
                                          clear hB hz1 hk1 hvm ht
                                          generalize H1 = H at hG hS ⊢
                                          obtain ⟨er56, F9, L9, hM2, hF2, hf9, hL9⟩ := hw
                                          replace hF := hF.tr hF2; replace hM := hM2; clear hM2 hF2
                                          have hFo9 : ∀ j, ¬ (j = 67 ∨ (71 ≤ j ∧ j ≤ 73)) → F9 j = F j := fun j hj => by rw [hf9 j (by omega)]; exact hFo j hj
                                          have hLo9 : ∀ j, ¬ (j = 74 ∨ j = 75) → L9 j = L j := fun j hj => by rw [hL9 j (by omega)]; exact hLo j hj
                                          refine mm_last (n := mdN 75) (f := L9 75) hx hb hK hG hS 2 (hM.2.2.1 75 rfl) rfl (nI_in (N := mdN 75) (by show _ < 16; omega) (by decide)) dX14_job_402 (fun H locs hG hS => ?_)
                                          have hM := MD.setj (k := 75) (vp_updL (L9 75) (nI m9).toNatClampNeg r56) hM rfl
                                          have hF := hF.wa (k := 75) (e' := .inl (cy 2, mdN 75, .inr (.inl (vp_updL (L9 75) (nI m9).toNatClampNeg r56)))) rfl
                                          obtain ⟨L58, eL58⟩ : ∃ g, g = va_up L9 75 (vp_updL (L9 75) (nI m9).toNatClampNeg r56) := ⟨_, rfl⟩
                                          rw [← eL58] at hM
                                          generalize mm_set _ _ _ = G59 at hG hM hF
                                          obtain ⟨x60, ex60⟩ : ∃ y : Int32, y = (nI m9) + 1 := ⟨_, rfl⟩
                                          refine lv_iinc (v := x60) (lv' := [(5, .int x60), (8, .int x55), (15, .long 0), (13, .long x54), (12, .int 1), (11, .int 0), (6, .long x40), (10, .int 16), (9, .int (nI (100 * j9 + p9))), (0, .ref o), (4, .int (nI j9))]) hx hb dX14_job_403 hl (k := 10) rfl (by rw [ex60]; rfl) (by decide) rfl (fun ls hl => ?_)
                                          refine lv_goto (tgt := 582) hx hb dX14_job_406 (by decide) ?_
                                          refine lv_goto (tgt := 68) hx hb dX14_job_582 (by decide) ?_
                                          rw [show x55 = nI (p9 + 1) by rw [ex55]; exact (nI_succ p9).symm] at hl
                                          rw [show x60 = nI (m9 + 1) by rw [ex60]; exact (nI_succ m9).symm] at hl
                                          rw [ex40] at hl
                                          have hmu2 : 2 * lf + agN v9 j9 (p9 + 1) < n := by have y := @agN_le v9 j9 (p9 + 1); omega
                                          exact ih (p9 + 1) (m9 + 1) lf sz Ij F9 L58 hmu2 (by omega) (by omega) hIo h38j hbj h66j h68j hsz64 hFo9 (fun j hj => by rw [eL58, va_up_ne _ _ (by omega)]; exact hLo9 j hj) G59 hM hF _ _ hG hS ls (lv_sub hl [9, 10, 0, 6, 1] rfl)
                                        · skip
                                          have hm2 : 1 < m9 := Nat.lt_of_not_le (fun y => c_284 (nI_le (b := 1) y (by decide)))
                                          refine lv_aload_n hx hb dX14_job_287 rfl (lv_at hl 6 rfl) ?_
                                          refine mm_get (v := .ref (Ar 75)) hx hb hf_X14 (fun _ h9 => h9) hown hK hG hM.1 rfl 75 (by decide) (tb_use hT tw_1466) (fun _ h9 => h9) rfl dX14_job_288 ?_
                                          refine lv_iload hx hb dX14_job_291 (lv_at hl 8 rfl) ?_
                                          refine lv_iconst (v := 2) hx hb dX14_job_293 (by decide) ?_
                                          refine lv_isub hx hb dX14_job_294 ?_
                                          rw [show ((nI m9) - 2) = nI (m9 - 2) from nI_sb (a := 2) (b := m9) (by omega)]
                                          refine mm_lald (n := 16) (f := Lj 75) hx hb hK hG 2 (hM.2.2.1 75 rfl) rfl (nI_in (N := 16) (by omega) (by decide)) dX14_job_295 ?_
                                          refine lv_topl (fun x61 ex61 => ?_)
                                          refine lv_goto (tgt := 300) hx hb dX14_job_296 (by decide) ?_
                                          refine lv_lstore (lv' := [(15, .long x61), (13, .long x54), (12, .int 1), (11, .int 0), (6, .long x40), (10, .int 16), (9, .int (nI (100 * j9 + p9))), (0, .ref o), (4, .int (nI j9)), (5, .int (nI m9)), (8, .int (nI p9))]) hx hb dX14_job_300 hl (by decide) rfl (fun ls hl => ?_)
                                          obtain ⟨x62, ex62⟩ : ∃ y : Int32, y = (nI p9) + 1 := ⟨_, rfl⟩
                                          refine lv_iinc (v := x62) (lv' := [(8, .int x62), (15, .long x61), (13, .long x54), (12, .int 1), (11, .int 0), (6, .long x40), (10, .int 16), (9, .int (nI (100 * j9 + p9))), (0, .ref o), (4, .int (nI j9)), (5, .int (nI m9))]) hx hb dX14_job_302 hl (k := 10) rfl (by rw [ex62]; rfl) (by decide) rfl (fun ls hl => ?_)
                                          refine lv_iload hx hb dX14_job_305 (lv_at hl 6 rfl) ?_
                                          refine lv_tableIn (tgt := 390) hx hb dX14_job_307 (by decide) (by decide) (off := 83) rfl (by decide) ?_
                                          refine lv_aload_n hx hb dX14_job_390 rfl (lv_at hl 8 rfl) ?_
                                          refine mm_get (v := .ref (Ar 75)) hx hb hf_X14 (fun _ h9 => h9) hown hK hG hM.1 rfl 75 (by decide) (tb_use hT tw_1466) (fun _ h9 => h9) rfl dX14_job_391 ?_
                                          refine lv_iload hx hb dX14_job_394 (lv_at hl 10 rfl) ?_
                                          refine lv_aload_n hx hb dX14_job_396 rfl (lv_at hl 8 rfl) ?_
                                          refine lv_iload hx hb dX14_job_397 (lv_at hl 7 rfl) ?_
                                          obtain ⟨s9, i9, hs0, hi0⟩ := hVL.ge hnO hj9 hp9 hkd
                                          refine va_calll (va_runV (As := [.int (nI (100 * j9 + p9))]) (rest := [.int (nI m9), .ref (Ar 75)]) ⟨hx, hb, hml, hown, (fun _ h9 => absurd h9 List.not_mem_nil : ∀ w ∈ ([] : List Cond), w.before _ s = true)⟩ (c_M_floor l D cy A X hst hXT Gv o Ar Ij Fj Lj ft en b9 n9 v9 s9 i9 j9 p9 ln f9 P0 hM hBj hVL hn30 hb9 (by exact hbj) hWd hCB (by exact h66j) hln (fun i hi => by rw [hFo 65 (by decide)]; exact hoc i hi) (by omega) (by omega) (hop.2.2.1 hkd) hs0 hi0) (tb_cw (C := RX14) 1 hT tw_1874 tw_109 tw_1871 tw_1873 tw_100 rfl rfl (by decide +kernel) ⟨Nat.le_of_ble_eq_true rfl, Nat.le_of_ble_eq_true rfl⟩) (mk_preV hst hG hK hA hX hS (ci := 15) rfl hM.1) rfl rfl hl.1 rfl (lv_room (Nat.le_of_ble_eq_true rfl)) dX14_job_399 ⟨Nat.le_of_ble_eq_true rfl, Nat.le_of_ble_eq_true rfl⟩) hS (fun q _ h => h) (fun q h => h) (fun r63 G64 t H1 locs ht hvm hw hB hz1 hk1 hS => ?_)
                                          have hG : mm D vwCl A G64 H1 := by rw [← ht]; exact hB
                                          clear hB hz1 hk1 hvm ht
                                          generalize H1 = H at hG hS ⊢
                                          obtain ⟨er63, F9, L9, hM2, hF2, hf9, hL9⟩ := hw
                                          replace hF := hF.tr hF2; replace hM := hM2; clear hM2 hF2
                                          have hFo9 : ∀ j, ¬ (j = 67 ∨ (71 ≤ j ∧ j ≤ 73)) → F9 j = F j := fun j hj => by rw [hf9 j (by omega)]; exact hFo j hj
                                          have hLo9 : ∀ j, ¬ (j = 74 ∨ j = 75) → L9 j = L j := fun j hj => by rw [hL9 j (by omega)]; exact hLo j hj
                                          refine mm_last (n := mdN 75) (f := L9 75) hx hb hK hG hS 2 (hM.2.2.1 75 rfl) rfl (nI_in (N := mdN 75) (by show _ < 16; omega) (by decide)) dX14_job_402 (fun H locs hG hS => ?_)
                                          have hM := MD.setj (k := 75) (vp_updL (L9 75) (nI m9).toNatClampNeg r63) hM rfl
                                          have hF := hF.wa (k := 75) (e' := .inl (cy 2, mdN 75, .inr (.inl (vp_updL (L9 75) (nI m9).toNatClampNeg r63)))) rfl
                                          obtain ⟨L65, eL65⟩ : ∃ g, g = va_up L9 75 (vp_updL (L9 75) (nI m9).toNatClampNeg r63) := ⟨_, rfl⟩
                                          rw [← eL65] at hM
                                          generalize mm_set _ _ _ = G66 at hG hM hF
                                          obtain ⟨x67, ex67⟩ : ∃ y : Int32, y = (nI m9) + 1 := ⟨_, rfl⟩
                                          refine lv_iinc (v := x67) (lv' := [(5, .int x67), (8, .int x62), (15, .long x61), (13, .long x54), (12, .int 1), (11, .int 0), (6, .long x40), (10, .int 16), (9, .int (nI (100 * j9 + p9))), (0, .ref o), (4, .int (nI j9))]) hx hb dX14_job_403 hl (k := 10) rfl (by rw [ex67]; rfl) (by decide) rfl (fun ls hl => ?_)
                                          refine lv_goto (tgt := 582) hx hb dX14_job_406 (by decide) ?_
                                          refine lv_goto (tgt := 68) hx hb dX14_job_582 (by decide) ?_
                                          rw [show x62 = nI (p9 + 1) by rw [ex62]; exact (nI_succ p9).symm] at hl
                                          rw [show x67 = nI (m9 + 1) by rw [ex67]; exact (nI_succ m9).symm] at hl
                                          rw [ex40] at hl
                                          have hmu2 : 2 * lf + agN v9 j9 (p9 + 1) < n := by have y := @agN_le v9 j9 (p9 + 1); omega
                                          exact ih (p9 + 1) (m9 + 1) lf sz Ij F9 L65 hmu2 (by omega) (by omega) hIo h38j hbj h66j h68j hsz64 hFo9 (fun j hj => by rw [eL65, va_up_ne _ _ (by omega)]; exact hLo9 j hj) G66 hM hF _ _ hG hS ls (lv_sub hl [9, 10, 0, 6, 1] rfl)
                                    · skip
                                      refine lv_bipush (v := (-3)) hx hb dX14_job_258 (by decide) ?_
                                      exact W.iret (v := (-3)) hx hb hr (fun t ht hW => ⟨⟨_, _, rfl, ⟨Ij, Fj, Lj, hM, hF, hIo, h38j, ⟨sz, hsz64, h68j⟩, hFo, hLo⟩, mk_end hG ht⟩, hS.F ht⟩) hS.2.2 dX14_job_260
                              · skip
                                exact absurd (by decide) c_222
                      · skip
                        refine lv_iconst (v := 0) hx hb dX14_job_150 (by decide) ?_
                        exact W.iret (v := 0) hx hb hr (fun t ht hW => ⟨⟨_, _, rfl, ⟨Ij, Fj, Lj, hM, hF, hIo, h38j, ⟨sz, hsz64, h68j⟩, hFo, hLo⟩, mk_end hG ht⟩, hS.F ht⟩) hS.2.2 dX14_job_151
                    · skip
                      exact absurd c_119 (by decide)
                  · skip
                    replace hkd := hkde.trans hkd
                    rw [show x9 = 17 by rw [hx35, hkd]; rfl] at hl
                    refine lv_iload hx hb dX14_job_115 (lv_at hl 0 rfl) ?_
                    refine lv_bipush (v := 25) hx hb dX14_job_117 (by decide) ?_
                    refine lv_icmp_ne (tgt := 143) hx hb dX14_job_119 (by decide) (fun c_119 => ?_) (fun c_119 => ?_)
                    · skip
                      refine lv_lload hx hb dX14_job_143 (lv_at hl 5 rfl) ?_
                      refine lv_lconst (v := 0) hx hb dX14_job_145 (by decide) ?_
                      refine W.lcmp hx hb dX14_job_146 ?_
                      refine lv_if_ne (tgt := 152) hx hb dX14_job_147 (by decide) (fun c_147 => ?_) (fun c_147 => ?_)
                      · skip
                        obtain ⟨lf, hlf⟩ : ∃ y, lf9 = y + 1 := ⟨lf9 - 1, by have y : lf9 ≠ 0 := fun z => c_147 ((lg_cmp_eq _ _).mpr (by rw [z]; rfl)); omega⟩
                        rw [hlf] at hl hmu
                        refine lv_lload hx hb dX14_job_152 (lv_at hl 5 rfl) ?_
                        refine lv_lconst (v := 1) hx hb dX14_job_154 (by decide) ?_
                        refine lv_lsub hx hb dX14_job_155 ?_
                        rw [i64_dec (by omega)]
                        refine lv_topl (fun x69 ex69 => ?_)
                        refine lv_lstore (lv' := [(6, .long x69), (10, .int 17), (9, .int (nI (100 * j9 + p9))), (0, .ref o), (4, .int (nI j9)), (5, .int (nI m9)), (8, .int (nI p9))]) hx hb dX14_job_156 hl (by decide) rfl (fun ls hl => ?_)
                        refine lv_iload hx hb dX14_job_158 (lv_at hl 1 rfl) ?_
                        refine lv_bipush (v := 15) hx hb dX14_job_160 (by decide) ?_
                        refine lv_icmp_eq (tgt := 172) hx hb dX14_job_162 (by decide) (fun c_162 => ?_) (fun c_162 => ?_)
                        · skip
                          exact absurd c_162 (by decide)
                        · skip
                          refine lv_iload hx hb dX14_job_165 (lv_at hl 1 rfl) ?_
                          refine lv_bipush (v := 16) hx hb dX14_job_167 (by decide) ?_
                          refine lv_icmp_ne (tgt := 176) hx hb dX14_job_169 (by decide) (fun c_169 => ?_) (fun c_169 => ?_)
                          · skip
                            refine lv_iload hx hb dX14_job_176 (lv_at hl 1 rfl) ?_
                            refine lv_bipush (v := 17) hx hb dX14_job_178 (by decide) ?_
                            refine lv_icmp_eq (tgt := 204) hx hb dX14_job_180 (by decide) (fun c_180 => ?_) (fun c_180 => ?_)
                            · skip
                              refine lv_iconst (v := 2) hx hb dX14_job_204 (by decide) ?_
                              refine lv_goto (tgt := 209) hx hb dX14_job_205 (by decide) ?_
                              refine lv_istore (lv' := [(11, .int 2), (6, .long x69), (10, .int 17), (9, .int (nI (100 * j9 + p9))), (0, .ref o), (4, .int (nI j9)), (5, .int (nI m9)), (8, .int (nI p9))]) hx hb dX14_job_209 hl (by decide) rfl (fun ls hl => ?_)
                              refine lv_iload hx hb dX14_job_211 (lv_at hl 2 rfl) ?_
                              refine lv_bipush (v := 15) hx hb dX14_job_213 (by decide) ?_
                              refine lv_icmp_eq (tgt := 232) hx hb dX14_job_215 (by decide) (fun c_215 => ?_) (fun c_215 => ?_)
                              · skip
                                exact absurd c_215 (by decide)
                              · skip
                                refine lv_iload hx hb dX14_job_218 (lv_at hl 2 rfl) ?_
                                refine lv_bipush (v := 16) hx hb dX14_job_220 (by decide) ?_
                                refine lv_icmp_eq (tgt := 232) hx hb dX14_job_222 (by decide) (fun c_222 => ?_) (fun c_222 => ?_)
                                · skip
                                  exact absurd c_222 (by decide)
                                · skip
                                  refine lv_iload hx hb dX14_job_225 (lv_at hl 2 rfl) ?_
                                  refine lv_bipush (v := 20) hx hb dX14_job_227 (by decide) ?_
                                  refine lv_icmp_ne (tgt := 236) hx hb dX14_job_229 (by decide) (fun c_229 => ?_) (fun c_229 => ?_)
                                  · skip
                                    refine lv_iconst (v := 0) hx hb dX14_job_236 (by decide) ?_
                                    refine lv_istore (lv' := [(12, .int 0), (11, .int 2), (6, .long x69), (10, .int 17), (9, .int (nI (100 * j9 + p9))), (0, .ref o), (4, .int (nI j9)), (5, .int (nI m9)), (8, .int (nI p9))]) hx hb dX14_job_237 hl (by decide) rfl (fun ls hl => ?_)
                                    refine lv_iload hx hb dX14_job_239 (lv_at hl 7 rfl) ?_
                                    refine lv_iload hx hb dX14_job_241 (lv_at hl 1 rfl) ?_
                                    refine lv_icmp_lt (tgt := 258) hx hb dX14_job_243 (by decide) (fun c_243 => ?_) (fun c_243 => ?_)
                                    · skip
                                      refine lv_bipush (v := (-3)) hx hb dX14_job_258 (by decide) ?_
                                      exact W.iret (v := (-3)) hx hb hr (fun t ht hW => ⟨⟨_, _, rfl, ⟨Ij, Fj, Lj, hM, hF, hIo, h38j, ⟨sz, hsz64, h68j⟩, hFo, hLo⟩, mk_end hG ht⟩, hS.F ht⟩) hS.2.2 dX14_job_260
                                    · skip
                                      refine lv_iload hx hb dX14_job_246 (lv_at hl 0 rfl) ?_
                                      refine lv_if_eq (tgt := 261) hx hb dX14_job_248 (by decide) (fun c_248 => ?_) (fun c_248 => ?_)
                                      · skip
                                        have hmw : 2 ≤ m9 := Nat.le_of_not_lt (fun y => c_243 (nI_lt (b := 2) y (by decide)))
                                        refine lv_iload hx hb dX14_job_261 (lv_at hl 7 rfl) ?_
                                        refine lv_if_le (tgt := 278) hx hb dX14_job_263 (by decide) (fun c_263 => ?_) (fun c_263 => ?_)
                                        · skip
                                          refine lv_lconst (v := 0) hx hb dX14_job_278 (by decide) ?_
                                          refine lv_lstore (lv' := [(13, .long 0), (12, .int 0), (11, .int 2), (6, .long x69), (10, .int 17), (9, .int (nI (100 * j9 + p9))), (0, .ref o), (4, .int (nI j9)), (5, .int (nI m9)), (8, .int (nI p9))]) hx hb dX14_job_279 hl (by decide) rfl (fun ls hl => ?_)
                                          refine lv_iload hx hb dX14_job_281 (lv_at hl 8 rfl) ?_
                                          refine lv_iconst (v := 1) hx hb dX14_job_283 (by decide) ?_
                                          refine lv_icmp_le (tgt := 299) hx hb dX14_job_284 (by decide) (fun c_284 => ?_) (fun c_284 => ?_)
                                          · skip
                                            refine lv_lconst (v := 0) hx hb dX14_job_299 (by decide) ?_
                                            refine lv_lstore (lv' := [(15, .long 0), (13, .long 0), (12, .int 0), (11, .int 2), (6, .long x69), (10, .int 17), (9, .int (nI (100 * j9 + p9))), (0, .ref o), (4, .int (nI j9)), (5, .int (nI m9)), (8, .int (nI p9))]) hx hb dX14_job_300 hl (by decide) rfl (fun ls hl => ?_)
                                            obtain ⟨x70, ex70⟩ : ∃ y : Int32, y = (nI p9) + 1 := ⟨_, rfl⟩
                                            refine lv_iinc (v := x70) (lv' := [(8, .int x70), (15, .long 0), (13, .long 0), (12, .int 0), (11, .int 2), (6, .long x69), (10, .int 17), (9, .int (nI (100 * j9 + p9))), (0, .ref o), (4, .int (nI j9)), (5, .int (nI m9))]) hx hb dX14_job_302 hl (k := 10) rfl (by rw [ex70]; rfl) (by decide) rfl (fun ls hl => ?_)
                                            refine lv_iload hx hb dX14_job_305 (lv_at hl 6 rfl) ?_
                                            refine lv_tableIn (tgt := 449) hx hb dX14_job_307 (by decide) (by decide) (off := 142) rfl (by decide) ?_
                                            obtain ⟨x71, ex71⟩ : ∃ y : Int32, y = (nI m9) + (-1) := ⟨_, rfl⟩
                                            refine lv_iinc (v := x71) (lv' := [(5, .int x71), (8, .int x70), (15, .long 0), (13, .long 0), (12, .int 0), (11, .int 2), (6, .long x69), (10, .int 17), (9, .int (nI (100 * j9 + p9))), (0, .ref o), (4, .int (nI j9))]) hx hb dX14_job_449 hl (k := 10) rfl (by rw [ex71]; rfl) (by decide) rfl (fun ls hl => ?_)
                                            refine lv_aload_n hx hb dX14_job_452 rfl (lv_at hl 9 rfl) ?_
                                            refine mm_get (v := .ref (Ar 75)) hx hb hf_X14 (fun _ h9 => h9) hown hK hG hM.1 rfl 75 (by decide) (tb_use hT tw_1466) (fun _ h9 => h9) rfl dX14_job_453 ?_
                                            refine lv_iload hx hb dX14_job_456 (lv_at hl 0 rfl) ?_
                                            refine lv_iconst (v := 1) hx hb dX14_job_458 (by decide) ?_
                                            refine lv_isub hx hb dX14_job_459 ?_
                                            rw [show (x71 - 1) = nI (m9 - 2) by rw [ex71, ← Int32.sub_eq_add_neg, show nI m9 - 1 = nI (m9 - 1) from nI_sb (a := 1) (b := m9) (by omega)]; exact (nI_sb (a := 1) (b := m9 - 1) (by omega)).trans (by rw [show m9 - 1 - 1 = m9 - 2 by omega])]
                                            refine lv_iload hx hb dX14_job_460 (lv_at hl 7 rfl) ?_
                                            refine lv_bipush (v := 17) hx hb dX14_job_462 (by decide) ?_
                                            refine lv_icmp_ne (tgt := 475) hx hb dX14_job_464 (by decide) (fun c_464 => ?_) (fun c_464 => ?_)
                                            · skip
                                              exact absurd (by decide) c_464
                                            · skip
                                              refine lv_lload hx hb dX14_job_467 (lv_at hl 2 rfl) ?_
                                              refine lv_lload hx hb dX14_job_469 (lv_at hl 3 rfl) ?_
                                              refine lv_ladd hx hb dX14_job_471 ?_
                                              refine lv_goto (tgt := 495) hx hb dX14_job_472 (by decide) ?_
                                              refine lv_topl (fun x72 ex72 => ?_)
                                              refine mm_last (n := mdN 75) (f := Lj 75) hx hb hK hG hS 2 (hM.2.2.1 75 rfl) rfl (nI_in (N := mdN 75) (by show _ < 16; omega) (by decide)) dX14_job_495 (fun H locs hG hS => ?_)
                                              have hM := MD.setj (k := 75) (vp_updL (Lj 75) (nI (m9 - 2)).toNatClampNeg x72) hM rfl
                                              have hF := hF.wa (k := 75) (e' := .inl (cy 2, mdN 75, .inr (.inl (vp_updL (Lj 75) (nI (m9 - 2)).toNatClampNeg x72)))) rfl
                                              obtain ⟨L73, eL73⟩ : ∃ g, g = va_up Lj 75 (vp_updL (Lj 75) (nI (m9 - 2)).toNatClampNeg x72) := ⟨_, rfl⟩
                                              rw [← eL73] at hM
                                              generalize mm_set _ _ _ = G74 at hG hM hF
                                              refine lv_goto (tgt := 582) hx hb dX14_job_496 (by decide) ?_
                                              refine lv_goto (tgt := 68) hx hb dX14_job_582 (by decide) ?_
                                              rw [show x70 = nI (p9 + 1) by rw [ex70]; exact (nI_succ p9).symm] at hl
                                              rw [show x71 = nI (m9 - 1) by rw [ex71, ← Int32.sub_eq_add_neg]; exact nI_sb (a := 1) (b := m9) (by omega)] at hl
                                              rw [ex69] at hl
                                              have hmu2 : 2 * lf + agN v9 j9 (p9 + 1) < n := by have y := @agN_le v9 j9 (p9 + 1); omega
                                              exact ih (p9 + 1) (m9 - 1) lf sz Ij Fj L73 hmu2 (by omega) (by omega) hIo h38j hbj h66j h68j hsz64 hFo (fun j hj => by rw [eL73, va_up_ne _ _ (by omega)]; exact hLo j hj) G74 hM hF _ _ hG hS ls (lv_sub hl [9, 10, 0, 6, 1] rfl)
                                          · skip
                                            have hm2 : 1 < m9 := Nat.lt_of_not_le (fun y => c_284 (nI_le (b := 1) y (by decide)))
                                            refine lv_aload_n hx hb dX14_job_287 rfl (lv_at hl 6 rfl) ?_
                                            refine mm_get (v := .ref (Ar 75)) hx hb hf_X14 (fun _ h9 => h9) hown hK hG hM.1 rfl 75 (by decide) (tb_use hT tw_1466) (fun _ h9 => h9) rfl dX14_job_288 ?_
                                            refine lv_iload hx hb dX14_job_291 (lv_at hl 8 rfl) ?_
                                            refine lv_iconst (v := 2) hx hb dX14_job_293 (by decide) ?_
                                            refine lv_isub hx hb dX14_job_294 ?_
                                            rw [show ((nI m9) - 2) = nI (m9 - 2) from nI_sb (a := 2) (b := m9) (by omega)]
                                            refine mm_lald (n := 16) (f := Lj 75) hx hb hK hG 2 (hM.2.2.1 75 rfl) rfl (nI_in (N := 16) (by omega) (by decide)) dX14_job_295 ?_
                                            refine lv_topl (fun x75 ex75 => ?_)
                                            refine lv_goto (tgt := 300) hx hb dX14_job_296 (by decide) ?_
                                            refine lv_lstore (lv' := [(15, .long x75), (13, .long 0), (12, .int 0), (11, .int 2), (6, .long x69), (10, .int 17), (9, .int (nI (100 * j9 + p9))), (0, .ref o), (4, .int (nI j9)), (5, .int (nI m9)), (8, .int (nI p9))]) hx hb dX14_job_300 hl (by decide) rfl (fun ls hl => ?_)
                                            obtain ⟨x76, ex76⟩ : ∃ y : Int32, y = (nI p9) + 1 := ⟨_, rfl⟩
                                            refine lv_iinc (v := x76) (lv' := [(8, .int x76), (15, .long x75), (13, .long 0), (12, .int 0), (11, .int 2), (6, .long x69), (10, .int 17), (9, .int (nI (100 * j9 + p9))), (0, .ref o), (4, .int (nI j9)), (5, .int (nI m9))]) hx hb dX14_job_302 hl (k := 10) rfl (by rw [ex76]; rfl) (by decide) rfl (fun ls hl => ?_)
                                            refine lv_iload hx hb dX14_job_305 (lv_at hl 6 rfl) ?_
                                            refine lv_tableIn (tgt := 449) hx hb dX14_job_307 (by decide) (by decide) (off := 142) rfl (by decide) ?_
                                            obtain ⟨x77, ex77⟩ : ∃ y : Int32, y = (nI m9) + (-1) := ⟨_, rfl⟩
                                            refine lv_iinc (v := x77) (lv' := [(5, .int x77), (8, .int x76), (15, .long x75), (13, .long 0), (12, .int 0), (11, .int 2), (6, .long x69), (10, .int 17), (9, .int (nI (100 * j9 + p9))), (0, .ref o), (4, .int (nI j9))]) hx hb dX14_job_449 hl (k := 10) rfl (by rw [ex77]; rfl) (by decide) rfl (fun ls hl => ?_)
                                            refine lv_aload_n hx hb dX14_job_452 rfl (lv_at hl 9 rfl) ?_
                                            refine mm_get (v := .ref (Ar 75)) hx hb hf_X14 (fun _ h9 => h9) hown hK hG hM.1 rfl 75 (by decide) (tb_use hT tw_1466) (fun _ h9 => h9) rfl dX14_job_453 ?_
                                            refine lv_iload hx hb dX14_job_456 (lv_at hl 0 rfl) ?_
                                            refine lv_iconst (v := 1) hx hb dX14_job_458 (by decide) ?_
                                            refine lv_isub hx hb dX14_job_459 ?_
                                            rw [show (x77 - 1) = nI (m9 - 2) by rw [ex77, ← Int32.sub_eq_add_neg, show nI m9 - 1 = nI (m9 - 1) from nI_sb (a := 1) (b := m9) (by omega)]; exact (nI_sb (a := 1) (b := m9 - 1) (by omega)).trans (by rw [show m9 - 1 - 1 = m9 - 2 by omega])]
                                            refine lv_iload hx hb dX14_job_460 (lv_at hl 7 rfl) ?_
                                            refine lv_bipush (v := 17) hx hb dX14_job_462 (by decide) ?_
                                            refine lv_icmp_ne (tgt := 475) hx hb dX14_job_464 (by decide) (fun c_464 => ?_) (fun c_464 => ?_)
                                            · skip
                                              exact absurd (by decide) c_464
                                            · skip
                                              refine lv_lload hx hb dX14_job_467 (lv_at hl 2 rfl) ?_
                                              refine lv_lload hx hb dX14_job_469 (lv_at hl 3 rfl) ?_
                                              refine lv_ladd hx hb dX14_job_471 ?_
                                              refine lv_goto (tgt := 495) hx hb dX14_job_472 (by decide) ?_
                                              refine lv_topl (fun x78 ex78 => ?_)
                                              refine mm_last (n := mdN 75) (f := Lj 75) hx hb hK hG hS 2 (hM.2.2.1 75 rfl) rfl (nI_in (N := mdN 75) (by show _ < 16; omega) (by decide)) dX14_job_495 (fun H locs hG hS => ?_)
                                              have hM := MD.setj (k := 75) (vp_updL (Lj 75) (nI (m9 - 2)).toNatClampNeg x78) hM rfl
                                              have hF := hF.wa (k := 75) (e' := .inl (cy 2, mdN 75, .inr (.inl (vp_updL (Lj 75) (nI (m9 - 2)).toNatClampNeg x78)))) rfl
                                              obtain ⟨L79, eL79⟩ : ∃ g, g = va_up Lj 75 (vp_updL (Lj 75) (nI (m9 - 2)).toNatClampNeg x78) := ⟨_, rfl⟩
                                              rw [← eL79] at hM
                                              generalize mm_set _ _ _ = G80 at hG hM hF
                                              refine lv_goto (tgt := 582) hx hb dX14_job_496 (by decide) ?_
                                              refine lv_goto (tgt := 68) hx hb dX14_job_582 (by decide) ?_
                                              rw [show x76 = nI (p9 + 1) by rw [ex76]; exact (nI_succ p9).symm] at hl
                                              rw [show x77 = nI (m9 - 1) by rw [ex77, ← Int32.sub_eq_add_neg]; exact nI_sb (a := 1) (b := m9) (by omega)] at hl
                                              rw [ex69] at hl
                                              have hmu2 : 2 * lf + agN v9 j9 (p9 + 1) < n := by have y := @agN_le v9 j9 (p9 + 1); omega
                                              exact ih (p9 + 1) (m9 - 1) lf sz Ij Fj L79 hmu2 (by omega) (by omega) hIo h38j hbj h66j h68j hsz64 hFo (fun j hj => by rw [eL79, va_up_ne _ _ (by omega)]; exact hLo j hj) G80 hM hF _ _ hG hS ls (lv_sub hl [9, 10, 0, 6, 1] rfl)
                                        · skip
                                          have hm1 : 0 < m9 := Nat.pos_of_ne_zero (fun y => c_263 (by rw [y]; exact Int32.le_refl 0))
                                          refine lv_aload_n hx hb dX14_job_266 rfl (lv_at hl 5 rfl) ?_
                                          refine mm_get (v := .ref (Ar 75)) hx hb hf_X14 (fun _ h9 => h9) hown hK hG hM.1 rfl 75 (by decide) (tb_use hT tw_1466) (fun _ h9 => h9) rfl dX14_job_267 ?_
                                          refine lv_iload hx hb dX14_job_270 (lv_at hl 7 rfl) ?_
                                          refine lv_iconst (v := 1) hx hb dX14_job_272 (by decide) ?_
                                          refine lv_isub hx hb dX14_job_273 ?_
                                          rw [show ((nI m9) - 1) = nI (m9 - 1) from nI_sb (a := 1) (b := m9) (by omega)]
                                          refine mm_lald (n := 16) (f := Lj 75) hx hb hK hG 2 (hM.2.2.1 75 rfl) rfl (nI_in (N := 16) (by omega) (by decide)) dX14_job_274 ?_
                                          refine lv_topl (fun x81 ex81 => ?_)
                                          refine lv_goto (tgt := 279) hx hb dX14_job_275 (by decide) ?_
                                          refine lv_lstore (lv' := [(13, .long x81), (12, .int 0), (11, .int 2), (6, .long x69), (10, .int 17), (9, .int (nI (100 * j9 + p9))), (0, .ref o), (4, .int (nI j9)), (5, .int (nI m9)), (8, .int (nI p9))]) hx hb dX14_job_279 hl (by decide) rfl (fun ls hl => ?_)
                                          refine lv_iload hx hb dX14_job_281 (lv_at hl 8 rfl) ?_
                                          refine lv_iconst (v := 1) hx hb dX14_job_283 (by decide) ?_
                                          refine lv_icmp_le (tgt := 299) hx hb dX14_job_284 (by decide) (fun c_284 => ?_) (fun c_284 => ?_)
                                          · skip
                                            refine lv_lconst (v := 0) hx hb dX14_job_299 (by decide) ?_
                                            refine lv_lstore (lv' := [(15, .long 0), (13, .long x81), (12, .int 0), (11, .int 2), (6, .long x69), (10, .int 17), (9, .int (nI (100 * j9 + p9))), (0, .ref o), (4, .int (nI j9)), (5, .int (nI m9)), (8, .int (nI p9))]) hx hb dX14_job_300 hl (by decide) rfl (fun ls hl => ?_)
                                            obtain ⟨x82, ex82⟩ : ∃ y : Int32, y = (nI p9) + 1 := ⟨_, rfl⟩
                                            refine lv_iinc (v := x82) (lv' := [(8, .int x82), (15, .long 0), (13, .long x81), (12, .int 0), (11, .int 2), (6, .long x69), (10, .int 17), (9, .int (nI (100 * j9 + p9))), (0, .ref o), (4, .int (nI j9)), (5, .int (nI m9))]) hx hb dX14_job_302 hl (k := 10) rfl (by rw [ex82]; rfl) (by decide) rfl (fun ls hl => ?_)
                                            refine lv_iload hx hb dX14_job_305 (lv_at hl 6 rfl) ?_
                                            refine lv_tableIn (tgt := 449) hx hb dX14_job_307 (by decide) (by decide) (off := 142) rfl (by decide) ?_
                                            obtain ⟨x83, ex83⟩ : ∃ y : Int32, y = (nI m9) + (-1) := ⟨_, rfl⟩
                                            refine lv_iinc (v := x83) (lv' := [(5, .int x83), (8, .int x82), (15, .long 0), (13, .long x81), (12, .int 0), (11, .int 2), (6, .long x69), (10, .int 17), (9, .int (nI (100 * j9 + p9))), (0, .ref o), (4, .int (nI j9))]) hx hb dX14_job_449 hl (k := 10) rfl (by rw [ex83]; rfl) (by decide) rfl (fun ls hl => ?_)
                                            refine lv_aload_n hx hb dX14_job_452 rfl (lv_at hl 9 rfl) ?_
                                            refine mm_get (v := .ref (Ar 75)) hx hb hf_X14 (fun _ h9 => h9) hown hK hG hM.1 rfl 75 (by decide) (tb_use hT tw_1466) (fun _ h9 => h9) rfl dX14_job_453 ?_
                                            refine lv_iload hx hb dX14_job_456 (lv_at hl 0 rfl) ?_
                                            refine lv_iconst (v := 1) hx hb dX14_job_458 (by decide) ?_
                                            refine lv_isub hx hb dX14_job_459 ?_
                                            rw [show (x83 - 1) = nI (m9 - 2) by rw [ex83, ← Int32.sub_eq_add_neg, show nI m9 - 1 = nI (m9 - 1) from nI_sb (a := 1) (b := m9) (by omega)]; exact (nI_sb (a := 1) (b := m9 - 1) (by omega)).trans (by rw [show m9 - 1 - 1 = m9 - 2 by omega])]
                                            refine lv_iload hx hb dX14_job_460 (lv_at hl 7 rfl) ?_
                                            refine lv_bipush (v := 17) hx hb dX14_job_462 (by decide) ?_
                                            refine lv_icmp_ne (tgt := 475) hx hb dX14_job_464 (by decide) (fun c_464 => ?_) (fun c_464 => ?_)
                                            · skip
                                              exact absurd (by decide) c_464
                                            · skip
                                              refine lv_lload hx hb dX14_job_467 (lv_at hl 2 rfl) ?_
                                              refine lv_lload hx hb dX14_job_469 (lv_at hl 3 rfl) ?_
                                              refine lv_ladd hx hb dX14_job_471 ?_
                                              refine lv_goto (tgt := 495) hx hb dX14_job_472 (by decide) ?_
                                              refine lv_topl (fun x84 ex84 => ?_)
                                              refine mm_last (n := mdN 75) (f := Lj 75) hx hb hK hG hS 2 (hM.2.2.1 75 rfl) rfl (nI_in (N := mdN 75) (by show _ < 16; omega) (by decide)) dX14_job_495 (fun H locs hG hS => ?_)
                                              have hM := MD.setj (k := 75) (vp_updL (Lj 75) (nI (m9 - 2)).toNatClampNeg x84) hM rfl
                                              have hF := hF.wa (k := 75) (e' := .inl (cy 2, mdN 75, .inr (.inl (vp_updL (Lj 75) (nI (m9 - 2)).toNatClampNeg x84)))) rfl
                                              obtain ⟨L85, eL85⟩ : ∃ g, g = va_up Lj 75 (vp_updL (Lj 75) (nI (m9 - 2)).toNatClampNeg x84) := ⟨_, rfl⟩
                                              rw [← eL85] at hM
                                              generalize mm_set _ _ _ = G86 at hG hM hF
                                              refine lv_goto (tgt := 582) hx hb dX14_job_496 (by decide) ?_
                                              refine lv_goto (tgt := 68) hx hb dX14_job_582 (by decide) ?_
                                              rw [show x82 = nI (p9 + 1) by rw [ex82]; exact (nI_succ p9).symm] at hl
                                              rw [show x83 = nI (m9 - 1) by rw [ex83, ← Int32.sub_eq_add_neg]; exact nI_sb (a := 1) (b := m9) (by omega)] at hl
                                              rw [ex69] at hl
                                              have hmu2 : 2 * lf + agN v9 j9 (p9 + 1) < n := by have y := @agN_le v9 j9 (p9 + 1); omega
                                              exact ih (p9 + 1) (m9 - 1) lf sz Ij Fj L85 hmu2 (by omega) (by omega) hIo h38j hbj h66j h68j hsz64 hFo (fun j hj => by rw [eL85, va_up_ne _ _ (by omega)]; exact hLo j hj) G86 hM hF _ _ hG hS ls (lv_sub hl [9, 10, 0, 6, 1] rfl)
                                          · skip
                                            have hm2 : 1 < m9 := Nat.lt_of_not_le (fun y => c_284 (nI_le (b := 1) y (by decide)))
                                            refine lv_aload_n hx hb dX14_job_287 rfl (lv_at hl 6 rfl) ?_
                                            refine mm_get (v := .ref (Ar 75)) hx hb hf_X14 (fun _ h9 => h9) hown hK hG hM.1 rfl 75 (by decide) (tb_use hT tw_1466) (fun _ h9 => h9) rfl dX14_job_288 ?_
                                            refine lv_iload hx hb dX14_job_291 (lv_at hl 8 rfl) ?_
                                            refine lv_iconst (v := 2) hx hb dX14_job_293 (by decide) ?_
                                            refine lv_isub hx hb dX14_job_294 ?_
                                            rw [show ((nI m9) - 2) = nI (m9 - 2) from nI_sb (a := 2) (b := m9) (by omega)]
                                            refine mm_lald (n := 16) (f := Lj 75) hx hb hK hG 2 (hM.2.2.1 75 rfl) rfl (nI_in (N := 16) (by omega) (by decide)) dX14_job_295 ?_
                                            refine lv_topl (fun x87 ex87 => ?_)
                                            refine lv_goto (tgt := 300) hx hb dX14_job_296 (by decide) ?_
                                            refine lv_lstore (lv' := [(15, .long x87), (13, .long x81), (12, .int 0), (11, .int 2), (6, .long x69), (10, .int 17), (9, .int (nI (100 * j9 + p9))), (0, .ref o), (4, .int (nI j9)), (5, .int (nI m9)), (8, .int (nI p9))]) hx hb dX14_job_300 hl (by decide) rfl (fun ls hl => ?_)
                                            obtain ⟨x88, ex88⟩ : ∃ y : Int32, y = (nI p9) + 1 := ⟨_, rfl⟩
                                            refine lv_iinc (v := x88) (lv' := [(8, .int x88), (15, .long x87), (13, .long x81), (12, .int 0), (11, .int 2), (6, .long x69), (10, .int 17), (9, .int (nI (100 * j9 + p9))), (0, .ref o), (4, .int (nI j9)), (5, .int (nI m9))]) hx hb dX14_job_302 hl (k := 10) rfl (by rw [ex88]; rfl) (by decide) rfl (fun ls hl => ?_)
                                            refine lv_iload hx hb dX14_job_305 (lv_at hl 6 rfl) ?_
                                            refine lv_tableIn (tgt := 449) hx hb dX14_job_307 (by decide) (by decide) (off := 142) rfl (by decide) ?_
                                            obtain ⟨x89, ex89⟩ : ∃ y : Int32, y = (nI m9) + (-1) := ⟨_, rfl⟩
                                            refine lv_iinc (v := x89) (lv' := [(5, .int x89), (8, .int x88), (15, .long x87), (13, .long x81), (12, .int 0), (11, .int 2), (6, .long x69), (10, .int 17), (9, .int (nI (100 * j9 + p9))), (0, .ref o), (4, .int (nI j9))]) hx hb dX14_job_449 hl (k := 10) rfl (by rw [ex89]; rfl) (by decide) rfl (fun ls hl => ?_)
                                            refine lv_aload_n hx hb dX14_job_452 rfl (lv_at hl 9 rfl) ?_
                                            refine mm_get (v := .ref (Ar 75)) hx hb hf_X14 (fun _ h9 => h9) hown hK hG hM.1 rfl 75 (by decide) (tb_use hT tw_1466) (fun _ h9 => h9) rfl dX14_job_453 ?_
                                            refine lv_iload hx hb dX14_job_456 (lv_at hl 0 rfl) ?_
                                            refine lv_iconst (v := 1) hx hb dX14_job_458 (by decide) ?_
                                            refine lv_isub hx hb dX14_job_459 ?_
                                            rw [show (x89 - 1) = nI (m9 - 2) by rw [ex89, ← Int32.sub_eq_add_neg, show nI m9 - 1 = nI (m9 - 1) from nI_sb (a := 1) (b := m9) (by omega)]; exact (nI_sb (a := 1) (b := m9 - 1) (by omega)).trans (by rw [show m9 - 1 - 1 = m9 - 2 by omega])]
                                            refine lv_iload hx hb dX14_job_460 (lv_at hl 7 rfl) ?_
                                            refine lv_bipush (v := 17) hx hb dX14_job_462 (by decide) ?_
                                            refine lv_icmp_ne (tgt := 475) hx hb dX14_job_464 (by decide) (fun c_464 => ?_) (fun c_464 => ?_)
                                            · skip
                                              exact absurd (by decide) c_464
                                            · skip
                                              refine lv_lload hx hb dX14_job_467 (lv_at hl 2 rfl) ?_
                                              refine lv_lload hx hb dX14_job_469 (lv_at hl 3 rfl) ?_
                                              refine lv_ladd hx hb dX14_job_471 ?_
                                              refine lv_goto (tgt := 495) hx hb dX14_job_472 (by decide) ?_
                                              refine lv_topl (fun x90 ex90 => ?_)
                                              refine mm_last (n := mdN 75) (f := Lj 75) hx hb hK hG hS 2 (hM.2.2.1 75 rfl) rfl (nI_in (N := mdN 75) (by show _ < 16; omega) (by decide)) dX14_job_495 (fun H locs hG hS => ?_)
                                              have hM := MD.setj (k := 75) (vp_updL (Lj 75) (nI (m9 - 2)).toNatClampNeg x90) hM rfl
                                              have hF := hF.wa (k := 75) (e' := .inl (cy 2, mdN 75, .inr (.inl (vp_updL (Lj 75) (nI (m9 - 2)).toNatClampNeg x90)))) rfl
                                              obtain ⟨L91, eL91⟩ : ∃ g, g = va_up Lj 75 (vp_updL (Lj 75) (nI (m9 - 2)).toNatClampNeg x90) := ⟨_, rfl⟩
                                              rw [← eL91] at hM
                                              generalize mm_set _ _ _ = G92 at hG hM hF
                                              refine lv_goto (tgt := 582) hx hb dX14_job_496 (by decide) ?_
                                              refine lv_goto (tgt := 68) hx hb dX14_job_582 (by decide) ?_
                                              rw [show x88 = nI (p9 + 1) by rw [ex88]; exact (nI_succ p9).symm] at hl
                                              rw [show x89 = nI (m9 - 1) by rw [ex89, ← Int32.sub_eq_add_neg]; exact nI_sb (a := 1) (b := m9) (by omega)] at hl
                                              rw [ex69] at hl
                                              have hmu2 : 2 * lf + agN v9 j9 (p9 + 1) < n := by have y := @agN_le v9 j9 (p9 + 1); omega
                                              exact ih (p9 + 1) (m9 - 1) lf sz Ij Fj L91 hmu2 (by omega) (by omega) hIo h38j hbj h66j h68j hsz64 hFo (fun j hj => by rw [eL91, va_up_ne _ _ (by omega)]; exact hLo j hj) G92 hM hF _ _ hG hS ls (lv_sub hl [9, 10, 0, 6, 1] rfl)
                                      · skip
                                        exact absurd (by decide) c_248
                                  · skip
                                    exact absurd c_229 (by decide)
                            · skip
                              exact absurd (by decide) c_180
                          · skip
                            exact absurd c_169 (by decide)
                      · skip
                        refine lv_iconst (v := 0) hx hb dX14_job_150 (by decide) ?_
                        exact W.iret (v := 0) hx hb hr (fun t ht hW => ⟨⟨_, _, rfl, ⟨Ij, Fj, Lj, hM, hF, hIo, h38j, ⟨sz, hsz64, h68j⟩, hFo, hLo⟩, mk_end hG ht⟩, hS.F ht⟩) hS.2.2 dX14_job_151
                    · skip
                      exact absurd c_119 (by decide)
                  · skip
                    replace hkd := hkde.trans hkd
                    rw [show x9 = 18 by rw [hx35, hkd]; rfl] at hl
                    refine lv_iload hx hb dX14_job_115 (lv_at hl 0 rfl) ?_
                    refine lv_bipush (v := 25) hx hb dX14_job_117 (by decide) ?_
                    refine lv_icmp_ne (tgt := 143) hx hb dX14_job_119 (by decide) (fun c_119 => ?_) (fun c_119 => ?_)
                    · skip
                      refine lv_lload hx hb dX14_job_143 (lv_at hl 5 rfl) ?_
                      refine lv_lconst (v := 0) hx hb dX14_job_145 (by decide) ?_
                      refine W.lcmp hx hb dX14_job_146 ?_
                      refine lv_if_ne (tgt := 152) hx hb dX14_job_147 (by decide) (fun c_147 => ?_) (fun c_147 => ?_)
                      · skip
                        obtain ⟨lf, hlf⟩ : ∃ y, lf9 = y + 1 := ⟨lf9 - 1, by have y : lf9 ≠ 0 := fun z => c_147 ((lg_cmp_eq _ _).mpr (by rw [z]; rfl)); omega⟩
                        rw [hlf] at hl hmu
                        refine lv_lload hx hb dX14_job_152 (lv_at hl 5 rfl) ?_
                        refine lv_lconst (v := 1) hx hb dX14_job_154 (by decide) ?_
                        refine lv_lsub hx hb dX14_job_155 ?_
                        rw [i64_dec (by omega)]
                        refine lv_topl (fun x94 ex94 => ?_)
                        refine lv_lstore (lv' := [(6, .long x94), (10, .int 18), (9, .int (nI (100 * j9 + p9))), (0, .ref o), (4, .int (nI j9)), (5, .int (nI m9)), (8, .int (nI p9))]) hx hb dX14_job_156 hl (by decide) rfl (fun ls hl => ?_)
                        refine lv_iload hx hb dX14_job_158 (lv_at hl 1 rfl) ?_
                        refine lv_bipush (v := 15) hx hb dX14_job_160 (by decide) ?_
                        refine lv_icmp_eq (tgt := 172) hx hb dX14_job_162 (by decide) (fun c_162 => ?_) (fun c_162 => ?_)
                        · skip
                          exact absurd c_162 (by decide)
                        · skip
                          refine lv_iload hx hb dX14_job_165 (lv_at hl 1 rfl) ?_
                          refine lv_bipush (v := 16) hx hb dX14_job_167 (by decide) ?_
                          refine lv_icmp_ne (tgt := 176) hx hb dX14_job_169 (by decide) (fun c_169 => ?_) (fun c_169 => ?_)
                          · skip
                            refine lv_iload hx hb dX14_job_176 (lv_at hl 1 rfl) ?_
                            refine lv_bipush (v := 17) hx hb dX14_job_178 (by decide) ?_
                            refine lv_icmp_eq (tgt := 204) hx hb dX14_job_180 (by decide) (fun c_180 => ?_) (fun c_180 => ?_)
                            · skip
                              exact absurd c_180 (by decide)
                            · skip
                              refine lv_iload hx hb dX14_job_183 (lv_at hl 1 rfl) ?_
                              refine lv_bipush (v := 18) hx hb dX14_job_185 (by decide) ?_
                              refine lv_icmp_eq (tgt := 204) hx hb dX14_job_187 (by decide) (fun c_187 => ?_) (fun c_187 => ?_)
                              · skip
                                refine lv_iconst (v := 2) hx hb dX14_job_204 (by decide) ?_
                                refine lv_goto (tgt := 209) hx hb dX14_job_205 (by decide) ?_
                                refine lv_istore (lv' := [(11, .int 2), (6, .long x94), (10, .int 18), (9, .int (nI (100 * j9 + p9))), (0, .ref o), (4, .int (nI j9)), (5, .int (nI m9)), (8, .int (nI p9))]) hx hb dX14_job_209 hl (by decide) rfl (fun ls hl => ?_)
                                refine lv_iload hx hb dX14_job_211 (lv_at hl 2 rfl) ?_
                                refine lv_bipush (v := 15) hx hb dX14_job_213 (by decide) ?_
                                refine lv_icmp_eq (tgt := 232) hx hb dX14_job_215 (by decide) (fun c_215 => ?_) (fun c_215 => ?_)
                                · skip
                                  exact absurd c_215 (by decide)
                                · skip
                                  refine lv_iload hx hb dX14_job_218 (lv_at hl 2 rfl) ?_
                                  refine lv_bipush (v := 16) hx hb dX14_job_220 (by decide) ?_
                                  refine lv_icmp_eq (tgt := 232) hx hb dX14_job_222 (by decide) (fun c_222 => ?_) (fun c_222 => ?_)
                                  · skip
                                    exact absurd c_222 (by decide)
                                  · skip
                                    refine lv_iload hx hb dX14_job_225 (lv_at hl 2 rfl) ?_
                                    refine lv_bipush (v := 20) hx hb dX14_job_227 (by decide) ?_
                                    refine lv_icmp_ne (tgt := 236) hx hb dX14_job_229 (by decide) (fun c_229 => ?_) (fun c_229 => ?_)
                                    · skip
                                      refine lv_iconst (v := 0) hx hb dX14_job_236 (by decide) ?_
                                      refine lv_istore (lv' := [(12, .int 0), (11, .int 2), (6, .long x94), (10, .int 18), (9, .int (nI (100 * j9 + p9))), (0, .ref o), (4, .int (nI j9)), (5, .int (nI m9)), (8, .int (nI p9))]) hx hb dX14_job_237 hl (by decide) rfl (fun ls hl => ?_)
                                      refine lv_iload hx hb dX14_job_239 (lv_at hl 7 rfl) ?_
                                      refine lv_iload hx hb dX14_job_241 (lv_at hl 1 rfl) ?_
                                      refine lv_icmp_lt (tgt := 258) hx hb dX14_job_243 (by decide) (fun c_243 => ?_) (fun c_243 => ?_)
                                      · skip
                                        refine lv_bipush (v := (-3)) hx hb dX14_job_258 (by decide) ?_
                                        exact W.iret (v := (-3)) hx hb hr (fun t ht hW => ⟨⟨_, _, rfl, ⟨Ij, Fj, Lj, hM, hF, hIo, h38j, ⟨sz, hsz64, h68j⟩, hFo, hLo⟩, mk_end hG ht⟩, hS.F ht⟩) hS.2.2 dX14_job_260
                                      · skip
                                        refine lv_iload hx hb dX14_job_246 (lv_at hl 0 rfl) ?_
                                        refine lv_if_eq (tgt := 261) hx hb dX14_job_248 (by decide) (fun c_248 => ?_) (fun c_248 => ?_)
                                        · skip
                                          have hmw : 2 ≤ m9 := Nat.le_of_not_lt (fun y => c_243 (nI_lt (b := 2) y (by decide)))
                                          refine lv_iload hx hb dX14_job_261 (lv_at hl 7 rfl) ?_
                                          refine lv_if_le (tgt := 278) hx hb dX14_job_263 (by decide) (fun c_263 => ?_) (fun c_263 => ?_)
                                          · skip
                                            refine lv_lconst (v := 0) hx hb dX14_job_278 (by decide) ?_
                                            refine lv_lstore (lv' := [(13, .long 0), (12, .int 0), (11, .int 2), (6, .long x94), (10, .int 18), (9, .int (nI (100 * j9 + p9))), (0, .ref o), (4, .int (nI j9)), (5, .int (nI m9)), (8, .int (nI p9))]) hx hb dX14_job_279 hl (by decide) rfl (fun ls hl => ?_)
                                            refine lv_iload hx hb dX14_job_281 (lv_at hl 8 rfl) ?_
                                            refine lv_iconst (v := 1) hx hb dX14_job_283 (by decide) ?_
                                            refine lv_icmp_le (tgt := 299) hx hb dX14_job_284 (by decide) (fun c_284 => ?_) (fun c_284 => ?_)
                                            · skip
                                              refine lv_lconst (v := 0) hx hb dX14_job_299 (by decide) ?_
                                              refine lv_lstore (lv' := [(15, .long 0), (13, .long 0), (12, .int 0), (11, .int 2), (6, .long x94), (10, .int 18), (9, .int (nI (100 * j9 + p9))), (0, .ref o), (4, .int (nI j9)), (5, .int (nI m9)), (8, .int (nI p9))]) hx hb dX14_job_300 hl (by decide) rfl (fun ls hl => ?_)
                                              obtain ⟨x95, ex95⟩ : ∃ y : Int32, y = (nI p9) + 1 := ⟨_, rfl⟩
                                              refine lv_iinc (v := x95) (lv' := [(8, .int x95), (15, .long 0), (13, .long 0), (12, .int 0), (11, .int 2), (6, .long x94), (10, .int 18), (9, .int (nI (100 * j9 + p9))), (0, .ref o), (4, .int (nI j9)), (5, .int (nI m9))]) hx hb dX14_job_302 hl (k := 10) rfl (by rw [ex95]; rfl) (by decide) rfl (fun ls hl => ?_)
                                              refine lv_iload hx hb dX14_job_305 (lv_at hl 6 rfl) ?_
                                              refine lv_tableIn (tgt := 449) hx hb dX14_job_307 (by decide) (by decide) (off := 142) rfl (by decide) ?_
                                              obtain ⟨x96, ex96⟩ : ∃ y : Int32, y = (nI m9) + (-1) := ⟨_, rfl⟩
                                              refine lv_iinc (v := x96) (lv' := [(5, .int x96), (8, .int x95), (15, .long 0), (13, .long 0), (12, .int 0), (11, .int 2), (6, .long x94), (10, .int 18), (9, .int (nI (100 * j9 + p9))), (0, .ref o), (4, .int (nI j9))]) hx hb dX14_job_449 hl (k := 10) rfl (by rw [ex96]; rfl) (by decide) rfl (fun ls hl => ?_)
                                              refine lv_aload_n hx hb dX14_job_452 rfl (lv_at hl 9 rfl) ?_
                                              refine mm_get (v := .ref (Ar 75)) hx hb hf_X14 (fun _ h9 => h9) hown hK hG hM.1 rfl 75 (by decide) (tb_use hT tw_1466) (fun _ h9 => h9) rfl dX14_job_453 ?_
                                              refine lv_iload hx hb dX14_job_456 (lv_at hl 0 rfl) ?_
                                              refine lv_iconst (v := 1) hx hb dX14_job_458 (by decide) ?_
                                              refine lv_isub hx hb dX14_job_459 ?_
                                              rw [show (x96 - 1) = nI (m9 - 2) by rw [ex96, ← Int32.sub_eq_add_neg, show nI m9 - 1 = nI (m9 - 1) from nI_sb (a := 1) (b := m9) (by omega)]; exact (nI_sb (a := 1) (b := m9 - 1) (by omega)).trans (by rw [show m9 - 1 - 1 = m9 - 2 by omega])]
                                              refine lv_iload hx hb dX14_job_460 (lv_at hl 7 rfl) ?_
                                              refine lv_bipush (v := 17) hx hb dX14_job_462 (by decide) ?_
                                              refine lv_icmp_ne (tgt := 475) hx hb dX14_job_464 (by decide) (fun c_464 => ?_) (fun c_464 => ?_)
                                              · skip
                                                refine lv_iload hx hb dX14_job_475 (lv_at hl 7 rfl) ?_
                                                refine lv_bipush (v := 18) hx hb dX14_job_477 (by decide) ?_
                                                refine lv_icmp_ne (tgt := 490) hx hb dX14_job_479 (by decide) (fun c_479 => ?_) (fun c_479 => ?_)
                                                · skip
                                                  exact absurd (by decide) c_479
                                                · skip
                                                  refine lv_lload hx hb dX14_job_482 (lv_at hl 2 rfl) ?_
                                                  refine lv_lload hx hb dX14_job_484 (lv_at hl 3 rfl) ?_
                                                  refine lv_lsub hx hb dX14_job_486 ?_
                                                  refine lv_goto (tgt := 495) hx hb dX14_job_487 (by decide) ?_
                                                  refine lv_topl (fun x97 ex97 => ?_)
                                                  refine mm_last (n := mdN 75) (f := Lj 75) hx hb hK hG hS 2 (hM.2.2.1 75 rfl) rfl (nI_in (N := mdN 75) (by show _ < 16; omega) (by decide)) dX14_job_495 (fun H locs hG hS => ?_)
                                                  have hM := MD.setj (k := 75) (vp_updL (Lj 75) (nI (m9 - 2)).toNatClampNeg x97) hM rfl
                                                  have hF := hF.wa (k := 75) (e' := .inl (cy 2, mdN 75, .inr (.inl (vp_updL (Lj 75) (nI (m9 - 2)).toNatClampNeg x97)))) rfl
                                                  obtain ⟨L98, eL98⟩ : ∃ g, g = va_up Lj 75 (vp_updL (Lj 75) (nI (m9 - 2)).toNatClampNeg x97) := ⟨_, rfl⟩
                                                  rw [← eL98] at hM
                                                  generalize mm_set _ _ _ = G99 at hG hM hF
                                                  refine lv_goto (tgt := 582) hx hb dX14_job_496 (by decide) ?_
                                                  refine lv_goto (tgt := 68) hx hb dX14_job_582 (by decide) ?_
                                                  rw [show x95 = nI (p9 + 1) by rw [ex95]; exact (nI_succ p9).symm] at hl
                                                  rw [show x96 = nI (m9 - 1) by rw [ex96, ← Int32.sub_eq_add_neg]; exact nI_sb (a := 1) (b := m9) (by omega)] at hl
                                                  rw [ex94] at hl
                                                  have hmu2 : 2 * lf + agN v9 j9 (p9 + 1) < n := by have y := @agN_le v9 j9 (p9 + 1); omega
                                                  exact ih (p9 + 1) (m9 - 1) lf sz Ij Fj L98 hmu2 (by omega) (by omega) hIo h38j hbj h66j h68j hsz64 hFo (fun j hj => by rw [eL98, va_up_ne _ _ (by omega)]; exact hLo j hj) G99 hM hF _ _ hG hS ls (lv_sub hl [9, 10, 0, 6, 1] rfl)
                                              · skip
                                                exact absurd c_464 (by decide)
                                            · skip
                                              have hm2 : 1 < m9 := Nat.lt_of_not_le (fun y => c_284 (nI_le (b := 1) y (by decide)))
                                              refine lv_aload_n hx hb dX14_job_287 rfl (lv_at hl 6 rfl) ?_
                                              refine mm_get (v := .ref (Ar 75)) hx hb hf_X14 (fun _ h9 => h9) hown hK hG hM.1 rfl 75 (by decide) (tb_use hT tw_1466) (fun _ h9 => h9) rfl dX14_job_288 ?_
                                              refine lv_iload hx hb dX14_job_291 (lv_at hl 8 rfl) ?_
                                              refine lv_iconst (v := 2) hx hb dX14_job_293 (by decide) ?_
                                              refine lv_isub hx hb dX14_job_294 ?_
                                              rw [show ((nI m9) - 2) = nI (m9 - 2) from nI_sb (a := 2) (b := m9) (by omega)]
                                              refine mm_lald (n := 16) (f := Lj 75) hx hb hK hG 2 (hM.2.2.1 75 rfl) rfl (nI_in (N := 16) (by omega) (by decide)) dX14_job_295 ?_
                                              refine lv_topl (fun x100 ex100 => ?_)
                                              refine lv_goto (tgt := 300) hx hb dX14_job_296 (by decide) ?_
                                              refine lv_lstore (lv' := [(15, .long x100), (13, .long 0), (12, .int 0), (11, .int 2), (6, .long x94), (10, .int 18), (9, .int (nI (100 * j9 + p9))), (0, .ref o), (4, .int (nI j9)), (5, .int (nI m9)), (8, .int (nI p9))]) hx hb dX14_job_300 hl (by decide) rfl (fun ls hl => ?_)
                                              obtain ⟨x101, ex101⟩ : ∃ y : Int32, y = (nI p9) + 1 := ⟨_, rfl⟩
                                              refine lv_iinc (v := x101) (lv' := [(8, .int x101), (15, .long x100), (13, .long 0), (12, .int 0), (11, .int 2), (6, .long x94), (10, .int 18), (9, .int (nI (100 * j9 + p9))), (0, .ref o), (4, .int (nI j9)), (5, .int (nI m9))]) hx hb dX14_job_302 hl (k := 10) rfl (by rw [ex101]; rfl) (by decide) rfl (fun ls hl => ?_)
                                              refine lv_iload hx hb dX14_job_305 (lv_at hl 6 rfl) ?_
                                              refine lv_tableIn (tgt := 449) hx hb dX14_job_307 (by decide) (by decide) (off := 142) rfl (by decide) ?_
                                              obtain ⟨x102, ex102⟩ : ∃ y : Int32, y = (nI m9) + (-1) := ⟨_, rfl⟩
                                              refine lv_iinc (v := x102) (lv' := [(5, .int x102), (8, .int x101), (15, .long x100), (13, .long 0), (12, .int 0), (11, .int 2), (6, .long x94), (10, .int 18), (9, .int (nI (100 * j9 + p9))), (0, .ref o), (4, .int (nI j9))]) hx hb dX14_job_449 hl (k := 10) rfl (by rw [ex102]; rfl) (by decide) rfl (fun ls hl => ?_)
                                              refine lv_aload_n hx hb dX14_job_452 rfl (lv_at hl 9 rfl) ?_
                                              refine mm_get (v := .ref (Ar 75)) hx hb hf_X14 (fun _ h9 => h9) hown hK hG hM.1 rfl 75 (by decide) (tb_use hT tw_1466) (fun _ h9 => h9) rfl dX14_job_453 ?_
                                              refine lv_iload hx hb dX14_job_456 (lv_at hl 0 rfl) ?_
                                              refine lv_iconst (v := 1) hx hb dX14_job_458 (by decide) ?_
                                              refine lv_isub hx hb dX14_job_459 ?_
                                              rw [show (x102 - 1) = nI (m9 - 2) by rw [ex102, ← Int32.sub_eq_add_neg, show nI m9 - 1 = nI (m9 - 1) from nI_sb (a := 1) (b := m9) (by omega)]; exact (nI_sb (a := 1) (b := m9 - 1) (by omega)).trans (by rw [show m9 - 1 - 1 = m9 - 2 by omega])]
                                              refine lv_iload hx hb dX14_job_460 (lv_at hl 7 rfl) ?_
                                              refine lv_bipush (v := 17) hx hb dX14_job_462 (by decide) ?_
                                              refine lv_icmp_ne (tgt := 475) hx hb dX14_job_464 (by decide) (fun c_464 => ?_) (fun c_464 => ?_)
                                              · skip
                                                refine lv_iload hx hb dX14_job_475 (lv_at hl 7 rfl) ?_
                                                refine lv_bipush (v := 18) hx hb dX14_job_477 (by decide) ?_
                                                refine lv_icmp_ne (tgt := 490) hx hb dX14_job_479 (by decide) (fun c_479 => ?_) (fun c_479 => ?_)
                                                · skip
                                                  exact absurd (by decide) c_479
                                                · skip
                                                  refine lv_lload hx hb dX14_job_482 (lv_at hl 2 rfl) ?_
                                                  refine lv_lload hx hb dX14_job_484 (lv_at hl 3 rfl) ?_
                                                  refine lv_lsub hx hb dX14_job_486 ?_
                                                  refine lv_goto (tgt := 495) hx hb dX14_job_487 (by decide) ?_
                                                  refine lv_topl (fun x103 ex103 => ?_)
                                                  refine mm_last (n := mdN 75) (f := Lj 75) hx hb hK hG hS 2 (hM.2.2.1 75 rfl) rfl (nI_in (N := mdN 75) (by show _ < 16; omega) (by decide)) dX14_job_495 (fun H locs hG hS => ?_)
                                                  have hM := MD.setj (k := 75) (vp_updL (Lj 75) (nI (m9 - 2)).toNatClampNeg x103) hM rfl
                                                  have hF := hF.wa (k := 75) (e' := .inl (cy 2, mdN 75, .inr (.inl (vp_updL (Lj 75) (nI (m9 - 2)).toNatClampNeg x103)))) rfl
                                                  obtain ⟨L104, eL104⟩ : ∃ g, g = va_up Lj 75 (vp_updL (Lj 75) (nI (m9 - 2)).toNatClampNeg x103) := ⟨_, rfl⟩
                                                  rw [← eL104] at hM
                                                  generalize mm_set _ _ _ = G105 at hG hM hF
                                                  refine lv_goto (tgt := 582) hx hb dX14_job_496 (by decide) ?_
                                                  refine lv_goto (tgt := 68) hx hb dX14_job_582 (by decide) ?_
                                                  rw [show x101 = nI (p9 + 1) by rw [ex101]; exact (nI_succ p9).symm] at hl
                                                  rw [show x102 = nI (m9 - 1) by rw [ex102, ← Int32.sub_eq_add_neg]; exact nI_sb (a := 1) (b := m9) (by omega)] at hl
                                                  rw [ex94] at hl
                                                  have hmu2 : 2 * lf + agN v9 j9 (p9 + 1) < n := by have y := @agN_le v9 j9 (p9 + 1); omega
                                                  exact ih (p9 + 1) (m9 - 1) lf sz Ij Fj L104 hmu2 (by omega) (by omega) hIo h38j hbj h66j h68j hsz64 hFo (fun j hj => by rw [eL104, va_up_ne _ _ (by omega)]; exact hLo j hj) G105 hM hF _ _ hG hS ls (lv_sub hl [9, 10, 0, 6, 1] rfl)
                                              · skip
                                                exact absurd c_464 (by decide)
                                          · skip
                                            have hm1 : 0 < m9 := Nat.pos_of_ne_zero (fun y => c_263 (by rw [y]; exact Int32.le_refl 0))
                                            refine lv_aload_n hx hb dX14_job_266 rfl (lv_at hl 5 rfl) ?_
                                            refine mm_get (v := .ref (Ar 75)) hx hb hf_X14 (fun _ h9 => h9) hown hK hG hM.1 rfl 75 (by decide) (tb_use hT tw_1466) (fun _ h9 => h9) rfl dX14_job_267 ?_
                                            refine lv_iload hx hb dX14_job_270 (lv_at hl 7 rfl) ?_
                                            refine lv_iconst (v := 1) hx hb dX14_job_272 (by decide) ?_
                                            refine lv_isub hx hb dX14_job_273 ?_
                                            rw [show ((nI m9) - 1) = nI (m9 - 1) from nI_sb (a := 1) (b := m9) (by omega)]
                                            refine mm_lald (n := 16) (f := Lj 75) hx hb hK hG 2 (hM.2.2.1 75 rfl) rfl (nI_in (N := 16) (by omega) (by decide)) dX14_job_274 ?_
                                            refine lv_topl (fun x106 ex106 => ?_)
                                            refine lv_goto (tgt := 279) hx hb dX14_job_275 (by decide) ?_
                                            refine lv_lstore (lv' := [(13, .long x106), (12, .int 0), (11, .int 2), (6, .long x94), (10, .int 18), (9, .int (nI (100 * j9 + p9))), (0, .ref o), (4, .int (nI j9)), (5, .int (nI m9)), (8, .int (nI p9))]) hx hb dX14_job_279 hl (by decide) rfl (fun ls hl => ?_)
                                            refine lv_iload hx hb dX14_job_281 (lv_at hl 8 rfl) ?_
                                            refine lv_iconst (v := 1) hx hb dX14_job_283 (by decide) ?_
                                            refine lv_icmp_le (tgt := 299) hx hb dX14_job_284 (by decide) (fun c_284 => ?_) (fun c_284 => ?_)
                                            · skip
                                              refine lv_lconst (v := 0) hx hb dX14_job_299 (by decide) ?_
                                              refine lv_lstore (lv' := [(15, .long 0), (13, .long x106), (12, .int 0), (11, .int 2), (6, .long x94), (10, .int 18), (9, .int (nI (100 * j9 + p9))), (0, .ref o), (4, .int (nI j9)), (5, .int (nI m9)), (8, .int (nI p9))]) hx hb dX14_job_300 hl (by decide) rfl (fun ls hl => ?_)
                                              obtain ⟨x107, ex107⟩ : ∃ y : Int32, y = (nI p9) + 1 := ⟨_, rfl⟩
                                              refine lv_iinc (v := x107) (lv' := [(8, .int x107), (15, .long 0), (13, .long x106), (12, .int 0), (11, .int 2), (6, .long x94), (10, .int 18), (9, .int (nI (100 * j9 + p9))), (0, .ref o), (4, .int (nI j9)), (5, .int (nI m9))]) hx hb dX14_job_302 hl (k := 10) rfl (by rw [ex107]; rfl) (by decide) rfl (fun ls hl => ?_)
                                              refine lv_iload hx hb dX14_job_305 (lv_at hl 6 rfl) ?_
                                              refine lv_tableIn (tgt := 449) hx hb dX14_job_307 (by decide) (by decide) (off := 142) rfl (by decide) ?_
                                              obtain ⟨x108, ex108⟩ : ∃ y : Int32, y = (nI m9) + (-1) := ⟨_, rfl⟩
                                              refine lv_iinc (v := x108) (lv' := [(5, .int x108), (8, .int x107), (15, .long 0), (13, .long x106), (12, .int 0), (11, .int 2), (6, .long x94), (10, .int 18), (9, .int (nI (100 * j9 + p9))), (0, .ref o), (4, .int (nI j9))]) hx hb dX14_job_449 hl (k := 10) rfl (by rw [ex108]; rfl) (by decide) rfl (fun ls hl => ?_)
                                              refine lv_aload_n hx hb dX14_job_452 rfl (lv_at hl 9 rfl) ?_
                                              refine mm_get (v := .ref (Ar 75)) hx hb hf_X14 (fun _ h9 => h9) hown hK hG hM.1 rfl 75 (by decide) (tb_use hT tw_1466) (fun _ h9 => h9) rfl dX14_job_453 ?_
                                              refine lv_iload hx hb dX14_job_456 (lv_at hl 0 rfl) ?_
                                              refine lv_iconst (v := 1) hx hb dX14_job_458 (by decide) ?_
                                              refine lv_isub hx hb dX14_job_459 ?_
                                              rw [show (x108 - 1) = nI (m9 - 2) by rw [ex108, ← Int32.sub_eq_add_neg, show nI m9 - 1 = nI (m9 - 1) from nI_sb (a := 1) (b := m9) (by omega)]; exact (nI_sb (a := 1) (b := m9 - 1) (by omega)).trans (by rw [show m9 - 1 - 1 = m9 - 2 by omega])]
                                              refine lv_iload hx hb dX14_job_460 (lv_at hl 7 rfl) ?_
                                              refine lv_bipush (v := 17) hx hb dX14_job_462 (by decide) ?_
                                              refine lv_icmp_ne (tgt := 475) hx hb dX14_job_464 (by decide) (fun c_464 => ?_) (fun c_464 => ?_)
                                              · skip
                                                refine lv_iload hx hb dX14_job_475 (lv_at hl 7 rfl) ?_
                                                refine lv_bipush (v := 18) hx hb dX14_job_477 (by decide) ?_
                                                refine lv_icmp_ne (tgt := 490) hx hb dX14_job_479 (by decide) (fun c_479 => ?_) (fun c_479 => ?_)
                                                · skip
                                                  exact absurd (by decide) c_479
                                                · skip
                                                  refine lv_lload hx hb dX14_job_482 (lv_at hl 2 rfl) ?_
                                                  refine lv_lload hx hb dX14_job_484 (lv_at hl 3 rfl) ?_
                                                  refine lv_lsub hx hb dX14_job_486 ?_
                                                  refine lv_goto (tgt := 495) hx hb dX14_job_487 (by decide) ?_
                                                  refine lv_topl (fun x109 ex109 => ?_)
                                                  refine mm_last (n := mdN 75) (f := Lj 75) hx hb hK hG hS 2 (hM.2.2.1 75 rfl) rfl (nI_in (N := mdN 75) (by show _ < 16; omega) (by decide)) dX14_job_495 (fun H locs hG hS => ?_)
                                                  have hM := MD.setj (k := 75) (vp_updL (Lj 75) (nI (m9 - 2)).toNatClampNeg x109) hM rfl
                                                  have hF := hF.wa (k := 75) (e' := .inl (cy 2, mdN 75, .inr (.inl (vp_updL (Lj 75) (nI (m9 - 2)).toNatClampNeg x109)))) rfl
                                                  obtain ⟨L110, eL110⟩ : ∃ g, g = va_up Lj 75 (vp_updL (Lj 75) (nI (m9 - 2)).toNatClampNeg x109) := ⟨_, rfl⟩
                                                  rw [← eL110] at hM
                                                  generalize mm_set _ _ _ = G111 at hG hM hF
                                                  refine lv_goto (tgt := 582) hx hb dX14_job_496 (by decide) ?_
                                                  refine lv_goto (tgt := 68) hx hb dX14_job_582 (by decide) ?_
                                                  rw [show x107 = nI (p9 + 1) by rw [ex107]; exact (nI_succ p9).symm] at hl
                                                  rw [show x108 = nI (m9 - 1) by rw [ex108, ← Int32.sub_eq_add_neg]; exact nI_sb (a := 1) (b := m9) (by omega)] at hl
                                                  rw [ex94] at hl
                                                  have hmu2 : 2 * lf + agN v9 j9 (p9 + 1) < n := by have y := @agN_le v9 j9 (p9 + 1); omega
                                                  exact ih (p9 + 1) (m9 - 1) lf sz Ij Fj L110 hmu2 (by omega) (by omega) hIo h38j hbj h66j h68j hsz64 hFo (fun j hj => by rw [eL110, va_up_ne _ _ (by omega)]; exact hLo j hj) G111 hM hF _ _ hG hS ls (lv_sub hl [9, 10, 0, 6, 1] rfl)
                                              · skip
                                                exact absurd c_464 (by decide)
                                            · skip
                                              have hm2 : 1 < m9 := Nat.lt_of_not_le (fun y => c_284 (nI_le (b := 1) y (by decide)))
                                              refine lv_aload_n hx hb dX14_job_287 rfl (lv_at hl 6 rfl) ?_
                                              refine mm_get (v := .ref (Ar 75)) hx hb hf_X14 (fun _ h9 => h9) hown hK hG hM.1 rfl 75 (by decide) (tb_use hT tw_1466) (fun _ h9 => h9) rfl dX14_job_288 ?_
                                              refine lv_iload hx hb dX14_job_291 (lv_at hl 8 rfl) ?_
                                              refine lv_iconst (v := 2) hx hb dX14_job_293 (by decide) ?_
                                              refine lv_isub hx hb dX14_job_294 ?_
                                              rw [show ((nI m9) - 2) = nI (m9 - 2) from nI_sb (a := 2) (b := m9) (by omega)]
                                              refine mm_lald (n := 16) (f := Lj 75) hx hb hK hG 2 (hM.2.2.1 75 rfl) rfl (nI_in (N := 16) (by omega) (by decide)) dX14_job_295 ?_
                                              refine lv_topl (fun x112 ex112 => ?_)
                                              refine lv_goto (tgt := 300) hx hb dX14_job_296 (by decide) ?_
                                              refine lv_lstore (lv' := [(15, .long x112), (13, .long x106), (12, .int 0), (11, .int 2), (6, .long x94), (10, .int 18), (9, .int (nI (100 * j9 + p9))), (0, .ref o), (4, .int (nI j9)), (5, .int (nI m9)), (8, .int (nI p9))]) hx hb dX14_job_300 hl (by decide) rfl (fun ls hl => ?_)
                                              obtain ⟨x113, ex113⟩ : ∃ y : Int32, y = (nI p9) + 1 := ⟨_, rfl⟩
                                              refine lv_iinc (v := x113) (lv' := [(8, .int x113), (15, .long x112), (13, .long x106), (12, .int 0), (11, .int 2), (6, .long x94), (10, .int 18), (9, .int (nI (100 * j9 + p9))), (0, .ref o), (4, .int (nI j9)), (5, .int (nI m9))]) hx hb dX14_job_302 hl (k := 10) rfl (by rw [ex113]; rfl) (by decide) rfl (fun ls hl => ?_)
                                              refine lv_iload hx hb dX14_job_305 (lv_at hl 6 rfl) ?_
                                              refine lv_tableIn (tgt := 449) hx hb dX14_job_307 (by decide) (by decide) (off := 142) rfl (by decide) ?_
                                              obtain ⟨x114, ex114⟩ : ∃ y : Int32, y = (nI m9) + (-1) := ⟨_, rfl⟩
                                              refine lv_iinc (v := x114) (lv' := [(5, .int x114), (8, .int x113), (15, .long x112), (13, .long x106), (12, .int 0), (11, .int 2), (6, .long x94), (10, .int 18), (9, .int (nI (100 * j9 + p9))), (0, .ref o), (4, .int (nI j9))]) hx hb dX14_job_449 hl (k := 10) rfl (by rw [ex114]; rfl) (by decide) rfl (fun ls hl => ?_)
                                              refine lv_aload_n hx hb dX14_job_452 rfl (lv_at hl 9 rfl) ?_
                                              refine mm_get (v := .ref (Ar 75)) hx hb hf_X14 (fun _ h9 => h9) hown hK hG hM.1 rfl 75 (by decide) (tb_use hT tw_1466) (fun _ h9 => h9) rfl dX14_job_453 ?_
                                              refine lv_iload hx hb dX14_job_456 (lv_at hl 0 rfl) ?_
                                              refine lv_iconst (v := 1) hx hb dX14_job_458 (by decide) ?_
                                              refine lv_isub hx hb dX14_job_459 ?_
                                              rw [show (x114 - 1) = nI (m9 - 2) by rw [ex114, ← Int32.sub_eq_add_neg, show nI m9 - 1 = nI (m9 - 1) from nI_sb (a := 1) (b := m9) (by omega)]; exact (nI_sb (a := 1) (b := m9 - 1) (by omega)).trans (by rw [show m9 - 1 - 1 = m9 - 2 by omega])]
                                              refine lv_iload hx hb dX14_job_460 (lv_at hl 7 rfl) ?_
                                              refine lv_bipush (v := 17) hx hb dX14_job_462 (by decide) ?_
                                              refine lv_icmp_ne (tgt := 475) hx hb dX14_job_464 (by decide) (fun c_464 => ?_) (fun c_464 => ?_)
                                              · skip
                                                refine lv_iload hx hb dX14_job_475 (lv_at hl 7 rfl) ?_
                                                refine lv_bipush (v := 18) hx hb dX14_job_477 (by decide) ?_
                                                refine lv_icmp_ne (tgt := 490) hx hb dX14_job_479 (by decide) (fun c_479 => ?_) (fun c_479 => ?_)
                                                · skip
                                                  exact absurd (by decide) c_479
                                                · skip
                                                  refine lv_lload hx hb dX14_job_482 (lv_at hl 2 rfl) ?_
                                                  refine lv_lload hx hb dX14_job_484 (lv_at hl 3 rfl) ?_
                                                  refine lv_lsub hx hb dX14_job_486 ?_
                                                  refine lv_goto (tgt := 495) hx hb dX14_job_487 (by decide) ?_
                                                  refine lv_topl (fun x115 ex115 => ?_)
                                                  refine mm_last (n := mdN 75) (f := Lj 75) hx hb hK hG hS 2 (hM.2.2.1 75 rfl) rfl (nI_in (N := mdN 75) (by show _ < 16; omega) (by decide)) dX14_job_495 (fun H locs hG hS => ?_)
                                                  have hM := MD.setj (k := 75) (vp_updL (Lj 75) (nI (m9 - 2)).toNatClampNeg x115) hM rfl
                                                  have hF := hF.wa (k := 75) (e' := .inl (cy 2, mdN 75, .inr (.inl (vp_updL (Lj 75) (nI (m9 - 2)).toNatClampNeg x115)))) rfl
                                                  obtain ⟨L116, eL116⟩ : ∃ g, g = va_up Lj 75 (vp_updL (Lj 75) (nI (m9 - 2)).toNatClampNeg x115) := ⟨_, rfl⟩
                                                  rw [← eL116] at hM
                                                  generalize mm_set _ _ _ = G117 at hG hM hF
                                                  refine lv_goto (tgt := 582) hx hb dX14_job_496 (by decide) ?_
                                                  refine lv_goto (tgt := 68) hx hb dX14_job_582 (by decide) ?_
                                                  rw [show x113 = nI (p9 + 1) by rw [ex113]; exact (nI_succ p9).symm] at hl
                                                  rw [show x114 = nI (m9 - 1) by rw [ex114, ← Int32.sub_eq_add_neg]; exact nI_sb (a := 1) (b := m9) (by omega)] at hl
                                                  rw [ex94] at hl
                                                  have hmu2 : 2 * lf + agN v9 j9 (p9 + 1) < n := by have y := @agN_le v9 j9 (p9 + 1); omega
                                                  exact ih (p9 + 1) (m9 - 1) lf sz Ij Fj L116 hmu2 (by omega) (by omega) hIo h38j hbj h66j h68j hsz64 hFo (fun j hj => by rw [eL116, va_up_ne _ _ (by omega)]; exact hLo j hj) G117 hM hF _ _ hG hS ls (lv_sub hl [9, 10, 0, 6, 1] rfl)
                                              · skip
                                                exact absurd c_464 (by decide)
                                        · skip
                                          exact absurd (by decide) c_248
                                    · skip
                                      exact absurd c_229 (by decide)
                              · skip
                                exact absurd (by decide) c_187
                          · skip
                            exact absurd c_169 (by decide)
                      · skip
                        refine lv_iconst (v := 0) hx hb dX14_job_150 (by decide) ?_
                        exact W.iret (v := 0) hx hb hr (fun t ht hW => ⟨⟨_, _, rfl, ⟨Ij, Fj, Lj, hM, hF, hIo, h38j, ⟨sz, hsz64, h68j⟩, hFo, hLo⟩, mk_end hG ht⟩, hS.F ht⟩) hS.2.2 dX14_job_151
                    · skip
                      exact absurd c_119 (by decide)
                  · skip
                    replace hkd := hkde.trans hkd
                    rw [show x9 = 19 by rw [hx35, hkd]; rfl] at hl
                    refine lv_iload hx hb dX14_job_115 (lv_at hl 0 rfl) ?_
                    refine lv_bipush (v := 25) hx hb dX14_job_117 (by decide) ?_
                    refine lv_icmp_ne (tgt := 143) hx hb dX14_job_119 (by decide) (fun c_119 => ?_) (fun c_119 => ?_)
                    · skip
                      refine lv_lload hx hb dX14_job_143 (lv_at hl 5 rfl) ?_
                      refine lv_lconst (v := 0) hx hb dX14_job_145 (by decide) ?_
                      refine W.lcmp hx hb dX14_job_146 ?_
                      refine lv_if_ne (tgt := 152) hx hb dX14_job_147 (by decide) (fun c_147 => ?_) (fun c_147 => ?_)
                      · skip
                        obtain ⟨lf, hlf⟩ : ∃ y, lf9 = y + 1 := ⟨lf9 - 1, by have y : lf9 ≠ 0 := fun z => c_147 ((lg_cmp_eq _ _).mpr (by rw [z]; rfl)); omega⟩
                        rw [hlf] at hl hmu
                        refine lv_lload hx hb dX14_job_152 (lv_at hl 5 rfl) ?_
                        refine lv_lconst (v := 1) hx hb dX14_job_154 (by decide) ?_
                        refine lv_lsub hx hb dX14_job_155 ?_
                        rw [i64_dec (by omega)]
                        refine lv_topl (fun x119 ex119 => ?_)
                        refine lv_lstore (lv' := [(6, .long x119), (10, .int 19), (9, .int (nI (100 * j9 + p9))), (0, .ref o), (4, .int (nI j9)), (5, .int (nI m9)), (8, .int (nI p9))]) hx hb dX14_job_156 hl (by decide) rfl (fun ls hl => ?_)
                        refine lv_iload hx hb dX14_job_158 (lv_at hl 1 rfl) ?_
                        refine lv_bipush (v := 15) hx hb dX14_job_160 (by decide) ?_
                        refine lv_icmp_eq (tgt := 172) hx hb dX14_job_162 (by decide) (fun c_162 => ?_) (fun c_162 => ?_)
                        · skip
                          exact absurd c_162 (by decide)
                        · skip
                          refine lv_iload hx hb dX14_job_165 (lv_at hl 1 rfl) ?_
                          refine lv_bipush (v := 16) hx hb dX14_job_167 (by decide) ?_
                          refine lv_icmp_ne (tgt := 176) hx hb dX14_job_169 (by decide) (fun c_169 => ?_) (fun c_169 => ?_)
                          · skip
                            refine lv_iload hx hb dX14_job_176 (lv_at hl 1 rfl) ?_
                            refine lv_bipush (v := 17) hx hb dX14_job_178 (by decide) ?_
                            refine lv_icmp_eq (tgt := 204) hx hb dX14_job_180 (by decide) (fun c_180 => ?_) (fun c_180 => ?_)
                            · skip
                              exact absurd c_180 (by decide)
                            · skip
                              refine lv_iload hx hb dX14_job_183 (lv_at hl 1 rfl) ?_
                              refine lv_bipush (v := 18) hx hb dX14_job_185 (by decide) ?_
                              refine lv_icmp_eq (tgt := 204) hx hb dX14_job_187 (by decide) (fun c_187 => ?_) (fun c_187 => ?_)
                              · skip
                                exact absurd c_187 (by decide)
                              · skip
                                refine lv_iload hx hb dX14_job_190 (lv_at hl 1 rfl) ?_
                                refine lv_bipush (v := 19) hx hb dX14_job_192 (by decide) ?_
                                refine lv_icmp_eq (tgt := 204) hx hb dX14_job_194 (by decide) (fun c_194 => ?_) (fun c_194 => ?_)
                                · skip
                                  refine lv_iconst (v := 2) hx hb dX14_job_204 (by decide) ?_
                                  refine lv_goto (tgt := 209) hx hb dX14_job_205 (by decide) ?_
                                  refine lv_istore (lv' := [(11, .int 2), (6, .long x119), (10, .int 19), (9, .int (nI (100 * j9 + p9))), (0, .ref o), (4, .int (nI j9)), (5, .int (nI m9)), (8, .int (nI p9))]) hx hb dX14_job_209 hl (by decide) rfl (fun ls hl => ?_)
                                  refine lv_iload hx hb dX14_job_211 (lv_at hl 2 rfl) ?_
                                  refine lv_bipush (v := 15) hx hb dX14_job_213 (by decide) ?_
                                  refine lv_icmp_eq (tgt := 232) hx hb dX14_job_215 (by decide) (fun c_215 => ?_) (fun c_215 => ?_)
                                  · skip
                                    exact absurd c_215 (by decide)
                                  · skip
                                    refine lv_iload hx hb dX14_job_218 (lv_at hl 2 rfl) ?_
                                    refine lv_bipush (v := 16) hx hb dX14_job_220 (by decide) ?_
                                    refine lv_icmp_eq (tgt := 232) hx hb dX14_job_222 (by decide) (fun c_222 => ?_) (fun c_222 => ?_)
                                    · skip
                                      exact absurd c_222 (by decide)
                                    · skip
                                      refine lv_iload hx hb dX14_job_225 (lv_at hl 2 rfl) ?_
                                      refine lv_bipush (v := 20) hx hb dX14_job_227 (by decide) ?_
                                      refine lv_icmp_ne (tgt := 236) hx hb dX14_job_229 (by decide) (fun c_229 => ?_) (fun c_229 => ?_)
                                      · skip
                                        refine lv_iconst (v := 0) hx hb dX14_job_236 (by decide) ?_
                                        refine lv_istore (lv' := [(12, .int 0), (11, .int 2), (6, .long x119), (10, .int 19), (9, .int (nI (100 * j9 + p9))), (0, .ref o), (4, .int (nI j9)), (5, .int (nI m9)), (8, .int (nI p9))]) hx hb dX14_job_237 hl (by decide) rfl (fun ls hl => ?_)
                                        refine lv_iload hx hb dX14_job_239 (lv_at hl 7 rfl) ?_
                                        refine lv_iload hx hb dX14_job_241 (lv_at hl 1 rfl) ?_
                                        refine lv_icmp_lt (tgt := 258) hx hb dX14_job_243 (by decide) (fun c_243 => ?_) (fun c_243 => ?_)
                                        · skip
                                          refine lv_bipush (v := (-3)) hx hb dX14_job_258 (by decide) ?_
                                          exact W.iret (v := (-3)) hx hb hr (fun t ht hW => ⟨⟨_, _, rfl, ⟨Ij, Fj, Lj, hM, hF, hIo, h38j, ⟨sz, hsz64, h68j⟩, hFo, hLo⟩, mk_end hG ht⟩, hS.F ht⟩) hS.2.2 dX14_job_260
                                        · skip
                                          refine lv_iload hx hb dX14_job_246 (lv_at hl 0 rfl) ?_
                                          refine lv_if_eq (tgt := 261) hx hb dX14_job_248 (by decide) (fun c_248 => ?_) (fun c_248 => ?_)
                                          · skip
                                            have hmw : 2 ≤ m9 := Nat.le_of_not_lt (fun y => c_243 (nI_lt (b := 2) y (by decide)))
                                            refine lv_iload hx hb dX14_job_261 (lv_at hl 7 rfl) ?_
                                            refine lv_if_le (tgt := 278) hx hb dX14_job_263 (by decide) (fun c_263 => ?_) (fun c_263 => ?_)
                                            · skip
                                              refine lv_lconst (v := 0) hx hb dX14_job_278 (by decide) ?_
                                              refine lv_lstore (lv' := [(13, .long 0), (12, .int 0), (11, .int 2), (6, .long x119), (10, .int 19), (9, .int (nI (100 * j9 + p9))), (0, .ref o), (4, .int (nI j9)), (5, .int (nI m9)), (8, .int (nI p9))]) hx hb dX14_job_279 hl (by decide) rfl (fun ls hl => ?_)
                                              refine lv_iload hx hb dX14_job_281 (lv_at hl 8 rfl) ?_
                                              refine lv_iconst (v := 1) hx hb dX14_job_283 (by decide) ?_
                                              refine lv_icmp_le (tgt := 299) hx hb dX14_job_284 (by decide) (fun c_284 => ?_) (fun c_284 => ?_)
                                              · skip
                                                refine lv_lconst (v := 0) hx hb dX14_job_299 (by decide) ?_
                                                refine lv_lstore (lv' := [(15, .long 0), (13, .long 0), (12, .int 0), (11, .int 2), (6, .long x119), (10, .int 19), (9, .int (nI (100 * j9 + p9))), (0, .ref o), (4, .int (nI j9)), (5, .int (nI m9)), (8, .int (nI p9))]) hx hb dX14_job_300 hl (by decide) rfl (fun ls hl => ?_)
                                                obtain ⟨x120, ex120⟩ : ∃ y : Int32, y = (nI p9) + 1 := ⟨_, rfl⟩
                                                refine lv_iinc (v := x120) (lv' := [(8, .int x120), (15, .long 0), (13, .long 0), (12, .int 0), (11, .int 2), (6, .long x119), (10, .int 19), (9, .int (nI (100 * j9 + p9))), (0, .ref o), (4, .int (nI j9)), (5, .int (nI m9))]) hx hb dX14_job_302 hl (k := 10) rfl (by rw [ex120]; rfl) (by decide) rfl (fun ls hl => ?_)
                                                refine lv_iload hx hb dX14_job_305 (lv_at hl 6 rfl) ?_
                                                refine lv_tableIn (tgt := 449) hx hb dX14_job_307 (by decide) (by decide) (off := 142) rfl (by decide) ?_
                                                obtain ⟨x121, ex121⟩ : ∃ y : Int32, y = (nI m9) + (-1) := ⟨_, rfl⟩
                                                refine lv_iinc (v := x121) (lv' := [(5, .int x121), (8, .int x120), (15, .long 0), (13, .long 0), (12, .int 0), (11, .int 2), (6, .long x119), (10, .int 19), (9, .int (nI (100 * j9 + p9))), (0, .ref o), (4, .int (nI j9))]) hx hb dX14_job_449 hl (k := 10) rfl (by rw [ex121]; rfl) (by decide) rfl (fun ls hl => ?_)
                                                refine lv_aload_n hx hb dX14_job_452 rfl (lv_at hl 9 rfl) ?_
                                                refine mm_get (v := .ref (Ar 75)) hx hb hf_X14 (fun _ h9 => h9) hown hK hG hM.1 rfl 75 (by decide) (tb_use hT tw_1466) (fun _ h9 => h9) rfl dX14_job_453 ?_
                                                refine lv_iload hx hb dX14_job_456 (lv_at hl 0 rfl) ?_
                                                refine lv_iconst (v := 1) hx hb dX14_job_458 (by decide) ?_
                                                refine lv_isub hx hb dX14_job_459 ?_
                                                rw [show (x121 - 1) = nI (m9 - 2) by rw [ex121, ← Int32.sub_eq_add_neg, show nI m9 - 1 = nI (m9 - 1) from nI_sb (a := 1) (b := m9) (by omega)]; exact (nI_sb (a := 1) (b := m9 - 1) (by omega)).trans (by rw [show m9 - 1 - 1 = m9 - 2 by omega])]
                                                refine lv_iload hx hb dX14_job_460 (lv_at hl 7 rfl) ?_
                                                refine lv_bipush (v := 17) hx hb dX14_job_462 (by decide) ?_
                                                refine lv_icmp_ne (tgt := 475) hx hb dX14_job_464 (by decide) (fun c_464 => ?_) (fun c_464 => ?_)
                                                · skip
                                                  refine lv_iload hx hb dX14_job_475 (lv_at hl 7 rfl) ?_
                                                  refine lv_bipush (v := 18) hx hb dX14_job_477 (by decide) ?_
                                                  refine lv_icmp_ne (tgt := 490) hx hb dX14_job_479 (by decide) (fun c_479 => ?_) (fun c_479 => ?_)
                                                  · skip
                                                    refine lv_lload hx hb dX14_job_490 (lv_at hl 2 rfl) ?_
                                                    refine lv_lload hx hb dX14_job_492 (lv_at hl 3 rfl) ?_
                                                    refine lv_lmul hx hb dX14_job_494 ?_
                                                    refine lv_topl (fun x122 ex122 => ?_)
                                                    refine mm_last (n := mdN 75) (f := Lj 75) hx hb hK hG hS 2 (hM.2.2.1 75 rfl) rfl (nI_in (N := mdN 75) (by show _ < 16; omega) (by decide)) dX14_job_495 (fun H locs hG hS => ?_)
                                                    have hM := MD.setj (k := 75) (vp_updL (Lj 75) (nI (m9 - 2)).toNatClampNeg x122) hM rfl
                                                    have hF := hF.wa (k := 75) (e' := .inl (cy 2, mdN 75, .inr (.inl (vp_updL (Lj 75) (nI (m9 - 2)).toNatClampNeg x122)))) rfl
                                                    obtain ⟨L123, eL123⟩ : ∃ g, g = va_up Lj 75 (vp_updL (Lj 75) (nI (m9 - 2)).toNatClampNeg x122) := ⟨_, rfl⟩
                                                    rw [← eL123] at hM
                                                    generalize mm_set _ _ _ = G124 at hG hM hF
                                                    refine lv_goto (tgt := 582) hx hb dX14_job_496 (by decide) ?_
                                                    refine lv_goto (tgt := 68) hx hb dX14_job_582 (by decide) ?_
                                                    rw [show x120 = nI (p9 + 1) by rw [ex120]; exact (nI_succ p9).symm] at hl
                                                    rw [show x121 = nI (m9 - 1) by rw [ex121, ← Int32.sub_eq_add_neg]; exact nI_sb (a := 1) (b := m9) (by omega)] at hl
                                                    rw [ex119] at hl
                                                    have hmu2 : 2 * lf + agN v9 j9 (p9 + 1) < n := by have y := @agN_le v9 j9 (p9 + 1); omega
                                                    exact ih (p9 + 1) (m9 - 1) lf sz Ij Fj L123 hmu2 (by omega) (by omega) hIo h38j hbj h66j h68j hsz64 hFo (fun j hj => by rw [eL123, va_up_ne _ _ (by omega)]; exact hLo j hj) G124 hM hF _ _ hG hS ls (lv_sub hl [9, 10, 0, 6, 1] rfl)
                                                  · skip
                                                    exact absurd c_479 (by decide)
                                                · skip
                                                  exact absurd c_464 (by decide)
                                              · skip
                                                have hm2 : 1 < m9 := Nat.lt_of_not_le (fun y => c_284 (nI_le (b := 1) y (by decide)))
                                                refine lv_aload_n hx hb dX14_job_287 rfl (lv_at hl 6 rfl) ?_
                                                refine mm_get (v := .ref (Ar 75)) hx hb hf_X14 (fun _ h9 => h9) hown hK hG hM.1 rfl 75 (by decide) (tb_use hT tw_1466) (fun _ h9 => h9) rfl dX14_job_288 ?_
                                                refine lv_iload hx hb dX14_job_291 (lv_at hl 8 rfl) ?_
                                                refine lv_iconst (v := 2) hx hb dX14_job_293 (by decide) ?_
                                                refine lv_isub hx hb dX14_job_294 ?_
                                                rw [show ((nI m9) - 2) = nI (m9 - 2) from nI_sb (a := 2) (b := m9) (by omega)]
                                                refine mm_lald (n := 16) (f := Lj 75) hx hb hK hG 2 (hM.2.2.1 75 rfl) rfl (nI_in (N := 16) (by omega) (by decide)) dX14_job_295 ?_
                                                refine lv_topl (fun x125 ex125 => ?_)
                                                refine lv_goto (tgt := 300) hx hb dX14_job_296 (by decide) ?_
                                                refine lv_lstore (lv' := [(15, .long x125), (13, .long 0), (12, .int 0), (11, .int 2), (6, .long x119), (10, .int 19), (9, .int (nI (100 * j9 + p9))), (0, .ref o), (4, .int (nI j9)), (5, .int (nI m9)), (8, .int (nI p9))]) hx hb dX14_job_300 hl (by decide) rfl (fun ls hl => ?_)
                                                obtain ⟨x126, ex126⟩ : ∃ y : Int32, y = (nI p9) + 1 := ⟨_, rfl⟩
                                                refine lv_iinc (v := x126) (lv' := [(8, .int x126), (15, .long x125), (13, .long 0), (12, .int 0), (11, .int 2), (6, .long x119), (10, .int 19), (9, .int (nI (100 * j9 + p9))), (0, .ref o), (4, .int (nI j9)), (5, .int (nI m9))]) hx hb dX14_job_302 hl (k := 10) rfl (by rw [ex126]; rfl) (by decide) rfl (fun ls hl => ?_)
                                                refine lv_iload hx hb dX14_job_305 (lv_at hl 6 rfl) ?_
                                                refine lv_tableIn (tgt := 449) hx hb dX14_job_307 (by decide) (by decide) (off := 142) rfl (by decide) ?_
                                                obtain ⟨x127, ex127⟩ : ∃ y : Int32, y = (nI m9) + (-1) := ⟨_, rfl⟩
                                                refine lv_iinc (v := x127) (lv' := [(5, .int x127), (8, .int x126), (15, .long x125), (13, .long 0), (12, .int 0), (11, .int 2), (6, .long x119), (10, .int 19), (9, .int (nI (100 * j9 + p9))), (0, .ref o), (4, .int (nI j9))]) hx hb dX14_job_449 hl (k := 10) rfl (by rw [ex127]; rfl) (by decide) rfl (fun ls hl => ?_)
                                                refine lv_aload_n hx hb dX14_job_452 rfl (lv_at hl 9 rfl) ?_
                                                refine mm_get (v := .ref (Ar 75)) hx hb hf_X14 (fun _ h9 => h9) hown hK hG hM.1 rfl 75 (by decide) (tb_use hT tw_1466) (fun _ h9 => h9) rfl dX14_job_453 ?_
                                                refine lv_iload hx hb dX14_job_456 (lv_at hl 0 rfl) ?_
                                                refine lv_iconst (v := 1) hx hb dX14_job_458 (by decide) ?_
                                                refine lv_isub hx hb dX14_job_459 ?_
                                                rw [show (x127 - 1) = nI (m9 - 2) by rw [ex127, ← Int32.sub_eq_add_neg, show nI m9 - 1 = nI (m9 - 1) from nI_sb (a := 1) (b := m9) (by omega)]; exact (nI_sb (a := 1) (b := m9 - 1) (by omega)).trans (by rw [show m9 - 1 - 1 = m9 - 2 by omega])]
                                                refine lv_iload hx hb dX14_job_460 (lv_at hl 7 rfl) ?_
                                                refine lv_bipush (v := 17) hx hb dX14_job_462 (by decide) ?_
                                                refine lv_icmp_ne (tgt := 475) hx hb dX14_job_464 (by decide) (fun c_464 => ?_) (fun c_464 => ?_)
                                                · skip
                                                  refine lv_iload hx hb dX14_job_475 (lv_at hl 7 rfl) ?_
                                                  refine lv_bipush (v := 18) hx hb dX14_job_477 (by decide) ?_
                                                  refine lv_icmp_ne (tgt := 490) hx hb dX14_job_479 (by decide) (fun c_479 => ?_) (fun c_479 => ?_)
                                                  · skip
                                                    refine lv_lload hx hb dX14_job_490 (lv_at hl 2 rfl) ?_
                                                    refine lv_lload hx hb dX14_job_492 (lv_at hl 3 rfl) ?_
                                                    refine lv_lmul hx hb dX14_job_494 ?_
                                                    refine lv_topl (fun x128 ex128 => ?_)
                                                    refine mm_last (n := mdN 75) (f := Lj 75) hx hb hK hG hS 2 (hM.2.2.1 75 rfl) rfl (nI_in (N := mdN 75) (by show _ < 16; omega) (by decide)) dX14_job_495 (fun H locs hG hS => ?_)
                                                    have hM := MD.setj (k := 75) (vp_updL (Lj 75) (nI (m9 - 2)).toNatClampNeg x128) hM rfl
                                                    have hF := hF.wa (k := 75) (e' := .inl (cy 2, mdN 75, .inr (.inl (vp_updL (Lj 75) (nI (m9 - 2)).toNatClampNeg x128)))) rfl
                                                    obtain ⟨L129, eL129⟩ : ∃ g, g = va_up Lj 75 (vp_updL (Lj 75) (nI (m9 - 2)).toNatClampNeg x128) := ⟨_, rfl⟩
                                                    rw [← eL129] at hM
                                                    generalize mm_set _ _ _ = G130 at hG hM hF
                                                    refine lv_goto (tgt := 582) hx hb dX14_job_496 (by decide) ?_
                                                    refine lv_goto (tgt := 68) hx hb dX14_job_582 (by decide) ?_
                                                    rw [show x126 = nI (p9 + 1) by rw [ex126]; exact (nI_succ p9).symm] at hl
                                                    rw [show x127 = nI (m9 - 1) by rw [ex127, ← Int32.sub_eq_add_neg]; exact nI_sb (a := 1) (b := m9) (by omega)] at hl
                                                    rw [ex119] at hl
                                                    have hmu2 : 2 * lf + agN v9 j9 (p9 + 1) < n := by have y := @agN_le v9 j9 (p9 + 1); omega
                                                    exact ih (p9 + 1) (m9 - 1) lf sz Ij Fj L129 hmu2 (by omega) (by omega) hIo h38j hbj h66j h68j hsz64 hFo (fun j hj => by rw [eL129, va_up_ne _ _ (by omega)]; exact hLo j hj) G130 hM hF _ _ hG hS ls (lv_sub hl [9, 10, 0, 6, 1] rfl)
                                                  · skip
                                                    exact absurd c_479 (by decide)
                                                · skip
                                                  exact absurd c_464 (by decide)
                                            · skip
                                              have hm1 : 0 < m9 := Nat.pos_of_ne_zero (fun y => c_263 (by rw [y]; exact Int32.le_refl 0))
                                              refine lv_aload_n hx hb dX14_job_266 rfl (lv_at hl 5 rfl) ?_
                                              refine mm_get (v := .ref (Ar 75)) hx hb hf_X14 (fun _ h9 => h9) hown hK hG hM.1 rfl 75 (by decide) (tb_use hT tw_1466) (fun _ h9 => h9) rfl dX14_job_267 ?_
                                              refine lv_iload hx hb dX14_job_270 (lv_at hl 7 rfl) ?_
                                              refine lv_iconst (v := 1) hx hb dX14_job_272 (by decide) ?_
                                              refine lv_isub hx hb dX14_job_273 ?_
                                              rw [show ((nI m9) - 1) = nI (m9 - 1) from nI_sb (a := 1) (b := m9) (by omega)]
                                              refine mm_lald (n := 16) (f := Lj 75) hx hb hK hG 2 (hM.2.2.1 75 rfl) rfl (nI_in (N := 16) (by omega) (by decide)) dX14_job_274 ?_
                                              refine lv_topl (fun x131 ex131 => ?_)
                                              refine lv_goto (tgt := 279) hx hb dX14_job_275 (by decide) ?_
                                              refine lv_lstore (lv' := [(13, .long x131), (12, .int 0), (11, .int 2), (6, .long x119), (10, .int 19), (9, .int (nI (100 * j9 + p9))), (0, .ref o), (4, .int (nI j9)), (5, .int (nI m9)), (8, .int (nI p9))]) hx hb dX14_job_279 hl (by decide) rfl (fun ls hl => ?_)
                                              refine lv_iload hx hb dX14_job_281 (lv_at hl 8 rfl) ?_
                                              refine lv_iconst (v := 1) hx hb dX14_job_283 (by decide) ?_
                                              refine lv_icmp_le (tgt := 299) hx hb dX14_job_284 (by decide) (fun c_284 => ?_) (fun c_284 => ?_)
                                              · skip
                                                refine lv_lconst (v := 0) hx hb dX14_job_299 (by decide) ?_
                                                refine lv_lstore (lv' := [(15, .long 0), (13, .long x131), (12, .int 0), (11, .int 2), (6, .long x119), (10, .int 19), (9, .int (nI (100 * j9 + p9))), (0, .ref o), (4, .int (nI j9)), (5, .int (nI m9)), (8, .int (nI p9))]) hx hb dX14_job_300 hl (by decide) rfl (fun ls hl => ?_)
                                                obtain ⟨x132, ex132⟩ : ∃ y : Int32, y = (nI p9) + 1 := ⟨_, rfl⟩
                                                refine lv_iinc (v := x132) (lv' := [(8, .int x132), (15, .long 0), (13, .long x131), (12, .int 0), (11, .int 2), (6, .long x119), (10, .int 19), (9, .int (nI (100 * j9 + p9))), (0, .ref o), (4, .int (nI j9)), (5, .int (nI m9))]) hx hb dX14_job_302 hl (k := 10) rfl (by rw [ex132]; rfl) (by decide) rfl (fun ls hl => ?_)
                                                refine lv_iload hx hb dX14_job_305 (lv_at hl 6 rfl) ?_
                                                refine lv_tableIn (tgt := 449) hx hb dX14_job_307 (by decide) (by decide) (off := 142) rfl (by decide) ?_
                                                obtain ⟨x133, ex133⟩ : ∃ y : Int32, y = (nI m9) + (-1) := ⟨_, rfl⟩
                                                refine lv_iinc (v := x133) (lv' := [(5, .int x133), (8, .int x132), (15, .long 0), (13, .long x131), (12, .int 0), (11, .int 2), (6, .long x119), (10, .int 19), (9, .int (nI (100 * j9 + p9))), (0, .ref o), (4, .int (nI j9))]) hx hb dX14_job_449 hl (k := 10) rfl (by rw [ex133]; rfl) (by decide) rfl (fun ls hl => ?_)
                                                refine lv_aload_n hx hb dX14_job_452 rfl (lv_at hl 9 rfl) ?_
                                                refine mm_get (v := .ref (Ar 75)) hx hb hf_X14 (fun _ h9 => h9) hown hK hG hM.1 rfl 75 (by decide) (tb_use hT tw_1466) (fun _ h9 => h9) rfl dX14_job_453 ?_
                                                refine lv_iload hx hb dX14_job_456 (lv_at hl 0 rfl) ?_
                                                refine lv_iconst (v := 1) hx hb dX14_job_458 (by decide) ?_
                                                refine lv_isub hx hb dX14_job_459 ?_
                                                rw [show (x133 - 1) = nI (m9 - 2) by rw [ex133, ← Int32.sub_eq_add_neg, show nI m9 - 1 = nI (m9 - 1) from nI_sb (a := 1) (b := m9) (by omega)]; exact (nI_sb (a := 1) (b := m9 - 1) (by omega)).trans (by rw [show m9 - 1 - 1 = m9 - 2 by omega])]
                                                refine lv_iload hx hb dX14_job_460 (lv_at hl 7 rfl) ?_
                                                refine lv_bipush (v := 17) hx hb dX14_job_462 (by decide) ?_
                                                refine lv_icmp_ne (tgt := 475) hx hb dX14_job_464 (by decide) (fun c_464 => ?_) (fun c_464 => ?_)
                                                · skip
                                                  refine lv_iload hx hb dX14_job_475 (lv_at hl 7 rfl) ?_
                                                  refine lv_bipush (v := 18) hx hb dX14_job_477 (by decide) ?_
                                                  refine lv_icmp_ne (tgt := 490) hx hb dX14_job_479 (by decide) (fun c_479 => ?_) (fun c_479 => ?_)
                                                  · skip
                                                    refine lv_lload hx hb dX14_job_490 (lv_at hl 2 rfl) ?_
                                                    refine lv_lload hx hb dX14_job_492 (lv_at hl 3 rfl) ?_
                                                    refine lv_lmul hx hb dX14_job_494 ?_
                                                    refine lv_topl (fun x134 ex134 => ?_)
                                                    refine mm_last (n := mdN 75) (f := Lj 75) hx hb hK hG hS 2 (hM.2.2.1 75 rfl) rfl (nI_in (N := mdN 75) (by show _ < 16; omega) (by decide)) dX14_job_495 (fun H locs hG hS => ?_)
                                                    have hM := MD.setj (k := 75) (vp_updL (Lj 75) (nI (m9 - 2)).toNatClampNeg x134) hM rfl
                                                    have hF := hF.wa (k := 75) (e' := .inl (cy 2, mdN 75, .inr (.inl (vp_updL (Lj 75) (nI (m9 - 2)).toNatClampNeg x134)))) rfl
                                                    obtain ⟨L135, eL135⟩ : ∃ g, g = va_up Lj 75 (vp_updL (Lj 75) (nI (m9 - 2)).toNatClampNeg x134) := ⟨_, rfl⟩
                                                    rw [← eL135] at hM
                                                    generalize mm_set _ _ _ = G136 at hG hM hF
                                                    refine lv_goto (tgt := 582) hx hb dX14_job_496 (by decide) ?_
                                                    refine lv_goto (tgt := 68) hx hb dX14_job_582 (by decide) ?_
                                                    rw [show x132 = nI (p9 + 1) by rw [ex132]; exact (nI_succ p9).symm] at hl
                                                    rw [show x133 = nI (m9 - 1) by rw [ex133, ← Int32.sub_eq_add_neg]; exact nI_sb (a := 1) (b := m9) (by omega)] at hl
                                                    rw [ex119] at hl
                                                    have hmu2 : 2 * lf + agN v9 j9 (p9 + 1) < n := by have y := @agN_le v9 j9 (p9 + 1); omega
                                                    exact ih (p9 + 1) (m9 - 1) lf sz Ij Fj L135 hmu2 (by omega) (by omega) hIo h38j hbj h66j h68j hsz64 hFo (fun j hj => by rw [eL135, va_up_ne _ _ (by omega)]; exact hLo j hj) G136 hM hF _ _ hG hS ls (lv_sub hl [9, 10, 0, 6, 1] rfl)
                                                  · skip
                                                    exact absurd c_479 (by decide)
                                                · skip
                                                  exact absurd c_464 (by decide)
                                              · skip
                                                have hm2 : 1 < m9 := Nat.lt_of_not_le (fun y => c_284 (nI_le (b := 1) y (by decide)))
                                                refine lv_aload_n hx hb dX14_job_287 rfl (lv_at hl 6 rfl) ?_
                                                refine mm_get (v := .ref (Ar 75)) hx hb hf_X14 (fun _ h9 => h9) hown hK hG hM.1 rfl 75 (by decide) (tb_use hT tw_1466) (fun _ h9 => h9) rfl dX14_job_288 ?_
                                                refine lv_iload hx hb dX14_job_291 (lv_at hl 8 rfl) ?_
                                                refine lv_iconst (v := 2) hx hb dX14_job_293 (by decide) ?_
                                                refine lv_isub hx hb dX14_job_294 ?_
                                                rw [show ((nI m9) - 2) = nI (m9 - 2) from nI_sb (a := 2) (b := m9) (by omega)]
                                                refine mm_lald (n := 16) (f := Lj 75) hx hb hK hG 2 (hM.2.2.1 75 rfl) rfl (nI_in (N := 16) (by omega) (by decide)) dX14_job_295 ?_
                                                refine lv_topl (fun x137 ex137 => ?_)
                                                refine lv_goto (tgt := 300) hx hb dX14_job_296 (by decide) ?_
                                                refine lv_lstore (lv' := [(15, .long x137), (13, .long x131), (12, .int 0), (11, .int 2), (6, .long x119), (10, .int 19), (9, .int (nI (100 * j9 + p9))), (0, .ref o), (4, .int (nI j9)), (5, .int (nI m9)), (8, .int (nI p9))]) hx hb dX14_job_300 hl (by decide) rfl (fun ls hl => ?_)
                                                obtain ⟨x138, ex138⟩ : ∃ y : Int32, y = (nI p9) + 1 := ⟨_, rfl⟩
                                                refine lv_iinc (v := x138) (lv' := [(8, .int x138), (15, .long x137), (13, .long x131), (12, .int 0), (11, .int 2), (6, .long x119), (10, .int 19), (9, .int (nI (100 * j9 + p9))), (0, .ref o), (4, .int (nI j9)), (5, .int (nI m9))]) hx hb dX14_job_302 hl (k := 10) rfl (by rw [ex138]; rfl) (by decide) rfl (fun ls hl => ?_)
                                                refine lv_iload hx hb dX14_job_305 (lv_at hl 6 rfl) ?_
                                                refine lv_tableIn (tgt := 449) hx hb dX14_job_307 (by decide) (by decide) (off := 142) rfl (by decide) ?_
                                                obtain ⟨x139, ex139⟩ : ∃ y : Int32, y = (nI m9) + (-1) := ⟨_, rfl⟩
                                                refine lv_iinc (v := x139) (lv' := [(5, .int x139), (8, .int x138), (15, .long x137), (13, .long x131), (12, .int 0), (11, .int 2), (6, .long x119), (10, .int 19), (9, .int (nI (100 * j9 + p9))), (0, .ref o), (4, .int (nI j9))]) hx hb dX14_job_449 hl (k := 10) rfl (by rw [ex139]; rfl) (by decide) rfl (fun ls hl => ?_)
                                                refine lv_aload_n hx hb dX14_job_452 rfl (lv_at hl 9 rfl) ?_
                                                refine mm_get (v := .ref (Ar 75)) hx hb hf_X14 (fun _ h9 => h9) hown hK hG hM.1 rfl 75 (by decide) (tb_use hT tw_1466) (fun _ h9 => h9) rfl dX14_job_453 ?_
                                                refine lv_iload hx hb dX14_job_456 (lv_at hl 0 rfl) ?_
                                                refine lv_iconst (v := 1) hx hb dX14_job_458 (by decide) ?_
                                                refine lv_isub hx hb dX14_job_459 ?_
                                                rw [show (x139 - 1) = nI (m9 - 2) by rw [ex139, ← Int32.sub_eq_add_neg, show nI m9 - 1 = nI (m9 - 1) from nI_sb (a := 1) (b := m9) (by omega)]; exact (nI_sb (a := 1) (b := m9 - 1) (by omega)).trans (by rw [show m9 - 1 - 1 = m9 - 2 by omega])]
                                                refine lv_iload hx hb dX14_job_460 (lv_at hl 7 rfl) ?_
                                                refine lv_bipush (v := 17) hx hb dX14_job_462 (by decide) ?_
                                                refine lv_icmp_ne (tgt := 475) hx hb dX14_job_464 (by decide) (fun c_464 => ?_) (fun c_464 => ?_)
                                                · skip
                                                  refine lv_iload hx hb dX14_job_475 (lv_at hl 7 rfl) ?_
                                                  refine lv_bipush (v := 18) hx hb dX14_job_477 (by decide) ?_
                                                  refine lv_icmp_ne (tgt := 490) hx hb dX14_job_479 (by decide) (fun c_479 => ?_) (fun c_479 => ?_)
                                                  · skip
                                                    refine lv_lload hx hb dX14_job_490 (lv_at hl 2 rfl) ?_
                                                    refine lv_lload hx hb dX14_job_492 (lv_at hl 3 rfl) ?_
                                                    refine lv_lmul hx hb dX14_job_494 ?_
                                                    refine lv_topl (fun x140 ex140 => ?_)
                                                    refine mm_last (n := mdN 75) (f := Lj 75) hx hb hK hG hS 2 (hM.2.2.1 75 rfl) rfl (nI_in (N := mdN 75) (by show _ < 16; omega) (by decide)) dX14_job_495 (fun H locs hG hS => ?_)
                                                    have hM := MD.setj (k := 75) (vp_updL (Lj 75) (nI (m9 - 2)).toNatClampNeg x140) hM rfl
                                                    have hF := hF.wa (k := 75) (e' := .inl (cy 2, mdN 75, .inr (.inl (vp_updL (Lj 75) (nI (m9 - 2)).toNatClampNeg x140)))) rfl
                                                    obtain ⟨L141, eL141⟩ : ∃ g, g = va_up Lj 75 (vp_updL (Lj 75) (nI (m9 - 2)).toNatClampNeg x140) := ⟨_, rfl⟩
                                                    rw [← eL141] at hM
                                                    generalize mm_set _ _ _ = G142 at hG hM hF
                                                    refine lv_goto (tgt := 582) hx hb dX14_job_496 (by decide) ?_
                                                    refine lv_goto (tgt := 68) hx hb dX14_job_582 (by decide) ?_
                                                    rw [show x138 = nI (p9 + 1) by rw [ex138]; exact (nI_succ p9).symm] at hl
                                                    rw [show x139 = nI (m9 - 1) by rw [ex139, ← Int32.sub_eq_add_neg]; exact nI_sb (a := 1) (b := m9) (by omega)] at hl
                                                    rw [ex119] at hl
                                                    have hmu2 : 2 * lf + agN v9 j9 (p9 + 1) < n := by have y := @agN_le v9 j9 (p9 + 1); omega
                                                    exact ih (p9 + 1) (m9 - 1) lf sz Ij Fj L141 hmu2 (by omega) (by omega) hIo h38j hbj h66j h68j hsz64 hFo (fun j hj => by rw [eL141, va_up_ne _ _ (by omega)]; exact hLo j hj) G142 hM hF _ _ hG hS ls (lv_sub hl [9, 10, 0, 6, 1] rfl)
                                                  · skip
                                                    exact absurd c_479 (by decide)
                                                · skip
                                                  exact absurd c_464 (by decide)
                                          · skip
                                            exact absurd (by decide) c_248
                                      · skip
                                        exact absurd c_229 (by decide)
                                · skip
                                  exact absurd (by decide) c_194
                          · skip
                            exact absurd c_169 (by decide)
                      · skip
                        refine lv_iconst (v := 0) hx hb dX14_job_150 (by decide) ?_
                        exact W.iret (v := 0) hx hb hr (fun t ht hW => ⟨⟨_, _, rfl, ⟨Ij, Fj, Lj, hM, hF, hIo, h38j, ⟨sz, hsz64, h68j⟩, hFo, hLo⟩, mk_end hG ht⟩, hS.F ht⟩) hS.2.2 dX14_job_151
                    · skip
                      exact absurd c_119 (by decide)
                  · skip
                    replace hkd := hkde.trans hkd
                    rw [show x9 = 20 by rw [hx35, hkd]; rfl] at hl
                    refine lv_iload hx hb dX14_job_115 (lv_at hl 0 rfl) ?_
                    refine lv_bipush (v := 25) hx hb dX14_job_117 (by decide) ?_
                    refine lv_icmp_ne (tgt := 143) hx hb dX14_job_119 (by decide) (fun c_119 => ?_) (fun c_119 => ?_)
                    · skip
                      refine lv_lload hx hb dX14_job_143 (lv_at hl 5 rfl) ?_
                      refine lv_lconst (v := 0) hx hb dX14_job_145 (by decide) ?_
                      refine W.lcmp hx hb dX14_job_146 ?_
                      refine lv_if_ne (tgt := 152) hx hb dX14_job_147 (by decide) (fun c_147 => ?_) (fun c_147 => ?_)
                      · skip
                        obtain ⟨lf, hlf⟩ : ∃ y, lf9 = y + 1 := ⟨lf9 - 1, by have y : lf9 ≠ 0 := fun z => c_147 ((lg_cmp_eq _ _).mpr (by rw [z]; rfl)); omega⟩
                        rw [hlf] at hl hmu
                        refine lv_lload hx hb dX14_job_152 (lv_at hl 5 rfl) ?_
                        refine lv_lconst (v := 1) hx hb dX14_job_154 (by decide) ?_
                        refine lv_lsub hx hb dX14_job_155 ?_
                        rw [i64_dec (by omega)]
                        refine lv_topl (fun x144 ex144 => ?_)
                        refine lv_lstore (lv' := [(6, .long x144), (10, .int 20), (9, .int (nI (100 * j9 + p9))), (0, .ref o), (4, .int (nI j9)), (5, .int (nI m9)), (8, .int (nI p9))]) hx hb dX14_job_156 hl (by decide) rfl (fun ls hl => ?_)
                        refine lv_iload hx hb dX14_job_158 (lv_at hl 1 rfl) ?_
                        refine lv_bipush (v := 15) hx hb dX14_job_160 (by decide) ?_
                        refine lv_icmp_eq (tgt := 172) hx hb dX14_job_162 (by decide) (fun c_162 => ?_) (fun c_162 => ?_)
                        · skip
                          exact absurd c_162 (by decide)
                        · skip
                          refine lv_iload hx hb dX14_job_165 (lv_at hl 1 rfl) ?_
                          refine lv_bipush (v := 16) hx hb dX14_job_167 (by decide) ?_
                          refine lv_icmp_ne (tgt := 176) hx hb dX14_job_169 (by decide) (fun c_169 => ?_) (fun c_169 => ?_)
                          · skip
                            refine lv_iload hx hb dX14_job_176 (lv_at hl 1 rfl) ?_
                            refine lv_bipush (v := 17) hx hb dX14_job_178 (by decide) ?_
                            refine lv_icmp_eq (tgt := 204) hx hb dX14_job_180 (by decide) (fun c_180 => ?_) (fun c_180 => ?_)
                            · skip
                              exact absurd c_180 (by decide)
                            · skip
                              refine lv_iload hx hb dX14_job_183 (lv_at hl 1 rfl) ?_
                              refine lv_bipush (v := 18) hx hb dX14_job_185 (by decide) ?_
                              refine lv_icmp_eq (tgt := 204) hx hb dX14_job_187 (by decide) (fun c_187 => ?_) (fun c_187 => ?_)
                              · skip
                                exact absurd c_187 (by decide)
                              · skip
                                refine lv_iload hx hb dX14_job_190 (lv_at hl 1 rfl) ?_
                                refine lv_bipush (v := 19) hx hb dX14_job_192 (by decide) ?_
                                refine lv_icmp_eq (tgt := 204) hx hb dX14_job_194 (by decide) (fun c_194 => ?_) (fun c_194 => ?_)
                                · skip
                                  exact absurd c_194 (by decide)
                                · skip
                                  refine lv_iload hx hb dX14_job_197 (lv_at hl 1 rfl) ?_
                                  refine lv_bipush (v := 21) hx hb dX14_job_199 (by decide) ?_
                                  refine lv_icmp_ne (tgt := 208) hx hb dX14_job_201 (by decide) (fun c_201 => ?_) (fun c_201 => ?_)
                                  · skip
                                    refine lv_iconst (v := 1) hx hb dX14_job_208 (by decide) ?_
                                    refine lv_istore (lv' := [(11, .int 1), (6, .long x144), (10, .int 20), (9, .int (nI (100 * j9 + p9))), (0, .ref o), (4, .int (nI j9)), (5, .int (nI m9)), (8, .int (nI p9))]) hx hb dX14_job_209 hl (by decide) rfl (fun ls hl => ?_)
                                    refine lv_iload hx hb dX14_job_211 (lv_at hl 2 rfl) ?_
                                    refine lv_bipush (v := 15) hx hb dX14_job_213 (by decide) ?_
                                    refine lv_icmp_eq (tgt := 232) hx hb dX14_job_215 (by decide) (fun c_215 => ?_) (fun c_215 => ?_)
                                    · skip
                                      exact absurd c_215 (by decide)
                                    · skip
                                      refine lv_iload hx hb dX14_job_218 (lv_at hl 2 rfl) ?_
                                      refine lv_bipush (v := 16) hx hb dX14_job_220 (by decide) ?_
                                      refine lv_icmp_eq (tgt := 232) hx hb dX14_job_222 (by decide) (fun c_222 => ?_) (fun c_222 => ?_)
                                      · skip
                                        exact absurd c_222 (by decide)
                                      · skip
                                        refine lv_iload hx hb dX14_job_225 (lv_at hl 2 rfl) ?_
                                        refine lv_bipush (v := 20) hx hb dX14_job_227 (by decide) ?_
                                        refine lv_icmp_ne (tgt := 236) hx hb dX14_job_229 (by decide) (fun c_229 => ?_) (fun c_229 => ?_)
                                        · skip
                                          exact absurd (by decide) c_229
                                        · skip
                                          refine lv_iconst (v := 1) hx hb dX14_job_232 (by decide) ?_
                                          refine lv_goto (tgt := 237) hx hb dX14_job_233 (by decide) ?_
                                          refine lv_istore (lv' := [(12, .int 1), (11, .int 1), (6, .long x144), (10, .int 20), (9, .int (nI (100 * j9 + p9))), (0, .ref o), (4, .int (nI j9)), (5, .int (nI m9)), (8, .int (nI p9))]) hx hb dX14_job_237 hl (by decide) rfl (fun ls hl => ?_)
                                          refine lv_iload hx hb dX14_job_239 (lv_at hl 7 rfl) ?_
                                          refine lv_iload hx hb dX14_job_241 (lv_at hl 1 rfl) ?_
                                          refine lv_icmp_lt (tgt := 258) hx hb dX14_job_243 (by decide) (fun c_243 => ?_) (fun c_243 => ?_)
                                          · skip
                                            refine lv_bipush (v := (-3)) hx hb dX14_job_258 (by decide) ?_
                                            exact W.iret (v := (-3)) hx hb hr (fun t ht hW => ⟨⟨_, _, rfl, ⟨Ij, Fj, Lj, hM, hF, hIo, h38j, ⟨sz, hsz64, h68j⟩, hFo, hLo⟩, mk_end hG ht⟩, hS.F ht⟩) hS.2.2 dX14_job_260
                                          · skip
                                            refine lv_iload hx hb dX14_job_246 (lv_at hl 0 rfl) ?_
                                            refine lv_if_eq (tgt := 261) hx hb dX14_job_248 (by decide) (fun c_248 => ?_) (fun c_248 => ?_)
                                            · skip
                                              exact absurd c_248 (by decide)
                                            · skip
                                              refine lv_iload hx hb dX14_job_251 (lv_at hl 7 rfl) ?_
                                              refine lv_bipush (v := 16) hx hb dX14_job_253 (by decide) ?_
                                              refine lv_icmp_ne (tgt := 261) hx hb dX14_job_255 (by decide) (fun c_255 => ?_) (fun c_255 => ?_)
                                              · skip
                                                have hmw : 1 ≤ m9 := Nat.le_of_not_lt (fun y => c_243 (nI_lt (b := 1) y (by decide)))
                                                have hm16 : m9 < 16 := by have y : m9 ≠ 16 := fun z => c_255 (by rw [z]; rfl); omega
                                                refine lv_iload hx hb dX14_job_261 (lv_at hl 7 rfl) ?_
                                                refine lv_if_le (tgt := 278) hx hb dX14_job_263 (by decide) (fun c_263 => ?_) (fun c_263 => ?_)
                                                · skip
                                                  refine lv_lconst (v := 0) hx hb dX14_job_278 (by decide) ?_
                                                  refine lv_lstore (lv' := [(13, .long 0), (12, .int 1), (11, .int 1), (6, .long x144), (10, .int 20), (9, .int (nI (100 * j9 + p9))), (0, .ref o), (4, .int (nI j9)), (5, .int (nI m9)), (8, .int (nI p9))]) hx hb dX14_job_279 hl (by decide) rfl (fun ls hl => ?_)
                                                  refine lv_iload hx hb dX14_job_281 (lv_at hl 8 rfl) ?_
                                                  refine lv_iconst (v := 1) hx hb dX14_job_283 (by decide) ?_
                                                  refine lv_icmp_le (tgt := 299) hx hb dX14_job_284 (by decide) (fun c_284 => ?_) (fun c_284 => ?_)
                                                  · skip
                                                    refine lv_lconst (v := 0) hx hb dX14_job_299 (by decide) ?_
                                                    refine lv_lstore (lv' := [(15, .long 0), (13, .long 0), (12, .int 1), (11, .int 1), (6, .long x144), (10, .int 20), (9, .int (nI (100 * j9 + p9))), (0, .ref o), (4, .int (nI j9)), (5, .int (nI m9)), (8, .int (nI p9))]) hx hb dX14_job_300 hl (by decide) rfl (fun ls hl => ?_)
                                                    obtain ⟨x145, ex145⟩ : ∃ y : Int32, y = (nI p9) + 1 := ⟨_, rfl⟩
                                                    refine lv_iinc (v := x145) (lv' := [(8, .int x145), (15, .long 0), (13, .long 0), (12, .int 1), (11, .int 1), (6, .long x144), (10, .int 20), (9, .int (nI (100 * j9 + p9))), (0, .ref o), (4, .int (nI j9)), (5, .int (nI m9))]) hx hb dX14_job_302 hl (k := 10) rfl (by rw [ex145]; rfl) (by decide) rfl (fun ls hl => ?_)
                                                    refine lv_iload hx hb dX14_job_305 (lv_at hl 6 rfl) ?_
                                                    refine lv_tableIn (tgt := 409) hx hb dX14_job_307 (by decide) (by decide) (off := 102) rfl (by decide) ?_
                                                    refine lv_aload_n hx hb dX14_job_409 rfl (lv_at hl 8 rfl) ?_
                                                    refine mm_get (v := .ref (Ar 75)) hx hb hf_X14 (fun _ h9 => h9) hown hK hG hM.1 rfl 75 (by decide) (tb_use hT tw_1466) (fun _ h9 => h9) rfl dX14_job_410 ?_
                                                    refine lv_iload hx hb dX14_job_413 (lv_at hl 10 rfl) ?_
                                                    refine lv_lload hx hb dX14_job_415 (lv_at hl 2 rfl) ?_
                                                    refine mm_last (n := mdN 75) (f := Lj 75) hx hb hK hG hS 2 (hM.2.2.1 75 rfl) rfl (nI_in (N := mdN 75) (by show _ < 16; omega) (by decide)) dX14_job_417 (fun H locs hG hS => ?_)
                                                    have hM := MD.setj (k := 75) (vp_updL (Lj 75) (nI m9).toNatClampNeg 0) hM rfl
                                                    have hF := hF.wa (k := 75) (e' := .inl (cy 2, mdN 75, .inr (.inl (vp_updL (Lj 75) (nI m9).toNatClampNeg 0)))) rfl
                                                    obtain ⟨L146, eL146⟩ : ∃ g, g = va_up Lj 75 (vp_updL (Lj 75) (nI m9).toNatClampNeg 0) := ⟨_, rfl⟩
                                                    rw [← eL146] at hM
                                                    generalize mm_set _ _ _ = G147 at hG hM hF
                                                    obtain ⟨x148, ex148⟩ : ∃ y : Int32, y = (nI m9) + 1 := ⟨_, rfl⟩
                                                    refine lv_iinc (v := x148) (lv' := [(5, .int x148), (8, .int x145), (15, .long 0), (13, .long 0), (12, .int 1), (11, .int 1), (6, .long x144), (10, .int 20), (9, .int (nI (100 * j9 + p9))), (0, .ref o), (4, .int (nI j9))]) hx hb dX14_job_418 hl (k := 10) rfl (by rw [ex148]; rfl) (by decide) rfl (fun ls hl => ?_)
                                                    refine lv_goto (tgt := 582) hx hb dX14_job_421 (by decide) ?_
                                                    refine lv_goto (tgt := 68) hx hb dX14_job_582 (by decide) ?_
                                                    rw [show x145 = nI (p9 + 1) by rw [ex145]; exact (nI_succ p9).symm] at hl
                                                    rw [show x148 = nI (m9 + 1) by rw [ex148]; exact (nI_succ m9).symm] at hl
                                                    rw [ex144] at hl
                                                    have hmu2 : 2 * lf + agN v9 j9 (p9 + 1) < n := by have y := @agN_le v9 j9 (p9 + 1); omega
                                                    exact ih (p9 + 1) (m9 + 1) lf sz Ij Fj L146 hmu2 (by omega) (by omega) hIo h38j hbj h66j h68j hsz64 hFo (fun j hj => by rw [eL146, va_up_ne _ _ (by omega)]; exact hLo j hj) G147 hM hF _ _ hG hS ls (lv_sub hl [9, 10, 0, 6, 1] rfl)
                                                  · skip
                                                    have hm2 : 1 < m9 := Nat.lt_of_not_le (fun y => c_284 (nI_le (b := 1) y (by decide)))
                                                    refine lv_aload_n hx hb dX14_job_287 rfl (lv_at hl 6 rfl) ?_
                                                    refine mm_get (v := .ref (Ar 75)) hx hb hf_X14 (fun _ h9 => h9) hown hK hG hM.1 rfl 75 (by decide) (tb_use hT tw_1466) (fun _ h9 => h9) rfl dX14_job_288 ?_
                                                    refine lv_iload hx hb dX14_job_291 (lv_at hl 8 rfl) ?_
                                                    refine lv_iconst (v := 2) hx hb dX14_job_293 (by decide) ?_
                                                    refine lv_isub hx hb dX14_job_294 ?_
                                                    rw [show ((nI m9) - 2) = nI (m9 - 2) from nI_sb (a := 2) (b := m9) (by omega)]
                                                    refine mm_lald (n := 16) (f := Lj 75) hx hb hK hG 2 (hM.2.2.1 75 rfl) rfl (nI_in (N := 16) (by omega) (by decide)) dX14_job_295 ?_
                                                    refine lv_topl (fun x149 ex149 => ?_)
                                                    refine lv_goto (tgt := 300) hx hb dX14_job_296 (by decide) ?_
                                                    refine lv_lstore (lv' := [(15, .long x149), (13, .long 0), (12, .int 1), (11, .int 1), (6, .long x144), (10, .int 20), (9, .int (nI (100 * j9 + p9))), (0, .ref o), (4, .int (nI j9)), (5, .int (nI m9)), (8, .int (nI p9))]) hx hb dX14_job_300 hl (by decide) rfl (fun ls hl => ?_)
                                                    obtain ⟨x150, ex150⟩ : ∃ y : Int32, y = (nI p9) + 1 := ⟨_, rfl⟩
                                                    refine lv_iinc (v := x150) (lv' := [(8, .int x150), (15, .long x149), (13, .long 0), (12, .int 1), (11, .int 1), (6, .long x144), (10, .int 20), (9, .int (nI (100 * j9 + p9))), (0, .ref o), (4, .int (nI j9)), (5, .int (nI m9))]) hx hb dX14_job_302 hl (k := 10) rfl (by rw [ex150]; rfl) (by decide) rfl (fun ls hl => ?_)
                                                    refine lv_iload hx hb dX14_job_305 (lv_at hl 6 rfl) ?_
                                                    refine lv_tableIn (tgt := 409) hx hb dX14_job_307 (by decide) (by decide) (off := 102) rfl (by decide) ?_
                                                    refine lv_aload_n hx hb dX14_job_409 rfl (lv_at hl 8 rfl) ?_
                                                    refine mm_get (v := .ref (Ar 75)) hx hb hf_X14 (fun _ h9 => h9) hown hK hG hM.1 rfl 75 (by decide) (tb_use hT tw_1466) (fun _ h9 => h9) rfl dX14_job_410 ?_
                                                    refine lv_iload hx hb dX14_job_413 (lv_at hl 10 rfl) ?_
                                                    refine lv_lload hx hb dX14_job_415 (lv_at hl 2 rfl) ?_
                                                    refine mm_last (n := mdN 75) (f := Lj 75) hx hb hK hG hS 2 (hM.2.2.1 75 rfl) rfl (nI_in (N := mdN 75) (by show _ < 16; omega) (by decide)) dX14_job_417 (fun H locs hG hS => ?_)
                                                    have hM := MD.setj (k := 75) (vp_updL (Lj 75) (nI m9).toNatClampNeg 0) hM rfl
                                                    have hF := hF.wa (k := 75) (e' := .inl (cy 2, mdN 75, .inr (.inl (vp_updL (Lj 75) (nI m9).toNatClampNeg 0)))) rfl
                                                    obtain ⟨L151, eL151⟩ : ∃ g, g = va_up Lj 75 (vp_updL (Lj 75) (nI m9).toNatClampNeg 0) := ⟨_, rfl⟩
                                                    rw [← eL151] at hM
                                                    generalize mm_set _ _ _ = G152 at hG hM hF
                                                    obtain ⟨x153, ex153⟩ : ∃ y : Int32, y = (nI m9) + 1 := ⟨_, rfl⟩
                                                    refine lv_iinc (v := x153) (lv' := [(5, .int x153), (8, .int x150), (15, .long x149), (13, .long 0), (12, .int 1), (11, .int 1), (6, .long x144), (10, .int 20), (9, .int (nI (100 * j9 + p9))), (0, .ref o), (4, .int (nI j9))]) hx hb dX14_job_418 hl (k := 10) rfl (by rw [ex153]; rfl) (by decide) rfl (fun ls hl => ?_)
                                                    refine lv_goto (tgt := 582) hx hb dX14_job_421 (by decide) ?_
                                                    refine lv_goto (tgt := 68) hx hb dX14_job_582 (by decide) ?_
                                                    rw [show x150 = nI (p9 + 1) by rw [ex150]; exact (nI_succ p9).symm] at hl
                                                    rw [show x153 = nI (m9 + 1) by rw [ex153]; exact (nI_succ m9).symm] at hl
                                                    rw [ex144] at hl
                                                    have hmu2 : 2 * lf + agN v9 j9 (p9 + 1) < n := by have y := @agN_le v9 j9 (p9 + 1); omega
                                                    exact ih (p9 + 1) (m9 + 1) lf sz Ij Fj L151 hmu2 (by omega) (by omega) hIo h38j hbj h66j h68j hsz64 hFo (fun j hj => by rw [eL151, va_up_ne _ _ (by omega)]; exact hLo j hj) G152 hM hF _ _ hG hS ls (lv_sub hl [9, 10, 0, 6, 1] rfl)
                                                · skip
                                                  have hm1 : 0 < m9 := Nat.pos_of_ne_zero (fun y => c_263 (by rw [y]; exact Int32.le_refl 0))
                                                  refine lv_aload_n hx hb dX14_job_266 rfl (lv_at hl 5 rfl) ?_
                                                  refine mm_get (v := .ref (Ar 75)) hx hb hf_X14 (fun _ h9 => h9) hown hK hG hM.1 rfl 75 (by decide) (tb_use hT tw_1466) (fun _ h9 => h9) rfl dX14_job_267 ?_
                                                  refine lv_iload hx hb dX14_job_270 (lv_at hl 7 rfl) ?_
                                                  refine lv_iconst (v := 1) hx hb dX14_job_272 (by decide) ?_
                                                  refine lv_isub hx hb dX14_job_273 ?_
                                                  rw [show ((nI m9) - 1) = nI (m9 - 1) from nI_sb (a := 1) (b := m9) (by omega)]
                                                  refine mm_lald (n := 16) (f := Lj 75) hx hb hK hG 2 (hM.2.2.1 75 rfl) rfl (nI_in (N := 16) (by omega) (by decide)) dX14_job_274 ?_
                                                  refine lv_topl (fun x154 ex154 => ?_)
                                                  refine lv_goto (tgt := 279) hx hb dX14_job_275 (by decide) ?_
                                                  refine lv_lstore (lv' := [(13, .long x154), (12, .int 1), (11, .int 1), (6, .long x144), (10, .int 20), (9, .int (nI (100 * j9 + p9))), (0, .ref o), (4, .int (nI j9)), (5, .int (nI m9)), (8, .int (nI p9))]) hx hb dX14_job_279 hl (by decide) rfl (fun ls hl => ?_)
                                                  refine lv_iload hx hb dX14_job_281 (lv_at hl 8 rfl) ?_
                                                  refine lv_iconst (v := 1) hx hb dX14_job_283 (by decide) ?_
                                                  refine lv_icmp_le (tgt := 299) hx hb dX14_job_284 (by decide) (fun c_284 => ?_) (fun c_284 => ?_)
                                                  · skip
                                                    refine lv_lconst (v := 0) hx hb dX14_job_299 (by decide) ?_
                                                    refine lv_lstore (lv' := [(15, .long 0), (13, .long x154), (12, .int 1), (11, .int 1), (6, .long x144), (10, .int 20), (9, .int (nI (100 * j9 + p9))), (0, .ref o), (4, .int (nI j9)), (5, .int (nI m9)), (8, .int (nI p9))]) hx hb dX14_job_300 hl (by decide) rfl (fun ls hl => ?_)
                                                    obtain ⟨x155, ex155⟩ : ∃ y : Int32, y = (nI p9) + 1 := ⟨_, rfl⟩
                                                    refine lv_iinc (v := x155) (lv' := [(8, .int x155), (15, .long 0), (13, .long x154), (12, .int 1), (11, .int 1), (6, .long x144), (10, .int 20), (9, .int (nI (100 * j9 + p9))), (0, .ref o), (4, .int (nI j9)), (5, .int (nI m9))]) hx hb dX14_job_302 hl (k := 10) rfl (by rw [ex155]; rfl) (by decide) rfl (fun ls hl => ?_)
                                                    refine lv_iload hx hb dX14_job_305 (lv_at hl 6 rfl) ?_
                                                    refine lv_tableIn (tgt := 409) hx hb dX14_job_307 (by decide) (by decide) (off := 102) rfl (by decide) ?_
                                                    refine lv_aload_n hx hb dX14_job_409 rfl (lv_at hl 8 rfl) ?_
                                                    refine mm_get (v := .ref (Ar 75)) hx hb hf_X14 (fun _ h9 => h9) hown hK hG hM.1 rfl 75 (by decide) (tb_use hT tw_1466) (fun _ h9 => h9) rfl dX14_job_410 ?_
                                                    refine lv_iload hx hb dX14_job_413 (lv_at hl 10 rfl) ?_
                                                    refine lv_lload hx hb dX14_job_415 (lv_at hl 2 rfl) ?_
                                                    refine mm_last (n := mdN 75) (f := Lj 75) hx hb hK hG hS 2 (hM.2.2.1 75 rfl) rfl (nI_in (N := mdN 75) (by show _ < 16; omega) (by decide)) dX14_job_417 (fun H locs hG hS => ?_)
                                                    have hM := MD.setj (k := 75) (vp_updL (Lj 75) (nI m9).toNatClampNeg x154) hM rfl
                                                    have hF := hF.wa (k := 75) (e' := .inl (cy 2, mdN 75, .inr (.inl (vp_updL (Lj 75) (nI m9).toNatClampNeg x154)))) rfl
                                                    obtain ⟨L156, eL156⟩ : ∃ g, g = va_up Lj 75 (vp_updL (Lj 75) (nI m9).toNatClampNeg x154) := ⟨_, rfl⟩
                                                    rw [← eL156] at hM
                                                    generalize mm_set _ _ _ = G157 at hG hM hF
                                                    obtain ⟨x158, ex158⟩ : ∃ y : Int32, y = (nI m9) + 1 := ⟨_, rfl⟩
                                                    refine lv_iinc (v := x158) (lv' := [(5, .int x158), (8, .int x155), (15, .long 0), (13, .long x154), (12, .int 1), (11, .int 1), (6, .long x144), (10, .int 20), (9, .int (nI (100 * j9 + p9))), (0, .ref o), (4, .int (nI j9))]) hx hb dX14_job_418 hl (k := 10) rfl (by rw [ex158]; rfl) (by decide) rfl (fun ls hl => ?_)
                                                    refine lv_goto (tgt := 582) hx hb dX14_job_421 (by decide) ?_
                                                    refine lv_goto (tgt := 68) hx hb dX14_job_582 (by decide) ?_
                                                    rw [show x155 = nI (p9 + 1) by rw [ex155]; exact (nI_succ p9).symm] at hl
                                                    rw [show x158 = nI (m9 + 1) by rw [ex158]; exact (nI_succ m9).symm] at hl
                                                    rw [ex144] at hl
                                                    have hmu2 : 2 * lf + agN v9 j9 (p9 + 1) < n := by have y := @agN_le v9 j9 (p9 + 1); omega
                                                    exact ih (p9 + 1) (m9 + 1) lf sz Ij Fj L156 hmu2 (by omega) (by omega) hIo h38j hbj h66j h68j hsz64 hFo (fun j hj => by rw [eL156, va_up_ne _ _ (by omega)]; exact hLo j hj) G157 hM hF _ _ hG hS ls (lv_sub hl [9, 10, 0, 6, 1] rfl)
                                                  · skip
                                                    have hm2 : 1 < m9 := Nat.lt_of_not_le (fun y => c_284 (nI_le (b := 1) y (by decide)))
                                                    refine lv_aload_n hx hb dX14_job_287 rfl (lv_at hl 6 rfl) ?_
                                                    refine mm_get (v := .ref (Ar 75)) hx hb hf_X14 (fun _ h9 => h9) hown hK hG hM.1 rfl 75 (by decide) (tb_use hT tw_1466) (fun _ h9 => h9) rfl dX14_job_288 ?_
                                                    refine lv_iload hx hb dX14_job_291 (lv_at hl 8 rfl) ?_
                                                    refine lv_iconst (v := 2) hx hb dX14_job_293 (by decide) ?_
                                                    refine lv_isub hx hb dX14_job_294 ?_
                                                    rw [show ((nI m9) - 2) = nI (m9 - 2) from nI_sb (a := 2) (b := m9) (by omega)]
                                                    refine mm_lald (n := 16) (f := Lj 75) hx hb hK hG 2 (hM.2.2.1 75 rfl) rfl (nI_in (N := 16) (by omega) (by decide)) dX14_job_295 ?_
                                                    refine lv_topl (fun x159 ex159 => ?_)
                                                    refine lv_goto (tgt := 300) hx hb dX14_job_296 (by decide) ?_
                                                    refine lv_lstore (lv' := [(15, .long x159), (13, .long x154), (12, .int 1), (11, .int 1), (6, .long x144), (10, .int 20), (9, .int (nI (100 * j9 + p9))), (0, .ref o), (4, .int (nI j9)), (5, .int (nI m9)), (8, .int (nI p9))]) hx hb dX14_job_300 hl (by decide) rfl (fun ls hl => ?_)
                                                    obtain ⟨x160, ex160⟩ : ∃ y : Int32, y = (nI p9) + 1 := ⟨_, rfl⟩
                                                    refine lv_iinc (v := x160) (lv' := [(8, .int x160), (15, .long x159), (13, .long x154), (12, .int 1), (11, .int 1), (6, .long x144), (10, .int 20), (9, .int (nI (100 * j9 + p9))), (0, .ref o), (4, .int (nI j9)), (5, .int (nI m9))]) hx hb dX14_job_302 hl (k := 10) rfl (by rw [ex160]; rfl) (by decide) rfl (fun ls hl => ?_)
                                                    refine lv_iload hx hb dX14_job_305 (lv_at hl 6 rfl) ?_
                                                    refine lv_tableIn (tgt := 409) hx hb dX14_job_307 (by decide) (by decide) (off := 102) rfl (by decide) ?_
                                                    refine lv_aload_n hx hb dX14_job_409 rfl (lv_at hl 8 rfl) ?_
                                                    refine mm_get (v := .ref (Ar 75)) hx hb hf_X14 (fun _ h9 => h9) hown hK hG hM.1 rfl 75 (by decide) (tb_use hT tw_1466) (fun _ h9 => h9) rfl dX14_job_410 ?_
                                                    refine lv_iload hx hb dX14_job_413 (lv_at hl 10 rfl) ?_
                                                    refine lv_lload hx hb dX14_job_415 (lv_at hl 2 rfl) ?_
                                                    refine mm_last (n := mdN 75) (f := Lj 75) hx hb hK hG hS 2 (hM.2.2.1 75 rfl) rfl (nI_in (N := mdN 75) (by show _ < 16; omega) (by decide)) dX14_job_417 (fun H locs hG hS => ?_)
                                                    have hM := MD.setj (k := 75) (vp_updL (Lj 75) (nI m9).toNatClampNeg x154) hM rfl
                                                    have hF := hF.wa (k := 75) (e' := .inl (cy 2, mdN 75, .inr (.inl (vp_updL (Lj 75) (nI m9).toNatClampNeg x154)))) rfl
                                                    obtain ⟨L161, eL161⟩ : ∃ g, g = va_up Lj 75 (vp_updL (Lj 75) (nI m9).toNatClampNeg x154) := ⟨_, rfl⟩
                                                    rw [← eL161] at hM
                                                    generalize mm_set _ _ _ = G162 at hG hM hF
                                                    obtain ⟨x163, ex163⟩ : ∃ y : Int32, y = (nI m9) + 1 := ⟨_, rfl⟩
                                                    refine lv_iinc (v := x163) (lv' := [(5, .int x163), (8, .int x160), (15, .long x159), (13, .long x154), (12, .int 1), (11, .int 1), (6, .long x144), (10, .int 20), (9, .int (nI (100 * j9 + p9))), (0, .ref o), (4, .int (nI j9))]) hx hb dX14_job_418 hl (k := 10) rfl (by rw [ex163]; rfl) (by decide) rfl (fun ls hl => ?_)
                                                    refine lv_goto (tgt := 582) hx hb dX14_job_421 (by decide) ?_
                                                    refine lv_goto (tgt := 68) hx hb dX14_job_582 (by decide) ?_
                                                    rw [show x160 = nI (p9 + 1) by rw [ex160]; exact (nI_succ p9).symm] at hl
                                                    rw [show x163 = nI (m9 + 1) by rw [ex163]; exact (nI_succ m9).symm] at hl
                                                    rw [ex144] at hl
                                                    have hmu2 : 2 * lf + agN v9 j9 (p9 + 1) < n := by have y := @agN_le v9 j9 (p9 + 1); omega
                                                    exact ih (p9 + 1) (m9 + 1) lf sz Ij Fj L161 hmu2 (by omega) (by omega) hIo h38j hbj h66j h68j hsz64 hFo (fun j hj => by rw [eL161, va_up_ne _ _ (by omega)]; exact hLo j hj) G162 hM hF _ _ hG hS ls (lv_sub hl [9, 10, 0, 6, 1] rfl)
                                              · skip
                                                refine lv_bipush (v := (-3)) hx hb dX14_job_258 (by decide) ?_
                                                exact W.iret (v := (-3)) hx hb hr (fun t ht hW => ⟨⟨_, _, rfl, ⟨Ij, Fj, Lj, hM, hF, hIo, h38j, ⟨sz, hsz64, h68j⟩, hFo, hLo⟩, mk_end hG ht⟩, hS.F ht⟩) hS.2.2 dX14_job_260
                                  · skip
                                    exact absurd c_201 (by decide)
                          · skip
                            exact absurd c_169 (by decide)
                      · skip
                        refine lv_iconst (v := 0) hx hb dX14_job_150 (by decide) ?_
                        exact W.iret (v := 0) hx hb hr (fun t ht hW => ⟨⟨_, _, rfl, ⟨Ij, Fj, Lj, hM, hF, hIo, h38j, ⟨sz, hsz64, h68j⟩, hFo, hLo⟩, mk_end hG ht⟩, hS.F ht⟩) hS.2.2 dX14_job_151
                    · skip
                      exact absurd c_119 (by decide)
                  · skip
                    replace hkd := hkde.trans hkd
                    rw [show x9 = 21 by rw [hx35, hkd]; rfl] at hl
                    refine lv_iload hx hb dX14_job_115 (lv_at hl 0 rfl) ?_
                    refine lv_bipush (v := 25) hx hb dX14_job_117 (by decide) ?_
                    refine lv_icmp_ne (tgt := 143) hx hb dX14_job_119 (by decide) (fun c_119 => ?_) (fun c_119 => ?_)
                    · skip
                      refine lv_lload hx hb dX14_job_143 (lv_at hl 5 rfl) ?_
                      refine lv_lconst (v := 0) hx hb dX14_job_145 (by decide) ?_
                      refine W.lcmp hx hb dX14_job_146 ?_
                      refine lv_if_ne (tgt := 152) hx hb dX14_job_147 (by decide) (fun c_147 => ?_) (fun c_147 => ?_)
                      · skip
                        obtain ⟨lf, hlf⟩ : ∃ y, lf9 = y + 1 := ⟨lf9 - 1, by have y : lf9 ≠ 0 := fun z => c_147 ((lg_cmp_eq _ _).mpr (by rw [z]; rfl)); omega⟩
                        rw [hlf] at hl hmu
                        refine lv_lload hx hb dX14_job_152 (lv_at hl 5 rfl) ?_
                        refine lv_lconst (v := 1) hx hb dX14_job_154 (by decide) ?_
                        refine lv_lsub hx hb dX14_job_155 ?_
                        rw [i64_dec (by omega)]
                        refine lv_topl (fun x165 ex165 => ?_)
                        refine lv_lstore (lv' := [(6, .long x165), (10, .int 21), (9, .int (nI (100 * j9 + p9))), (0, .ref o), (4, .int (nI j9)), (5, .int (nI m9)), (8, .int (nI p9))]) hx hb dX14_job_156 hl (by decide) rfl (fun ls hl => ?_)
                        refine lv_iload hx hb dX14_job_158 (lv_at hl 1 rfl) ?_
                        refine lv_bipush (v := 15) hx hb dX14_job_160 (by decide) ?_
                        refine lv_icmp_eq (tgt := 172) hx hb dX14_job_162 (by decide) (fun c_162 => ?_) (fun c_162 => ?_)
                        · skip
                          exact absurd c_162 (by decide)
                        · skip
                          refine lv_iload hx hb dX14_job_165 (lv_at hl 1 rfl) ?_
                          refine lv_bipush (v := 16) hx hb dX14_job_167 (by decide) ?_
                          refine lv_icmp_ne (tgt := 176) hx hb dX14_job_169 (by decide) (fun c_169 => ?_) (fun c_169 => ?_)
                          · skip
                            refine lv_iload hx hb dX14_job_176 (lv_at hl 1 rfl) ?_
                            refine lv_bipush (v := 17) hx hb dX14_job_178 (by decide) ?_
                            refine lv_icmp_eq (tgt := 204) hx hb dX14_job_180 (by decide) (fun c_180 => ?_) (fun c_180 => ?_)
                            · skip
                              exact absurd c_180 (by decide)
                            · skip
                              refine lv_iload hx hb dX14_job_183 (lv_at hl 1 rfl) ?_
                              refine lv_bipush (v := 18) hx hb dX14_job_185 (by decide) ?_
                              refine lv_icmp_eq (tgt := 204) hx hb dX14_job_187 (by decide) (fun c_187 => ?_) (fun c_187 => ?_)
                              · skip
                                exact absurd c_187 (by decide)
                              · skip
                                refine lv_iload hx hb dX14_job_190 (lv_at hl 1 rfl) ?_
                                refine lv_bipush (v := 19) hx hb dX14_job_192 (by decide) ?_
                                refine lv_icmp_eq (tgt := 204) hx hb dX14_job_194 (by decide) (fun c_194 => ?_) (fun c_194 => ?_)
                                · skip
                                  exact absurd c_194 (by decide)
                                · skip
                                  refine lv_iload hx hb dX14_job_197 (lv_at hl 1 rfl) ?_
                                  refine lv_bipush (v := 21) hx hb dX14_job_199 (by decide) ?_
                                  refine lv_icmp_ne (tgt := 208) hx hb dX14_job_201 (by decide) (fun c_201 => ?_) (fun c_201 => ?_)
                                  · skip
                                    exact absurd (by decide) c_201
                                  · skip
                                    refine lv_iconst (v := 2) hx hb dX14_job_204 (by decide) ?_
                                    refine lv_goto (tgt := 209) hx hb dX14_job_205 (by decide) ?_
                                    refine lv_istore (lv' := [(11, .int 2), (6, .long x165), (10, .int 21), (9, .int (nI (100 * j9 + p9))), (0, .ref o), (4, .int (nI j9)), (5, .int (nI m9)), (8, .int (nI p9))]) hx hb dX14_job_209 hl (by decide) rfl (fun ls hl => ?_)
                                    refine lv_iload hx hb dX14_job_211 (lv_at hl 2 rfl) ?_
                                    refine lv_bipush (v := 15) hx hb dX14_job_213 (by decide) ?_
                                    refine lv_icmp_eq (tgt := 232) hx hb dX14_job_215 (by decide) (fun c_215 => ?_) (fun c_215 => ?_)
                                    · skip
                                      exact absurd c_215 (by decide)
                                    · skip
                                      refine lv_iload hx hb dX14_job_218 (lv_at hl 2 rfl) ?_
                                      refine lv_bipush (v := 16) hx hb dX14_job_220 (by decide) ?_
                                      refine lv_icmp_eq (tgt := 232) hx hb dX14_job_222 (by decide) (fun c_222 => ?_) (fun c_222 => ?_)
                                      · skip
                                        exact absurd c_222 (by decide)
                                      · skip
                                        refine lv_iload hx hb dX14_job_225 (lv_at hl 2 rfl) ?_
                                        refine lv_bipush (v := 20) hx hb dX14_job_227 (by decide) ?_
                                        refine lv_icmp_ne (tgt := 236) hx hb dX14_job_229 (by decide) (fun c_229 => ?_) (fun c_229 => ?_)
                                        · skip
                                          refine lv_iconst (v := 0) hx hb dX14_job_236 (by decide) ?_
                                          refine lv_istore (lv' := [(12, .int 0), (11, .int 2), (6, .long x165), (10, .int 21), (9, .int (nI (100 * j9 + p9))), (0, .ref o), (4, .int (nI j9)), (5, .int (nI m9)), (8, .int (nI p9))]) hx hb dX14_job_237 hl (by decide) rfl (fun ls hl => ?_)
                                          refine lv_iload hx hb dX14_job_239 (lv_at hl 7 rfl) ?_
                                          refine lv_iload hx hb dX14_job_241 (lv_at hl 1 rfl) ?_
                                          refine lv_icmp_lt (tgt := 258) hx hb dX14_job_243 (by decide) (fun c_243 => ?_) (fun c_243 => ?_)
                                          · skip
                                            refine lv_bipush (v := (-3)) hx hb dX14_job_258 (by decide) ?_
                                            exact W.iret (v := (-3)) hx hb hr (fun t ht hW => ⟨⟨_, _, rfl, ⟨Ij, Fj, Lj, hM, hF, hIo, h38j, ⟨sz, hsz64, h68j⟩, hFo, hLo⟩, mk_end hG ht⟩, hS.F ht⟩) hS.2.2 dX14_job_260
                                          · skip
                                            refine lv_iload hx hb dX14_job_246 (lv_at hl 0 rfl) ?_
                                            refine lv_if_eq (tgt := 261) hx hb dX14_job_248 (by decide) (fun c_248 => ?_) (fun c_248 => ?_)
                                            · skip
                                              have hmw : 2 ≤ m9 := Nat.le_of_not_lt (fun y => c_243 (nI_lt (b := 2) y (by decide)))
                                              refine lv_iload hx hb dX14_job_261 (lv_at hl 7 rfl) ?_
                                              refine lv_if_le (tgt := 278) hx hb dX14_job_263 (by decide) (fun c_263 => ?_) (fun c_263 => ?_)
                                              · skip
                                                refine lv_lconst (v := 0) hx hb dX14_job_278 (by decide) ?_
                                                refine lv_lstore (lv' := [(13, .long 0), (12, .int 0), (11, .int 2), (6, .long x165), (10, .int 21), (9, .int (nI (100 * j9 + p9))), (0, .ref o), (4, .int (nI j9)), (5, .int (nI m9)), (8, .int (nI p9))]) hx hb dX14_job_279 hl (by decide) rfl (fun ls hl => ?_)
                                                refine lv_iload hx hb dX14_job_281 (lv_at hl 8 rfl) ?_
                                                refine lv_iconst (v := 1) hx hb dX14_job_283 (by decide) ?_
                                                refine lv_icmp_le (tgt := 299) hx hb dX14_job_284 (by decide) (fun c_284 => ?_) (fun c_284 => ?_)
                                                · skip
                                                  refine lv_lconst (v := 0) hx hb dX14_job_299 (by decide) ?_
                                                  refine lv_lstore (lv' := [(15, .long 0), (13, .long 0), (12, .int 0), (11, .int 2), (6, .long x165), (10, .int 21), (9, .int (nI (100 * j9 + p9))), (0, .ref o), (4, .int (nI j9)), (5, .int (nI m9)), (8, .int (nI p9))]) hx hb dX14_job_300 hl (by decide) rfl (fun ls hl => ?_)
                                                  obtain ⟨x166, ex166⟩ : ∃ y : Int32, y = (nI p9) + 1 := ⟨_, rfl⟩
                                                  refine lv_iinc (v := x166) (lv' := [(8, .int x166), (15, .long 0), (13, .long 0), (12, .int 0), (11, .int 2), (6, .long x165), (10, .int 21), (9, .int (nI (100 * j9 + p9))), (0, .ref o), (4, .int (nI j9)), (5, .int (nI m9))]) hx hb dX14_job_302 hl (k := 10) rfl (by rw [ex166]; rfl) (by decide) rfl (fun ls hl => ?_)
                                                  refine lv_iload hx hb dX14_job_305 (lv_at hl 6 rfl) ?_
                                                  refine lv_tableIn (tgt := 424) hx hb dX14_job_307 (by decide) (by decide) (off := 117) rfl (by decide) ?_
                                                  refine lv_aload_n hx hb dX14_job_424 rfl (lv_at hl 8 rfl) ?_
                                                  refine mm_get (v := .ref (Ar 75)) hx hb hf_X14 (fun _ h9 => h9) hown hK hG hM.1 rfl 75 (by decide) (tb_use hT tw_1466) (fun _ h9 => h9) rfl dX14_job_425 ?_
                                                  refine lv_iload hx hb dX14_job_428 (lv_at hl 10 rfl) ?_
                                                  refine lv_iconst (v := 1) hx hb dX14_job_430 (by decide) ?_
                                                  refine lv_isub hx hb dX14_job_431 ?_
                                                  rw [show ((nI m9) - 1) = nI (m9 - 1) from nI_sb (a := 1) (b := m9) (by omega)]
                                                  refine lv_lload hx hb dX14_job_432 (lv_at hl 1 rfl) ?_
                                                  refine mm_last (n := mdN 75) (f := Lj 75) hx hb hK hG hS 2 (hM.2.2.1 75 rfl) rfl (nI_in (N := mdN 75) (by show _ < 16; omega) (by decide)) dX14_job_434 (fun H locs hG hS => ?_)
                                                  have hM := MD.setj (k := 75) (vp_updL (Lj 75) (nI (m9 - 1)).toNatClampNeg 0) hM rfl
                                                  have hF := hF.wa (k := 75) (e' := .inl (cy 2, mdN 75, .inr (.inl (vp_updL (Lj 75) (nI (m9 - 1)).toNatClampNeg 0)))) rfl
                                                  obtain ⟨L167, eL167⟩ : ∃ g, g = va_up Lj 75 (vp_updL (Lj 75) (nI (m9 - 1)).toNatClampNeg 0) := ⟨_, rfl⟩
                                                  rw [← eL167] at hM
                                                  generalize mm_set _ _ _ = G168 at hG hM hF
                                                  refine lv_aload_n hx hb dX14_job_435 rfl (lv_at hl 8 rfl) ?_
                                                  refine mm_get (v := .ref (Ar 75)) hx hb hf_X14 (fun _ h9 => h9) hown hK hG hM.1 rfl 75 (by decide) (tb_use hT tw_1466) (fun _ h9 => h9) rfl dX14_job_436 ?_
                                                  refine lv_iload hx hb dX14_job_439 (lv_at hl 10 rfl) ?_
                                                  refine lv_iconst (v := 2) hx hb dX14_job_441 (by decide) ?_
                                                  refine lv_isub hx hb dX14_job_442 ?_
                                                  rw [show ((nI m9) - 2) = nI (m9 - 2) from nI_sb (a := 2) (b := m9) (by omega)]
                                                  refine lv_lload hx hb dX14_job_443 (lv_at hl 2 rfl) ?_
                                                  refine mm_last (n := mdN 75) (f := L167 75) hx hb hK hG hS 2 (hM.2.2.1 75 rfl) rfl (nI_in (N := mdN 75) (by show _ < 16; omega) (by decide)) dX14_job_445 (fun H locs hG hS => ?_)
                                                  have hM := MD.setj (k := 75) (vp_updL (L167 75) (nI (m9 - 2)).toNatClampNeg 0) hM rfl
                                                  have hF := hF.wa (k := 75) (e' := .inl (cy 2, mdN 75, .inr (.inl (vp_updL (L167 75) (nI (m9 - 2)).toNatClampNeg 0)))) rfl
                                                  obtain ⟨L169, eL169⟩ : ∃ g, g = va_up L167 75 (vp_updL (L167 75) (nI (m9 - 2)).toNatClampNeg 0) := ⟨_, rfl⟩
                                                  rw [← eL169] at hM
                                                  generalize mm_set _ _ _ = G170 at hG hM hF
                                                  refine lv_goto (tgt := 582) hx hb dX14_job_446 (by decide) ?_
                                                  refine lv_goto (tgt := 68) hx hb dX14_job_582 (by decide) ?_
                                                  rw [show x166 = nI (p9 + 1) by rw [ex166]; exact (nI_succ p9).symm] at hl
                                                  rw [ex165] at hl
                                                  have hmu2 : 2 * lf + agN v9 j9 (p9 + 1) < n := by have y := @agN_le v9 j9 (p9 + 1); omega
                                                  exact ih (p9 + 1) m9 lf sz Ij Fj L169 hmu2 (by omega) (by omega) hIo h38j hbj h66j h68j hsz64 hFo (fun j hj => by rw [eL169, va_up_ne _ _ (by omega), eL167, va_up_ne _ _ (by omega)]; exact hLo j hj) G170 hM hF _ _ hG hS ls (lv_sub hl [8, 9, 10, 5, 0] rfl)
                                                · skip
                                                  have hm2 : 1 < m9 := Nat.lt_of_not_le (fun y => c_284 (nI_le (b := 1) y (by decide)))
                                                  refine lv_aload_n hx hb dX14_job_287 rfl (lv_at hl 6 rfl) ?_
                                                  refine mm_get (v := .ref (Ar 75)) hx hb hf_X14 (fun _ h9 => h9) hown hK hG hM.1 rfl 75 (by decide) (tb_use hT tw_1466) (fun _ h9 => h9) rfl dX14_job_288 ?_
                                                  refine lv_iload hx hb dX14_job_291 (lv_at hl 8 rfl) ?_
                                                  refine lv_iconst (v := 2) hx hb dX14_job_293 (by decide) ?_
                                                  refine lv_isub hx hb dX14_job_294 ?_
                                                  rw [show ((nI m9) - 2) = nI (m9 - 2) from nI_sb (a := 2) (b := m9) (by omega)]
                                                  refine mm_lald (n := 16) (f := Lj 75) hx hb hK hG 2 (hM.2.2.1 75 rfl) rfl (nI_in (N := 16) (by omega) (by decide)) dX14_job_295 ?_
                                                  refine lv_topl (fun x171 ex171 => ?_)
                                                  refine lv_goto (tgt := 300) hx hb dX14_job_296 (by decide) ?_
                                                  refine lv_lstore (lv' := [(15, .long x171), (13, .long 0), (12, .int 0), (11, .int 2), (6, .long x165), (10, .int 21), (9, .int (nI (100 * j9 + p9))), (0, .ref o), (4, .int (nI j9)), (5, .int (nI m9)), (8, .int (nI p9))]) hx hb dX14_job_300 hl (by decide) rfl (fun ls hl => ?_)
                                                  obtain ⟨x172, ex172⟩ : ∃ y : Int32, y = (nI p9) + 1 := ⟨_, rfl⟩
                                                  refine lv_iinc (v := x172) (lv' := [(8, .int x172), (15, .long x171), (13, .long 0), (12, .int 0), (11, .int 2), (6, .long x165), (10, .int 21), (9, .int (nI (100 * j9 + p9))), (0, .ref o), (4, .int (nI j9)), (5, .int (nI m9))]) hx hb dX14_job_302 hl (k := 10) rfl (by rw [ex172]; rfl) (by decide) rfl (fun ls hl => ?_)
                                                  refine lv_iload hx hb dX14_job_305 (lv_at hl 6 rfl) ?_
                                                  refine lv_tableIn (tgt := 424) hx hb dX14_job_307 (by decide) (by decide) (off := 117) rfl (by decide) ?_
                                                  refine lv_aload_n hx hb dX14_job_424 rfl (lv_at hl 8 rfl) ?_
                                                  refine mm_get (v := .ref (Ar 75)) hx hb hf_X14 (fun _ h9 => h9) hown hK hG hM.1 rfl 75 (by decide) (tb_use hT tw_1466) (fun _ h9 => h9) rfl dX14_job_425 ?_
                                                  refine lv_iload hx hb dX14_job_428 (lv_at hl 10 rfl) ?_
                                                  refine lv_iconst (v := 1) hx hb dX14_job_430 (by decide) ?_
                                                  refine lv_isub hx hb dX14_job_431 ?_
                                                  rw [show ((nI m9) - 1) = nI (m9 - 1) from nI_sb (a := 1) (b := m9) (by omega)]
                                                  refine lv_lload hx hb dX14_job_432 (lv_at hl 1 rfl) ?_
                                                  refine mm_last (n := mdN 75) (f := Lj 75) hx hb hK hG hS 2 (hM.2.2.1 75 rfl) rfl (nI_in (N := mdN 75) (by show _ < 16; omega) (by decide)) dX14_job_434 (fun H locs hG hS => ?_)
                                                  have hM := MD.setj (k := 75) (vp_updL (Lj 75) (nI (m9 - 1)).toNatClampNeg x171) hM rfl
                                                  have hF := hF.wa (k := 75) (e' := .inl (cy 2, mdN 75, .inr (.inl (vp_updL (Lj 75) (nI (m9 - 1)).toNatClampNeg x171)))) rfl
                                                  obtain ⟨L173, eL173⟩ : ∃ g, g = va_up Lj 75 (vp_updL (Lj 75) (nI (m9 - 1)).toNatClampNeg x171) := ⟨_, rfl⟩
                                                  rw [← eL173] at hM
                                                  generalize mm_set _ _ _ = G174 at hG hM hF
                                                  refine lv_aload_n hx hb dX14_job_435 rfl (lv_at hl 8 rfl) ?_
                                                  refine mm_get (v := .ref (Ar 75)) hx hb hf_X14 (fun _ h9 => h9) hown hK hG hM.1 rfl 75 (by decide) (tb_use hT tw_1466) (fun _ h9 => h9) rfl dX14_job_436 ?_
                                                  refine lv_iload hx hb dX14_job_439 (lv_at hl 10 rfl) ?_
                                                  refine lv_iconst (v := 2) hx hb dX14_job_441 (by decide) ?_
                                                  refine lv_isub hx hb dX14_job_442 ?_
                                                  rw [show ((nI m9) - 2) = nI (m9 - 2) from nI_sb (a := 2) (b := m9) (by omega)]
                                                  refine lv_lload hx hb dX14_job_443 (lv_at hl 2 rfl) ?_
                                                  refine mm_last (n := mdN 75) (f := L173 75) hx hb hK hG hS 2 (hM.2.2.1 75 rfl) rfl (nI_in (N := mdN 75) (by show _ < 16; omega) (by decide)) dX14_job_445 (fun H locs hG hS => ?_)
                                                  have hM := MD.setj (k := 75) (vp_updL (L173 75) (nI (m9 - 2)).toNatClampNeg 0) hM rfl
                                                  have hF := hF.wa (k := 75) (e' := .inl (cy 2, mdN 75, .inr (.inl (vp_updL (L173 75) (nI (m9 - 2)).toNatClampNeg 0)))) rfl
                                                  obtain ⟨L175, eL175⟩ : ∃ g, g = va_up L173 75 (vp_updL (L173 75) (nI (m9 - 2)).toNatClampNeg 0) := ⟨_, rfl⟩
                                                  rw [← eL175] at hM
                                                  generalize mm_set _ _ _ = G176 at hG hM hF
                                                  refine lv_goto (tgt := 582) hx hb dX14_job_446 (by decide) ?_
                                                  refine lv_goto (tgt := 68) hx hb dX14_job_582 (by decide) ?_
                                                  rw [show x172 = nI (p9 + 1) by rw [ex172]; exact (nI_succ p9).symm] at hl
                                                  rw [ex165] at hl
                                                  have hmu2 : 2 * lf + agN v9 j9 (p9 + 1) < n := by have y := @agN_le v9 j9 (p9 + 1); omega
                                                  exact ih (p9 + 1) m9 lf sz Ij Fj L175 hmu2 (by omega) (by omega) hIo h38j hbj h66j h68j hsz64 hFo (fun j hj => by rw [eL175, va_up_ne _ _ (by omega), eL173, va_up_ne _ _ (by omega)]; exact hLo j hj) G176 hM hF _ _ hG hS ls (lv_sub hl [8, 9, 10, 5, 0] rfl)
                                              · skip
                                                have hm1 : 0 < m9 := Nat.pos_of_ne_zero (fun y => c_263 (by rw [y]; exact Int32.le_refl 0))
                                                refine lv_aload_n hx hb dX14_job_266 rfl (lv_at hl 5 rfl) ?_
                                                refine mm_get (v := .ref (Ar 75)) hx hb hf_X14 (fun _ h9 => h9) hown hK hG hM.1 rfl 75 (by decide) (tb_use hT tw_1466) (fun _ h9 => h9) rfl dX14_job_267 ?_
                                                refine lv_iload hx hb dX14_job_270 (lv_at hl 7 rfl) ?_
                                                refine lv_iconst (v := 1) hx hb dX14_job_272 (by decide) ?_
                                                refine lv_isub hx hb dX14_job_273 ?_
                                                rw [show ((nI m9) - 1) = nI (m9 - 1) from nI_sb (a := 1) (b := m9) (by omega)]
                                                refine mm_lald (n := 16) (f := Lj 75) hx hb hK hG 2 (hM.2.2.1 75 rfl) rfl (nI_in (N := 16) (by omega) (by decide)) dX14_job_274 ?_
                                                refine lv_topl (fun x177 ex177 => ?_)
                                                refine lv_goto (tgt := 279) hx hb dX14_job_275 (by decide) ?_
                                                refine lv_lstore (lv' := [(13, .long x177), (12, .int 0), (11, .int 2), (6, .long x165), (10, .int 21), (9, .int (nI (100 * j9 + p9))), (0, .ref o), (4, .int (nI j9)), (5, .int (nI m9)), (8, .int (nI p9))]) hx hb dX14_job_279 hl (by decide) rfl (fun ls hl => ?_)
                                                refine lv_iload hx hb dX14_job_281 (lv_at hl 8 rfl) ?_
                                                refine lv_iconst (v := 1) hx hb dX14_job_283 (by decide) ?_
                                                refine lv_icmp_le (tgt := 299) hx hb dX14_job_284 (by decide) (fun c_284 => ?_) (fun c_284 => ?_)
                                                · skip
                                                  refine lv_lconst (v := 0) hx hb dX14_job_299 (by decide) ?_
                                                  refine lv_lstore (lv' := [(15, .long 0), (13, .long x177), (12, .int 0), (11, .int 2), (6, .long x165), (10, .int 21), (9, .int (nI (100 * j9 + p9))), (0, .ref o), (4, .int (nI j9)), (5, .int (nI m9)), (8, .int (nI p9))]) hx hb dX14_job_300 hl (by decide) rfl (fun ls hl => ?_)
                                                  obtain ⟨x178, ex178⟩ : ∃ y : Int32, y = (nI p9) + 1 := ⟨_, rfl⟩
                                                  refine lv_iinc (v := x178) (lv' := [(8, .int x178), (15, .long 0), (13, .long x177), (12, .int 0), (11, .int 2), (6, .long x165), (10, .int 21), (9, .int (nI (100 * j9 + p9))), (0, .ref o), (4, .int (nI j9)), (5, .int (nI m9))]) hx hb dX14_job_302 hl (k := 10) rfl (by rw [ex178]; rfl) (by decide) rfl (fun ls hl => ?_)
                                                  refine lv_iload hx hb dX14_job_305 (lv_at hl 6 rfl) ?_
                                                  refine lv_tableIn (tgt := 424) hx hb dX14_job_307 (by decide) (by decide) (off := 117) rfl (by decide) ?_
                                                  refine lv_aload_n hx hb dX14_job_424 rfl (lv_at hl 8 rfl) ?_
                                                  refine mm_get (v := .ref (Ar 75)) hx hb hf_X14 (fun _ h9 => h9) hown hK hG hM.1 rfl 75 (by decide) (tb_use hT tw_1466) (fun _ h9 => h9) rfl dX14_job_425 ?_
                                                  refine lv_iload hx hb dX14_job_428 (lv_at hl 10 rfl) ?_
                                                  refine lv_iconst (v := 1) hx hb dX14_job_430 (by decide) ?_
                                                  refine lv_isub hx hb dX14_job_431 ?_
                                                  rw [show ((nI m9) - 1) = nI (m9 - 1) from nI_sb (a := 1) (b := m9) (by omega)]
                                                  refine lv_lload hx hb dX14_job_432 (lv_at hl 1 rfl) ?_
                                                  refine mm_last (n := mdN 75) (f := Lj 75) hx hb hK hG hS 2 (hM.2.2.1 75 rfl) rfl (nI_in (N := mdN 75) (by show _ < 16; omega) (by decide)) dX14_job_434 (fun H locs hG hS => ?_)
                                                  have hM := MD.setj (k := 75) (vp_updL (Lj 75) (nI (m9 - 1)).toNatClampNeg 0) hM rfl
                                                  have hF := hF.wa (k := 75) (e' := .inl (cy 2, mdN 75, .inr (.inl (vp_updL (Lj 75) (nI (m9 - 1)).toNatClampNeg 0)))) rfl
                                                  obtain ⟨L179, eL179⟩ : ∃ g, g = va_up Lj 75 (vp_updL (Lj 75) (nI (m9 - 1)).toNatClampNeg 0) := ⟨_, rfl⟩
                                                  rw [← eL179] at hM
                                                  generalize mm_set _ _ _ = G180 at hG hM hF
                                                  refine lv_aload_n hx hb dX14_job_435 rfl (lv_at hl 8 rfl) ?_
                                                  refine mm_get (v := .ref (Ar 75)) hx hb hf_X14 (fun _ h9 => h9) hown hK hG hM.1 rfl 75 (by decide) (tb_use hT tw_1466) (fun _ h9 => h9) rfl dX14_job_436 ?_
                                                  refine lv_iload hx hb dX14_job_439 (lv_at hl 10 rfl) ?_
                                                  refine lv_iconst (v := 2) hx hb dX14_job_441 (by decide) ?_
                                                  refine lv_isub hx hb dX14_job_442 ?_
                                                  rw [show ((nI m9) - 2) = nI (m9 - 2) from nI_sb (a := 2) (b := m9) (by omega)]
                                                  refine lv_lload hx hb dX14_job_443 (lv_at hl 2 rfl) ?_
                                                  refine mm_last (n := mdN 75) (f := L179 75) hx hb hK hG hS 2 (hM.2.2.1 75 rfl) rfl (nI_in (N := mdN 75) (by show _ < 16; omega) (by decide)) dX14_job_445 (fun H locs hG hS => ?_)
                                                  have hM := MD.setj (k := 75) (vp_updL (L179 75) (nI (m9 - 2)).toNatClampNeg x177) hM rfl
                                                  have hF := hF.wa (k := 75) (e' := .inl (cy 2, mdN 75, .inr (.inl (vp_updL (L179 75) (nI (m9 - 2)).toNatClampNeg x177)))) rfl
                                                  obtain ⟨L181, eL181⟩ : ∃ g, g = va_up L179 75 (vp_updL (L179 75) (nI (m9 - 2)).toNatClampNeg x177) := ⟨_, rfl⟩
                                                  rw [← eL181] at hM
                                                  generalize mm_set _ _ _ = G182 at hG hM hF
                                                  refine lv_goto (tgt := 582) hx hb dX14_job_446 (by decide) ?_
                                                  refine lv_goto (tgt := 68) hx hb dX14_job_582 (by decide) ?_
                                                  rw [show x178 = nI (p9 + 1) by rw [ex178]; exact (nI_succ p9).symm] at hl
                                                  rw [ex165] at hl
                                                  have hmu2 : 2 * lf + agN v9 j9 (p9 + 1) < n := by have y := @agN_le v9 j9 (p9 + 1); omega
                                                  exact ih (p9 + 1) m9 lf sz Ij Fj L181 hmu2 (by omega) (by omega) hIo h38j hbj h66j h68j hsz64 hFo (fun j hj => by rw [eL181, va_up_ne _ _ (by omega), eL179, va_up_ne _ _ (by omega)]; exact hLo j hj) G182 hM hF _ _ hG hS ls (lv_sub hl [8, 9, 10, 5, 0] rfl)
                                                · skip
                                                  have hm2 : 1 < m9 := Nat.lt_of_not_le (fun y => c_284 (nI_le (b := 1) y (by decide)))
                                                  refine lv_aload_n hx hb dX14_job_287 rfl (lv_at hl 6 rfl) ?_
                                                  refine mm_get (v := .ref (Ar 75)) hx hb hf_X14 (fun _ h9 => h9) hown hK hG hM.1 rfl 75 (by decide) (tb_use hT tw_1466) (fun _ h9 => h9) rfl dX14_job_288 ?_
                                                  refine lv_iload hx hb dX14_job_291 (lv_at hl 8 rfl) ?_
                                                  refine lv_iconst (v := 2) hx hb dX14_job_293 (by decide) ?_
                                                  refine lv_isub hx hb dX14_job_294 ?_
                                                  rw [show ((nI m9) - 2) = nI (m9 - 2) from nI_sb (a := 2) (b := m9) (by omega)]
                                                  refine mm_lald (n := 16) (f := Lj 75) hx hb hK hG 2 (hM.2.2.1 75 rfl) rfl (nI_in (N := 16) (by omega) (by decide)) dX14_job_295 ?_
                                                  refine lv_topl (fun x183 ex183 => ?_)
                                                  refine lv_goto (tgt := 300) hx hb dX14_job_296 (by decide) ?_
                                                  refine lv_lstore (lv' := [(15, .long x183), (13, .long x177), (12, .int 0), (11, .int 2), (6, .long x165), (10, .int 21), (9, .int (nI (100 * j9 + p9))), (0, .ref o), (4, .int (nI j9)), (5, .int (nI m9)), (8, .int (nI p9))]) hx hb dX14_job_300 hl (by decide) rfl (fun ls hl => ?_)
                                                  obtain ⟨x184, ex184⟩ : ∃ y : Int32, y = (nI p9) + 1 := ⟨_, rfl⟩
                                                  refine lv_iinc (v := x184) (lv' := [(8, .int x184), (15, .long x183), (13, .long x177), (12, .int 0), (11, .int 2), (6, .long x165), (10, .int 21), (9, .int (nI (100 * j9 + p9))), (0, .ref o), (4, .int (nI j9)), (5, .int (nI m9))]) hx hb dX14_job_302 hl (k := 10) rfl (by rw [ex184]; rfl) (by decide) rfl (fun ls hl => ?_)
                                                  refine lv_iload hx hb dX14_job_305 (lv_at hl 6 rfl) ?_
                                                  refine lv_tableIn (tgt := 424) hx hb dX14_job_307 (by decide) (by decide) (off := 117) rfl (by decide) ?_
                                                  refine lv_aload_n hx hb dX14_job_424 rfl (lv_at hl 8 rfl) ?_
                                                  refine mm_get (v := .ref (Ar 75)) hx hb hf_X14 (fun _ h9 => h9) hown hK hG hM.1 rfl 75 (by decide) (tb_use hT tw_1466) (fun _ h9 => h9) rfl dX14_job_425 ?_
                                                  refine lv_iload hx hb dX14_job_428 (lv_at hl 10 rfl) ?_
                                                  refine lv_iconst (v := 1) hx hb dX14_job_430 (by decide) ?_
                                                  refine lv_isub hx hb dX14_job_431 ?_
                                                  rw [show ((nI m9) - 1) = nI (m9 - 1) from nI_sb (a := 1) (b := m9) (by omega)]
                                                  refine lv_lload hx hb dX14_job_432 (lv_at hl 1 rfl) ?_
                                                  refine mm_last (n := mdN 75) (f := Lj 75) hx hb hK hG hS 2 (hM.2.2.1 75 rfl) rfl (nI_in (N := mdN 75) (by show _ < 16; omega) (by decide)) dX14_job_434 (fun H locs hG hS => ?_)
                                                  have hM := MD.setj (k := 75) (vp_updL (Lj 75) (nI (m9 - 1)).toNatClampNeg x183) hM rfl
                                                  have hF := hF.wa (k := 75) (e' := .inl (cy 2, mdN 75, .inr (.inl (vp_updL (Lj 75) (nI (m9 - 1)).toNatClampNeg x183)))) rfl
                                                  obtain ⟨L185, eL185⟩ : ∃ g, g = va_up Lj 75 (vp_updL (Lj 75) (nI (m9 - 1)).toNatClampNeg x183) := ⟨_, rfl⟩
                                                  rw [← eL185] at hM
                                                  generalize mm_set _ _ _ = G186 at hG hM hF
                                                  refine lv_aload_n hx hb dX14_job_435 rfl (lv_at hl 8 rfl) ?_
                                                  refine mm_get (v := .ref (Ar 75)) hx hb hf_X14 (fun _ h9 => h9) hown hK hG hM.1 rfl 75 (by decide) (tb_use hT tw_1466) (fun _ h9 => h9) rfl dX14_job_436 ?_
                                                  refine lv_iload hx hb dX14_job_439 (lv_at hl 10 rfl) ?_
                                                  refine lv_iconst (v := 2) hx hb dX14_job_441 (by decide) ?_
                                                  refine lv_isub hx hb dX14_job_442 ?_
                                                  rw [show ((nI m9) - 2) = nI (m9 - 2) from nI_sb (a := 2) (b := m9) (by omega)]
                                                  refine lv_lload hx hb dX14_job_443 (lv_at hl 2 rfl) ?_
                                                  refine mm_last (n := mdN 75) (f := L185 75) hx hb hK hG hS 2 (hM.2.2.1 75 rfl) rfl (nI_in (N := mdN 75) (by show _ < 16; omega) (by decide)) dX14_job_445 (fun H locs hG hS => ?_)
                                                  have hM := MD.setj (k := 75) (vp_updL (L185 75) (nI (m9 - 2)).toNatClampNeg x177) hM rfl
                                                  have hF := hF.wa (k := 75) (e' := .inl (cy 2, mdN 75, .inr (.inl (vp_updL (L185 75) (nI (m9 - 2)).toNatClampNeg x177)))) rfl
                                                  obtain ⟨L187, eL187⟩ : ∃ g, g = va_up L185 75 (vp_updL (L185 75) (nI (m9 - 2)).toNatClampNeg x177) := ⟨_, rfl⟩
                                                  rw [← eL187] at hM
                                                  generalize mm_set _ _ _ = G188 at hG hM hF
                                                  refine lv_goto (tgt := 582) hx hb dX14_job_446 (by decide) ?_
                                                  refine lv_goto (tgt := 68) hx hb dX14_job_582 (by decide) ?_
                                                  rw [show x184 = nI (p9 + 1) by rw [ex184]; exact (nI_succ p9).symm] at hl
                                                  rw [ex165] at hl
                                                  have hmu2 : 2 * lf + agN v9 j9 (p9 + 1) < n := by have y := @agN_le v9 j9 (p9 + 1); omega
                                                  exact ih (p9 + 1) m9 lf sz Ij Fj L187 hmu2 (by omega) (by omega) hIo h38j hbj h66j h68j hsz64 hFo (fun j hj => by rw [eL187, va_up_ne _ _ (by omega), eL185, va_up_ne _ _ (by omega)]; exact hLo j hj) G188 hM hF _ _ hG hS ls (lv_sub hl [8, 9, 10, 5, 0] rfl)
                                            · skip
                                              exact absurd (by decide) c_248
                                        · skip
                                          exact absurd c_229 (by decide)
                          · skip
                            exact absurd c_169 (by decide)
                      · skip
                        refine lv_iconst (v := 0) hx hb dX14_job_150 (by decide) ?_
                        exact W.iret (v := 0) hx hb hr (fun t ht hW => ⟨⟨_, _, rfl, ⟨Ij, Fj, Lj, hM, hF, hIo, h38j, ⟨sz, hsz64, h68j⟩, hFo, hLo⟩, mk_end hG ht⟩, hS.F ht⟩) hS.2.2 dX14_job_151
                    · skip
                      exact absurd c_119 (by decide)
                  · skip
                    replace hkd := hkde.trans hkd
                    rw [show x9 = 22 by rw [hx35, hkd]; rfl] at hl
                    refine lv_iload hx hb dX14_job_115 (lv_at hl 0 rfl) ?_
                    refine lv_bipush (v := 25) hx hb dX14_job_117 (by decide) ?_
                    refine lv_icmp_ne (tgt := 143) hx hb dX14_job_119 (by decide) (fun c_119 => ?_) (fun c_119 => ?_)
                    · skip
                      refine lv_lload hx hb dX14_job_143 (lv_at hl 5 rfl) ?_
                      refine lv_lconst (v := 0) hx hb dX14_job_145 (by decide) ?_
                      refine W.lcmp hx hb dX14_job_146 ?_
                      refine lv_if_ne (tgt := 152) hx hb dX14_job_147 (by decide) (fun c_147 => ?_) (fun c_147 => ?_)
                      · skip
                        obtain ⟨lf, hlf⟩ : ∃ y, lf9 = y + 1 := ⟨lf9 - 1, by have y : lf9 ≠ 0 := fun z => c_147 ((lg_cmp_eq _ _).mpr (by rw [z]; rfl)); omega⟩
                        rw [hlf] at hl hmu
                        refine lv_lload hx hb dX14_job_152 (lv_at hl 5 rfl) ?_
                        refine lv_lconst (v := 1) hx hb dX14_job_154 (by decide) ?_
                        refine lv_lsub hx hb dX14_job_155 ?_
                        rw [i64_dec (by omega)]
                        refine lv_topl (fun x190 ex190 => ?_)
                        refine lv_lstore (lv' := [(6, .long x190), (10, .int 22), (9, .int (nI (100 * j9 + p9))), (0, .ref o), (4, .int (nI j9)), (5, .int (nI m9)), (8, .int (nI p9))]) hx hb dX14_job_156 hl (by decide) rfl (fun ls hl => ?_)
                        refine lv_iload hx hb dX14_job_158 (lv_at hl 1 rfl) ?_
                        refine lv_bipush (v := 15) hx hb dX14_job_160 (by decide) ?_
                        refine lv_icmp_eq (tgt := 172) hx hb dX14_job_162 (by decide) (fun c_162 => ?_) (fun c_162 => ?_)
                        · skip
                          exact absurd c_162 (by decide)
                        · skip
                          refine lv_iload hx hb dX14_job_165 (lv_at hl 1 rfl) ?_
                          refine lv_bipush (v := 16) hx hb dX14_job_167 (by decide) ?_
                          refine lv_icmp_ne (tgt := 176) hx hb dX14_job_169 (by decide) (fun c_169 => ?_) (fun c_169 => ?_)
                          · skip
                            refine lv_iload hx hb dX14_job_176 (lv_at hl 1 rfl) ?_
                            refine lv_bipush (v := 17) hx hb dX14_job_178 (by decide) ?_
                            refine lv_icmp_eq (tgt := 204) hx hb dX14_job_180 (by decide) (fun c_180 => ?_) (fun c_180 => ?_)
                            · skip
                              exact absurd c_180 (by decide)
                            · skip
                              refine lv_iload hx hb dX14_job_183 (lv_at hl 1 rfl) ?_
                              refine lv_bipush (v := 18) hx hb dX14_job_185 (by decide) ?_
                              refine lv_icmp_eq (tgt := 204) hx hb dX14_job_187 (by decide) (fun c_187 => ?_) (fun c_187 => ?_)
                              · skip
                                exact absurd c_187 (by decide)
                              · skip
                                refine lv_iload hx hb dX14_job_190 (lv_at hl 1 rfl) ?_
                                refine lv_bipush (v := 19) hx hb dX14_job_192 (by decide) ?_
                                refine lv_icmp_eq (tgt := 204) hx hb dX14_job_194 (by decide) (fun c_194 => ?_) (fun c_194 => ?_)
                                · skip
                                  exact absurd c_194 (by decide)
                                · skip
                                  refine lv_iload hx hb dX14_job_197 (lv_at hl 1 rfl) ?_
                                  refine lv_bipush (v := 21) hx hb dX14_job_199 (by decide) ?_
                                  refine lv_icmp_ne (tgt := 208) hx hb dX14_job_201 (by decide) (fun c_201 => ?_) (fun c_201 => ?_)
                                  · skip
                                    refine lv_iconst (v := 1) hx hb dX14_job_208 (by decide) ?_
                                    refine lv_istore (lv' := [(11, .int 1), (6, .long x190), (10, .int 22), (9, .int (nI (100 * j9 + p9))), (0, .ref o), (4, .int (nI j9)), (5, .int (nI m9)), (8, .int (nI p9))]) hx hb dX14_job_209 hl (by decide) rfl (fun ls hl => ?_)
                                    refine lv_iload hx hb dX14_job_211 (lv_at hl 2 rfl) ?_
                                    refine lv_bipush (v := 15) hx hb dX14_job_213 (by decide) ?_
                                    refine lv_icmp_eq (tgt := 232) hx hb dX14_job_215 (by decide) (fun c_215 => ?_) (fun c_215 => ?_)
                                    · skip
                                      exact absurd c_215 (by decide)
                                    · skip
                                      refine lv_iload hx hb dX14_job_218 (lv_at hl 2 rfl) ?_
                                      refine lv_bipush (v := 16) hx hb dX14_job_220 (by decide) ?_
                                      refine lv_icmp_eq (tgt := 232) hx hb dX14_job_222 (by decide) (fun c_222 => ?_) (fun c_222 => ?_)
                                      · skip
                                        exact absurd c_222 (by decide)
                                      · skip
                                        refine lv_iload hx hb dX14_job_225 (lv_at hl 2 rfl) ?_
                                        refine lv_bipush (v := 20) hx hb dX14_job_227 (by decide) ?_
                                        refine lv_icmp_ne (tgt := 236) hx hb dX14_job_229 (by decide) (fun c_229 => ?_) (fun c_229 => ?_)
                                        · skip
                                          refine lv_iconst (v := 0) hx hb dX14_job_236 (by decide) ?_
                                          refine lv_istore (lv' := [(12, .int 0), (11, .int 1), (6, .long x190), (10, .int 22), (9, .int (nI (100 * j9 + p9))), (0, .ref o), (4, .int (nI j9)), (5, .int (nI m9)), (8, .int (nI p9))]) hx hb dX14_job_237 hl (by decide) rfl (fun ls hl => ?_)
                                          refine lv_iload hx hb dX14_job_239 (lv_at hl 7 rfl) ?_
                                          refine lv_iload hx hb dX14_job_241 (lv_at hl 1 rfl) ?_
                                          refine lv_icmp_lt (tgt := 258) hx hb dX14_job_243 (by decide) (fun c_243 => ?_) (fun c_243 => ?_)
                                          · skip
                                            refine lv_bipush (v := (-3)) hx hb dX14_job_258 (by decide) ?_
                                            exact W.iret (v := (-3)) hx hb hr (fun t ht hW => ⟨⟨_, _, rfl, ⟨Ij, Fj, Lj, hM, hF, hIo, h38j, ⟨sz, hsz64, h68j⟩, hFo, hLo⟩, mk_end hG ht⟩, hS.F ht⟩) hS.2.2 dX14_job_260
                                          · skip
                                            refine lv_iload hx hb dX14_job_246 (lv_at hl 0 rfl) ?_
                                            refine lv_if_eq (tgt := 261) hx hb dX14_job_248 (by decide) (fun c_248 => ?_) (fun c_248 => ?_)
                                            · skip
                                              have hmw : 1 ≤ m9 := Nat.le_of_not_lt (fun y => c_243 (nI_lt (b := 1) y (by decide)))
                                              refine lv_iload hx hb dX14_job_261 (lv_at hl 7 rfl) ?_
                                              refine lv_if_le (tgt := 278) hx hb dX14_job_263 (by decide) (fun c_263 => ?_) (fun c_263 => ?_)
                                              · skip
                                                refine lv_lconst (v := 0) hx hb dX14_job_278 (by decide) ?_
                                                refine lv_lstore (lv' := [(13, .long 0), (12, .int 0), (11, .int 1), (6, .long x190), (10, .int 22), (9, .int (nI (100 * j9 + p9))), (0, .ref o), (4, .int (nI j9)), (5, .int (nI m9)), (8, .int (nI p9))]) hx hb dX14_job_279 hl (by decide) rfl (fun ls hl => ?_)
                                                refine lv_iload hx hb dX14_job_281 (lv_at hl 8 rfl) ?_
                                                refine lv_iconst (v := 1) hx hb dX14_job_283 (by decide) ?_
                                                refine lv_icmp_le (tgt := 299) hx hb dX14_job_284 (by decide) (fun c_284 => ?_) (fun c_284 => ?_)
                                                · skip
                                                  refine lv_lconst (v := 0) hx hb dX14_job_299 (by decide) ?_
                                                  refine lv_lstore (lv' := [(15, .long 0), (13, .long 0), (12, .int 0), (11, .int 1), (6, .long x190), (10, .int 22), (9, .int (nI (100 * j9 + p9))), (0, .ref o), (4, .int (nI j9)), (5, .int (nI m9)), (8, .int (nI p9))]) hx hb dX14_job_300 hl (by decide) rfl (fun ls hl => ?_)
                                                  obtain ⟨x191, ex191⟩ : ∃ y : Int32, y = (nI p9) + 1 := ⟨_, rfl⟩
                                                  refine lv_iinc (v := x191) (lv' := [(8, .int x191), (15, .long 0), (13, .long 0), (12, .int 0), (11, .int 1), (6, .long x190), (10, .int 22), (9, .int (nI (100 * j9 + p9))), (0, .ref o), (4, .int (nI j9)), (5, .int (nI m9))]) hx hb dX14_job_302 hl (k := 10) rfl (by rw [ex191]; rfl) (by decide) rfl (fun ls hl => ?_)
                                                  refine lv_iload hx hb dX14_job_305 (lv_at hl 6 rfl) ?_
                                                  refine lv_tableIn (tgt := 579) hx hb dX14_job_307 (by decide) (by decide) (off := 272) rfl (by decide) ?_
                                                  obtain ⟨x192, ex192⟩ : ∃ y : Int32, y = (nI m9) + (-1) := ⟨_, rfl⟩
                                                  refine lv_iinc (v := x192) (lv' := [(5, .int x192), (8, .int x191), (15, .long 0), (13, .long 0), (12, .int 0), (11, .int 1), (6, .long x190), (10, .int 22), (9, .int (nI (100 * j9 + p9))), (0, .ref o), (4, .int (nI j9))]) hx hb dX14_job_579 hl (k := 10) rfl (by rw [ex192]; rfl) (by decide) rfl (fun ls hl => ?_)
                                                  refine lv_goto (tgt := 68) hx hb dX14_job_582 (by decide) ?_
                                                  rw [show x191 = nI (p9 + 1) by rw [ex191]; exact (nI_succ p9).symm] at hl
                                                  rw [show x192 = nI (m9 - 1) by rw [ex192, ← Int32.sub_eq_add_neg]; exact nI_sb (a := 1) (b := m9) (by omega)] at hl
                                                  rw [ex190] at hl
                                                  have hmu2 : 2 * lf + agN v9 j9 (p9 + 1) < n := by have y := @agN_le v9 j9 (p9 + 1); omega
                                                  exact ih (p9 + 1) (m9 - 1) lf sz Ij Fj Lj hmu2 (by omega) (by omega) hIo h38j hbj h66j h68j hsz64 hFo hLo Gv hM hF _ _ hG hS ls (lv_sub hl [9, 10, 0, 6, 1] rfl)
                                                · skip
                                                  have hm2 : 1 < m9 := Nat.lt_of_not_le (fun y => c_284 (nI_le (b := 1) y (by decide)))
                                                  refine lv_aload_n hx hb dX14_job_287 rfl (lv_at hl 6 rfl) ?_
                                                  refine mm_get (v := .ref (Ar 75)) hx hb hf_X14 (fun _ h9 => h9) hown hK hG hM.1 rfl 75 (by decide) (tb_use hT tw_1466) (fun _ h9 => h9) rfl dX14_job_288 ?_
                                                  refine lv_iload hx hb dX14_job_291 (lv_at hl 8 rfl) ?_
                                                  refine lv_iconst (v := 2) hx hb dX14_job_293 (by decide) ?_
                                                  refine lv_isub hx hb dX14_job_294 ?_
                                                  rw [show ((nI m9) - 2) = nI (m9 - 2) from nI_sb (a := 2) (b := m9) (by omega)]
                                                  refine mm_lald (n := 16) (f := Lj 75) hx hb hK hG 2 (hM.2.2.1 75 rfl) rfl (nI_in (N := 16) (by omega) (by decide)) dX14_job_295 ?_
                                                  refine lv_topl (fun x193 ex193 => ?_)
                                                  refine lv_goto (tgt := 300) hx hb dX14_job_296 (by decide) ?_
                                                  refine lv_lstore (lv' := [(15, .long x193), (13, .long 0), (12, .int 0), (11, .int 1), (6, .long x190), (10, .int 22), (9, .int (nI (100 * j9 + p9))), (0, .ref o), (4, .int (nI j9)), (5, .int (nI m9)), (8, .int (nI p9))]) hx hb dX14_job_300 hl (by decide) rfl (fun ls hl => ?_)
                                                  obtain ⟨x194, ex194⟩ : ∃ y : Int32, y = (nI p9) + 1 := ⟨_, rfl⟩
                                                  refine lv_iinc (v := x194) (lv' := [(8, .int x194), (15, .long x193), (13, .long 0), (12, .int 0), (11, .int 1), (6, .long x190), (10, .int 22), (9, .int (nI (100 * j9 + p9))), (0, .ref o), (4, .int (nI j9)), (5, .int (nI m9))]) hx hb dX14_job_302 hl (k := 10) rfl (by rw [ex194]; rfl) (by decide) rfl (fun ls hl => ?_)
                                                  refine lv_iload hx hb dX14_job_305 (lv_at hl 6 rfl) ?_
                                                  refine lv_tableIn (tgt := 579) hx hb dX14_job_307 (by decide) (by decide) (off := 272) rfl (by decide) ?_
                                                  obtain ⟨x195, ex195⟩ : ∃ y : Int32, y = (nI m9) + (-1) := ⟨_, rfl⟩
                                                  refine lv_iinc (v := x195) (lv' := [(5, .int x195), (8, .int x194), (15, .long x193), (13, .long 0), (12, .int 0), (11, .int 1), (6, .long x190), (10, .int 22), (9, .int (nI (100 * j9 + p9))), (0, .ref o), (4, .int (nI j9))]) hx hb dX14_job_579 hl (k := 10) rfl (by rw [ex195]; rfl) (by decide) rfl (fun ls hl => ?_)
                                                  refine lv_goto (tgt := 68) hx hb dX14_job_582 (by decide) ?_
                                                  rw [show x194 = nI (p9 + 1) by rw [ex194]; exact (nI_succ p9).symm] at hl
                                                  rw [show x195 = nI (m9 - 1) by rw [ex195, ← Int32.sub_eq_add_neg]; exact nI_sb (a := 1) (b := m9) (by omega)] at hl
                                                  rw [ex190] at hl
                                                  have hmu2 : 2 * lf + agN v9 j9 (p9 + 1) < n := by have y := @agN_le v9 j9 (p9 + 1); omega
                                                  exact ih (p9 + 1) (m9 - 1) lf sz Ij Fj Lj hmu2 (by omega) (by omega) hIo h38j hbj h66j h68j hsz64 hFo hLo Gv hM hF _ _ hG hS ls (lv_sub hl [9, 10, 0, 6, 1] rfl)
                                              · skip
                                                have hm1 : 0 < m9 := Nat.pos_of_ne_zero (fun y => c_263 (by rw [y]; exact Int32.le_refl 0))
                                                refine lv_aload_n hx hb dX14_job_266 rfl (lv_at hl 5 rfl) ?_
                                                refine mm_get (v := .ref (Ar 75)) hx hb hf_X14 (fun _ h9 => h9) hown hK hG hM.1 rfl 75 (by decide) (tb_use hT tw_1466) (fun _ h9 => h9) rfl dX14_job_267 ?_
                                                refine lv_iload hx hb dX14_job_270 (lv_at hl 7 rfl) ?_
                                                refine lv_iconst (v := 1) hx hb dX14_job_272 (by decide) ?_
                                                refine lv_isub hx hb dX14_job_273 ?_
                                                rw [show ((nI m9) - 1) = nI (m9 - 1) from nI_sb (a := 1) (b := m9) (by omega)]
                                                refine mm_lald (n := 16) (f := Lj 75) hx hb hK hG 2 (hM.2.2.1 75 rfl) rfl (nI_in (N := 16) (by omega) (by decide)) dX14_job_274 ?_
                                                refine lv_topl (fun x196 ex196 => ?_)
                                                refine lv_goto (tgt := 279) hx hb dX14_job_275 (by decide) ?_
                                                refine lv_lstore (lv' := [(13, .long x196), (12, .int 0), (11, .int 1), (6, .long x190), (10, .int 22), (9, .int (nI (100 * j9 + p9))), (0, .ref o), (4, .int (nI j9)), (5, .int (nI m9)), (8, .int (nI p9))]) hx hb dX14_job_279 hl (by decide) rfl (fun ls hl => ?_)
                                                refine lv_iload hx hb dX14_job_281 (lv_at hl 8 rfl) ?_
                                                refine lv_iconst (v := 1) hx hb dX14_job_283 (by decide) ?_
                                                refine lv_icmp_le (tgt := 299) hx hb dX14_job_284 (by decide) (fun c_284 => ?_) (fun c_284 => ?_)
                                                · skip
                                                  refine lv_lconst (v := 0) hx hb dX14_job_299 (by decide) ?_
                                                  refine lv_lstore (lv' := [(15, .long 0), (13, .long x196), (12, .int 0), (11, .int 1), (6, .long x190), (10, .int 22), (9, .int (nI (100 * j9 + p9))), (0, .ref o), (4, .int (nI j9)), (5, .int (nI m9)), (8, .int (nI p9))]) hx hb dX14_job_300 hl (by decide) rfl (fun ls hl => ?_)
                                                  obtain ⟨x197, ex197⟩ : ∃ y : Int32, y = (nI p9) + 1 := ⟨_, rfl⟩
                                                  refine lv_iinc (v := x197) (lv' := [(8, .int x197), (15, .long 0), (13, .long x196), (12, .int 0), (11, .int 1), (6, .long x190), (10, .int 22), (9, .int (nI (100 * j9 + p9))), (0, .ref o), (4, .int (nI j9)), (5, .int (nI m9))]) hx hb dX14_job_302 hl (k := 10) rfl (by rw [ex197]; rfl) (by decide) rfl (fun ls hl => ?_)
                                                  refine lv_iload hx hb dX14_job_305 (lv_at hl 6 rfl) ?_
                                                  refine lv_tableIn (tgt := 579) hx hb dX14_job_307 (by decide) (by decide) (off := 272) rfl (by decide) ?_
                                                  obtain ⟨x198, ex198⟩ : ∃ y : Int32, y = (nI m9) + (-1) := ⟨_, rfl⟩
                                                  refine lv_iinc (v := x198) (lv' := [(5, .int x198), (8, .int x197), (15, .long 0), (13, .long x196), (12, .int 0), (11, .int 1), (6, .long x190), (10, .int 22), (9, .int (nI (100 * j9 + p9))), (0, .ref o), (4, .int (nI j9))]) hx hb dX14_job_579 hl (k := 10) rfl (by rw [ex198]; rfl) (by decide) rfl (fun ls hl => ?_)
                                                  refine lv_goto (tgt := 68) hx hb dX14_job_582 (by decide) ?_
                                                  rw [show x197 = nI (p9 + 1) by rw [ex197]; exact (nI_succ p9).symm] at hl
                                                  rw [show x198 = nI (m9 - 1) by rw [ex198, ← Int32.sub_eq_add_neg]; exact nI_sb (a := 1) (b := m9) (by omega)] at hl
                                                  rw [ex190] at hl
                                                  have hmu2 : 2 * lf + agN v9 j9 (p9 + 1) < n := by have y := @agN_le v9 j9 (p9 + 1); omega
                                                  exact ih (p9 + 1) (m9 - 1) lf sz Ij Fj Lj hmu2 (by omega) (by omega) hIo h38j hbj h66j h68j hsz64 hFo hLo Gv hM hF _ _ hG hS ls (lv_sub hl [9, 10, 0, 6, 1] rfl)
                                                · skip
                                                  have hm2 : 1 < m9 := Nat.lt_of_not_le (fun y => c_284 (nI_le (b := 1) y (by decide)))
                                                  refine lv_aload_n hx hb dX14_job_287 rfl (lv_at hl 6 rfl) ?_
                                                  refine mm_get (v := .ref (Ar 75)) hx hb hf_X14 (fun _ h9 => h9) hown hK hG hM.1 rfl 75 (by decide) (tb_use hT tw_1466) (fun _ h9 => h9) rfl dX14_job_288 ?_
                                                  refine lv_iload hx hb dX14_job_291 (lv_at hl 8 rfl) ?_
                                                  refine lv_iconst (v := 2) hx hb dX14_job_293 (by decide) ?_
                                                  refine lv_isub hx hb dX14_job_294 ?_
                                                  rw [show ((nI m9) - 2) = nI (m9 - 2) from nI_sb (a := 2) (b := m9) (by omega)]
                                                  refine mm_lald (n := 16) (f := Lj 75) hx hb hK hG 2 (hM.2.2.1 75 rfl) rfl (nI_in (N := 16) (by omega) (by decide)) dX14_job_295 ?_
                                                  refine lv_topl (fun x199 ex199 => ?_)
                                                  refine lv_goto (tgt := 300) hx hb dX14_job_296 (by decide) ?_
                                                  refine lv_lstore (lv' := [(15, .long x199), (13, .long x196), (12, .int 0), (11, .int 1), (6, .long x190), (10, .int 22), (9, .int (nI (100 * j9 + p9))), (0, .ref o), (4, .int (nI j9)), (5, .int (nI m9)), (8, .int (nI p9))]) hx hb dX14_job_300 hl (by decide) rfl (fun ls hl => ?_)
                                                  obtain ⟨x200, ex200⟩ : ∃ y : Int32, y = (nI p9) + 1 := ⟨_, rfl⟩
                                                  refine lv_iinc (v := x200) (lv' := [(8, .int x200), (15, .long x199), (13, .long x196), (12, .int 0), (11, .int 1), (6, .long x190), (10, .int 22), (9, .int (nI (100 * j9 + p9))), (0, .ref o), (4, .int (nI j9)), (5, .int (nI m9))]) hx hb dX14_job_302 hl (k := 10) rfl (by rw [ex200]; rfl) (by decide) rfl (fun ls hl => ?_)
                                                  refine lv_iload hx hb dX14_job_305 (lv_at hl 6 rfl) ?_
                                                  refine lv_tableIn (tgt := 579) hx hb dX14_job_307 (by decide) (by decide) (off := 272) rfl (by decide) ?_
                                                  obtain ⟨x201, ex201⟩ : ∃ y : Int32, y = (nI m9) + (-1) := ⟨_, rfl⟩
                                                  refine lv_iinc (v := x201) (lv' := [(5, .int x201), (8, .int x200), (15, .long x199), (13, .long x196), (12, .int 0), (11, .int 1), (6, .long x190), (10, .int 22), (9, .int (nI (100 * j9 + p9))), (0, .ref o), (4, .int (nI j9))]) hx hb dX14_job_579 hl (k := 10) rfl (by rw [ex201]; rfl) (by decide) rfl (fun ls hl => ?_)
                                                  refine lv_goto (tgt := 68) hx hb dX14_job_582 (by decide) ?_
                                                  rw [show x200 = nI (p9 + 1) by rw [ex200]; exact (nI_succ p9).symm] at hl
                                                  rw [show x201 = nI (m9 - 1) by rw [ex201, ← Int32.sub_eq_add_neg]; exact nI_sb (a := 1) (b := m9) (by omega)] at hl
                                                  rw [ex190] at hl
                                                  have hmu2 : 2 * lf + agN v9 j9 (p9 + 1) < n := by have y := @agN_le v9 j9 (p9 + 1); omega
                                                  exact ih (p9 + 1) (m9 - 1) lf sz Ij Fj Lj hmu2 (by omega) (by omega) hIo h38j hbj h66j h68j hsz64 hFo hLo Gv hM hF _ _ hG hS ls (lv_sub hl [9, 10, 0, 6, 1] rfl)
                                            · skip
                                              exact absurd (by decide) c_248
                                        · skip
                                          exact absurd c_229 (by decide)
                                  · skip
                                    exact absurd c_201 (by decide)
                          · skip
                            exact absurd c_169 (by decide)
                      · skip
                        refine lv_iconst (v := 0) hx hb dX14_job_150 (by decide) ?_
                        exact W.iret (v := 0) hx hb hr (fun t ht hW => ⟨⟨_, _, rfl, ⟨Ij, Fj, Lj, hM, hF, hIo, h38j, ⟨sz, hsz64, h68j⟩, hFo, hLo⟩, mk_end hG ht⟩, hS.F ht⟩) hS.2.2 dX14_job_151
                    · skip
                      exact absurd c_119 (by decide)
                  · skip
                    replace hkd := hkde.trans hkd
                    rw [show x9 = 23 by rw [hx35, hkd]; rfl] at hl
                    refine lv_iload hx hb dX14_job_115 (lv_at hl 0 rfl) ?_
                    refine lv_bipush (v := 25) hx hb dX14_job_117 (by decide) ?_
                    refine lv_icmp_ne (tgt := 143) hx hb dX14_job_119 (by decide) (fun c_119 => ?_) (fun c_119 => ?_)
                    · skip
                      refine lv_lload hx hb dX14_job_143 (lv_at hl 5 rfl) ?_
                      refine lv_lconst (v := 0) hx hb dX14_job_145 (by decide) ?_
                      refine W.lcmp hx hb dX14_job_146 ?_
                      refine lv_if_ne (tgt := 152) hx hb dX14_job_147 (by decide) (fun c_147 => ?_) (fun c_147 => ?_)
                      · skip
                        obtain ⟨lf, hlf⟩ : ∃ y, lf9 = y + 1 := ⟨lf9 - 1, by have y : lf9 ≠ 0 := fun z => c_147 ((lg_cmp_eq _ _).mpr (by rw [z]; rfl)); omega⟩
                        rw [hlf] at hl hmu
                        refine lv_lload hx hb dX14_job_152 (lv_at hl 5 rfl) ?_
                        refine lv_lconst (v := 1) hx hb dX14_job_154 (by decide) ?_
                        refine lv_lsub hx hb dX14_job_155 ?_
                        rw [i64_dec (by omega)]
                        refine lv_topl (fun x203 ex203 => ?_)
                        refine lv_lstore (lv' := [(6, .long x203), (10, .int 23), (9, .int (nI (100 * j9 + p9))), (0, .ref o), (4, .int (nI j9)), (5, .int (nI m9)), (8, .int (nI p9))]) hx hb dX14_job_156 hl (by decide) rfl (fun ls hl => ?_)
                        refine lv_iload hx hb dX14_job_158 (lv_at hl 1 rfl) ?_
                        refine lv_bipush (v := 15) hx hb dX14_job_160 (by decide) ?_
                        refine lv_icmp_eq (tgt := 172) hx hb dX14_job_162 (by decide) (fun c_162 => ?_) (fun c_162 => ?_)
                        · skip
                          exact absurd c_162 (by decide)
                        · skip
                          refine lv_iload hx hb dX14_job_165 (lv_at hl 1 rfl) ?_
                          refine lv_bipush (v := 16) hx hb dX14_job_167 (by decide) ?_
                          refine lv_icmp_ne (tgt := 176) hx hb dX14_job_169 (by decide) (fun c_169 => ?_) (fun c_169 => ?_)
                          · skip
                            refine lv_iload hx hb dX14_job_176 (lv_at hl 1 rfl) ?_
                            refine lv_bipush (v := 17) hx hb dX14_job_178 (by decide) ?_
                            refine lv_icmp_eq (tgt := 204) hx hb dX14_job_180 (by decide) (fun c_180 => ?_) (fun c_180 => ?_)
                            · skip
                              exact absurd c_180 (by decide)
                            · skip
                              refine lv_iload hx hb dX14_job_183 (lv_at hl 1 rfl) ?_
                              refine lv_bipush (v := 18) hx hb dX14_job_185 (by decide) ?_
                              refine lv_icmp_eq (tgt := 204) hx hb dX14_job_187 (by decide) (fun c_187 => ?_) (fun c_187 => ?_)
                              · skip
                                exact absurd c_187 (by decide)
                              · skip
                                refine lv_iload hx hb dX14_job_190 (lv_at hl 1 rfl) ?_
                                refine lv_bipush (v := 19) hx hb dX14_job_192 (by decide) ?_
                                refine lv_icmp_eq (tgt := 204) hx hb dX14_job_194 (by decide) (fun c_194 => ?_) (fun c_194 => ?_)
                                · skip
                                  exact absurd c_194 (by decide)
                                · skip
                                  refine lv_iload hx hb dX14_job_197 (lv_at hl 1 rfl) ?_
                                  refine lv_bipush (v := 21) hx hb dX14_job_199 (by decide) ?_
                                  refine lv_icmp_ne (tgt := 208) hx hb dX14_job_201 (by decide) (fun c_201 => ?_) (fun c_201 => ?_)
                                  · skip
                                    refine lv_iconst (v := 1) hx hb dX14_job_208 (by decide) ?_
                                    refine lv_istore (lv' := [(11, .int 1), (6, .long x203), (10, .int 23), (9, .int (nI (100 * j9 + p9))), (0, .ref o), (4, .int (nI j9)), (5, .int (nI m9)), (8, .int (nI p9))]) hx hb dX14_job_209 hl (by decide) rfl (fun ls hl => ?_)
                                    refine lv_iload hx hb dX14_job_211 (lv_at hl 2 rfl) ?_
                                    refine lv_bipush (v := 15) hx hb dX14_job_213 (by decide) ?_
                                    refine lv_icmp_eq (tgt := 232) hx hb dX14_job_215 (by decide) (fun c_215 => ?_) (fun c_215 => ?_)
                                    · skip
                                      exact absurd c_215 (by decide)
                                    · skip
                                      refine lv_iload hx hb dX14_job_218 (lv_at hl 2 rfl) ?_
                                      refine lv_bipush (v := 16) hx hb dX14_job_220 (by decide) ?_
                                      refine lv_icmp_eq (tgt := 232) hx hb dX14_job_222 (by decide) (fun c_222 => ?_) (fun c_222 => ?_)
                                      · skip
                                        exact absurd c_222 (by decide)
                                      · skip
                                        refine lv_iload hx hb dX14_job_225 (lv_at hl 2 rfl) ?_
                                        refine lv_bipush (v := 20) hx hb dX14_job_227 (by decide) ?_
                                        refine lv_icmp_ne (tgt := 236) hx hb dX14_job_229 (by decide) (fun c_229 => ?_) (fun c_229 => ?_)
                                        · skip
                                          refine lv_iconst (v := 0) hx hb dX14_job_236 (by decide) ?_
                                          refine lv_istore (lv' := [(12, .int 0), (11, .int 1), (6, .long x203), (10, .int 23), (9, .int (nI (100 * j9 + p9))), (0, .ref o), (4, .int (nI j9)), (5, .int (nI m9)), (8, .int (nI p9))]) hx hb dX14_job_237 hl (by decide) rfl (fun ls hl => ?_)
                                          refine lv_iload hx hb dX14_job_239 (lv_at hl 7 rfl) ?_
                                          refine lv_iload hx hb dX14_job_241 (lv_at hl 1 rfl) ?_
                                          refine lv_icmp_lt (tgt := 258) hx hb dX14_job_243 (by decide) (fun c_243 => ?_) (fun c_243 => ?_)
                                          · skip
                                            refine lv_bipush (v := (-3)) hx hb dX14_job_258 (by decide) ?_
                                            exact W.iret (v := (-3)) hx hb hr (fun t ht hW => ⟨⟨_, _, rfl, ⟨Ij, Fj, Lj, hM, hF, hIo, h38j, ⟨sz, hsz64, h68j⟩, hFo, hLo⟩, mk_end hG ht⟩, hS.F ht⟩) hS.2.2 dX14_job_260
                                          · skip
                                            refine lv_iload hx hb dX14_job_246 (lv_at hl 0 rfl) ?_
                                            refine lv_if_eq (tgt := 261) hx hb dX14_job_248 (by decide) (fun c_248 => ?_) (fun c_248 => ?_)
                                            · skip
                                              have hmw : 1 ≤ m9 := Nat.le_of_not_lt (fun y => c_243 (nI_lt (b := 1) y (by decide)))
                                              refine lv_iload hx hb dX14_job_261 (lv_at hl 7 rfl) ?_
                                              refine lv_if_le (tgt := 278) hx hb dX14_job_263 (by decide) (fun c_263 => ?_) (fun c_263 => ?_)
                                              · skip
                                                refine lv_lconst (v := 0) hx hb dX14_job_278 (by decide) ?_
                                                refine lv_lstore (lv' := [(13, .long 0), (12, .int 0), (11, .int 1), (6, .long x203), (10, .int 23), (9, .int (nI (100 * j9 + p9))), (0, .ref o), (4, .int (nI j9)), (5, .int (nI m9)), (8, .int (nI p9))]) hx hb dX14_job_279 hl (by decide) rfl (fun ls hl => ?_)
                                                refine lv_iload hx hb dX14_job_281 (lv_at hl 8 rfl) ?_
                                                refine lv_iconst (v := 1) hx hb dX14_job_283 (by decide) ?_
                                                refine lv_icmp_le (tgt := 299) hx hb dX14_job_284 (by decide) (fun c_284 => ?_) (fun c_284 => ?_)
                                                · skip
                                                  refine lv_lconst (v := 0) hx hb dX14_job_299 (by decide) ?_
                                                  refine lv_lstore (lv' := [(15, .long 0), (13, .long 0), (12, .int 0), (11, .int 1), (6, .long x203), (10, .int 23), (9, .int (nI (100 * j9 + p9))), (0, .ref o), (4, .int (nI j9)), (5, .int (nI m9)), (8, .int (nI p9))]) hx hb dX14_job_300 hl (by decide) rfl (fun ls hl => ?_)
                                                  obtain ⟨x204, ex204⟩ : ∃ y : Int32, y = (nI p9) + 1 := ⟨_, rfl⟩
                                                  refine lv_iinc (v := x204) (lv' := [(8, .int x204), (15, .long 0), (13, .long 0), (12, .int 0), (11, .int 1), (6, .long x203), (10, .int 23), (9, .int (nI (100 * j9 + p9))), (0, .ref o), (4, .int (nI j9)), (5, .int (nI m9))]) hx hb dX14_job_302 hl (k := 10) rfl (by rw [ex204]; rfl) (by decide) rfl (fun ls hl => ?_)
                                                  refine lv_iload hx hb dX14_job_305 (lv_at hl 6 rfl) ?_
                                                  refine lv_tableIn (tgt := 535) hx hb dX14_job_307 (by decide) (by decide) (off := 228) rfl (by decide) ?_
                                                  refine lv_aload_n hx hb dX14_job_535 rfl (lv_at hl 8 rfl) ?_
                                                  refine mm_get (v := .int (Ij 68)) hx hb hf_X14 (fun _ h9 => h9) hown hK hG hM.1 rfl 68 (by decide) (tb_use hT tw_1459) (fun _ h9 => h9) rfl dX14_job_536 ?_
                                                  rw [show (Ij 68) = nI sz from h68j]
                                                  refine lv_bipush (v := 64) hx hb dX14_job_539 (by decide) ?_
                                                  refine lv_icmp_ne (tgt := 547) hx hb dX14_job_541 (by decide) (fun c_541 => ?_) (fun c_541 => ?_)
                                                  · skip
                                                    refine lv_aload_n hx hb dX14_job_547 rfl (lv_at hl 8 rfl) ?_
                                                    refine mm_get (v := .ref (Ar 67)) hx hb hf_X14 (fun _ h9 => h9) hown hK hG hM.1 rfl 67 (by decide) (tb_use hT tw_1458) (fun _ h9 => h9) rfl dX14_job_548 ?_
                                                    refine lv_aload_n hx hb dX14_job_551 rfl (lv_at hl 8 rfl) ?_
                                                    refine mm_get (v := .int (Ij 68)) hx hb hf_X14 (fun _ h9 => h9) hown hK hG hM.1 rfl 68 (by decide) (tb_use hT tw_1459) (fun _ h9 => h9) rfl dX14_job_552 ?_
                                                    have hsz : sz < 64 := by have y : sz ≠ 64 := fun z => c_541 (by rw [z]; rfl); omega
                                                    rw [show (Ij 68) = nI sz from h68j]
                                                    refine lv_lload hx hb dX14_job_555 (lv_at hl 2 rfl) ?_
                                                    refine lv_ldc2 hx hb hown (tb_use hT tw_1838) dX14_job_557 ?_
                                                    refine lv_land hx hb dX14_job_560 ?_
                                                    obtain ⟨x205, ex205⟩ : ∃ y, y = ((0 &&& 255) : Int64).toInt32 := ⟨_, rfl⟩
                                                    refine lv_l2i (v := x205) hx hb dX14_job_561 ex205.symm ?_
                                                    refine mm_iast (n := mdN 67) (f := Fj 67) hx hb hK hG hS 1 (hM.2.1 67 rfl) rfl (nI_in (N := mdN 67) (by show _ < 64; omega) (by decide)) dX14_job_562 (fun H locs hG hS => ?_)
                                                    have hM := MD.seti (k := 67) (upd (Fj 67) (nI sz).toNatClampNeg x205) hM rfl
                                                    have hF := hF.wa (k := 67) (e' := .inl (cy 1, mdN 67, .inl (upd (Fj 67) (nI sz).toNatClampNeg x205))) rfl
                                                    obtain ⟨F206, eF206⟩ : ∃ g, g = va_up Fj 67 (upd (Fj 67) (nI sz).toNatClampNeg x205) := ⟨_, rfl⟩
                                                    rw [← eF206] at hM
                                                    generalize mm_set _ _ _ = G207 at hG hM hF
                                                    refine lv_aload_n hx hb dX14_job_563 rfl (lv_at hl 8 rfl) ?_
                                                    refine lv_dup hx hb dX14_job_564 rfl ?_
                                                    refine mm_get (v := .int (Ij 68)) hx hb hf_X14 (fun _ h9 => h9) hown hK hG hM.1 rfl 68 (by decide) (tb_use hT tw_1459) (fun _ h9 => h9) rfl dX14_job_565 ?_
                                                    rw [show (Ij 68) = nI sz from h68j]
                                                    refine lv_iconst (v := 1) hx hb dX14_job_568 (by decide) ?_
                                                    refine lv_iadd hx hb dX14_job_569 ?_
                                                    refine lv_topi (fun x208 ex208 => ?_)
                                                    refine mm_put (v := .int x208) (ty := .int) hx hb hf_X14 (fun _ h9 => h9) tyX14 tyX14_ok nmX14 hown hK hG hS hM.1 rfl 68 (by decide) (tb_use hT tw_1459) (fun _ h9 => h9) rfl (by decide +kernel) rfl rfl (Nat.le_of_ble_eq_true rfl) dX14_job_570 (fun H locs hG hS => ?_)
                                                    have hM := MD.puti (k := 68) (v := x208) hM rfl
                                                    have hF := hF.wo (e' := .inr (15, (mfs Ar Ij).set 68 (.int x208)))
                                                    obtain ⟨I209, eI209⟩ : ∃ g, g = upd Ij 68 x208 := ⟨_, rfl⟩
                                                    rw [← eI209] at hM
                                                    generalize mm_set _ _ _ = G210 at hG hM hF
                                                    obtain ⟨x211, ex211⟩ : ∃ y : Int32, y = (nI m9) + (-1) := ⟨_, rfl⟩
                                                    refine lv_iinc (v := x211) (lv' := [(5, .int x211), (8, .int x204), (15, .long 0), (13, .long 0), (12, .int 0), (11, .int 1), (6, .long x203), (10, .int 23), (9, .int (nI (100 * j9 + p9))), (0, .ref o), (4, .int (nI j9))]) hx hb dX14_job_573 hl (k := 10) rfl (by rw [ex211]; rfl) (by decide) rfl (fun ls hl => ?_)
                                                    refine lv_goto (tgt := 582) hx hb dX14_job_576 (by decide) ?_
                                                    refine lv_goto (tgt := 68) hx hb dX14_job_582 (by decide) ?_
                                                    rw [show x204 = nI (p9 + 1) by rw [ex204]; exact (nI_succ p9).symm] at hl
                                                    rw [show x211 = nI (m9 - 1) by rw [ex211, ← Int32.sub_eq_add_neg]; exact nI_sb (a := 1) (b := m9) (by omega)] at hl
                                                    rw [ex203] at hl
                                                    have hmu2 : 2 * lf + agN v9 j9 (p9 + 1) < n := by have y := @agN_le v9 j9 (p9 + 1); omega
                                                    exact ih (p9 + 1) (m9 - 1) lf (sz + 1) I209 F206 Lj hmu2 (by omega) (by omega) (fun j h1 h2 => by rw [eI209, pk_un h2]; exact hIo j h1 h2) (by rw [eI209, pk_un (by decide)]; exact h38j) (by rw [eI209, pk_un (by decide)]; exact hbj) (by rw [eI209, pk_un (by decide)]; exact h66j) (by rw [eI209, pk_us, ex208]; exact nI_1 sz) (by omega) (fun j hj => by rw [eF206, va_up_ne _ _ (by omega)]; exact hFo j hj) hLo G210 hM hF _ _ hG hS ls (lv_sub hl [9, 10, 0, 6, 1] rfl)
                                                  · skip
                                                    refine lv_bipush (v := (-4)) hx hb dX14_job_544 (by decide) ?_
                                                    exact W.iret (v := (-4)) hx hb hr (fun t ht hW => ⟨⟨_, _, rfl, ⟨Ij, Fj, Lj, hM, hF, hIo, h38j, ⟨sz, hsz64, h68j⟩, hFo, hLo⟩, mk_end hG ht⟩, hS.F ht⟩) hS.2.2 dX14_job_546
                                                · skip
                                                  have hm2 : 1 < m9 := Nat.lt_of_not_le (fun y => c_284 (nI_le (b := 1) y (by decide)))
                                                  refine lv_aload_n hx hb dX14_job_287 rfl (lv_at hl 6 rfl) ?_
                                                  refine mm_get (v := .ref (Ar 75)) hx hb hf_X14 (fun _ h9 => h9) hown hK hG hM.1 rfl 75 (by decide) (tb_use hT tw_1466) (fun _ h9 => h9) rfl dX14_job_288 ?_
                                                  refine lv_iload hx hb dX14_job_291 (lv_at hl 8 rfl) ?_
                                                  refine lv_iconst (v := 2) hx hb dX14_job_293 (by decide) ?_
                                                  refine lv_isub hx hb dX14_job_294 ?_
                                                  rw [show ((nI m9) - 2) = nI (m9 - 2) from nI_sb (a := 2) (b := m9) (by omega)]
                                                  refine mm_lald (n := 16) (f := Lj 75) hx hb hK hG 2 (hM.2.2.1 75 rfl) rfl (nI_in (N := 16) (by omega) (by decide)) dX14_job_295 ?_
                                                  refine lv_topl (fun x212 ex212 => ?_)
                                                  refine lv_goto (tgt := 300) hx hb dX14_job_296 (by decide) ?_
                                                  refine lv_lstore (lv' := [(15, .long x212), (13, .long 0), (12, .int 0), (11, .int 1), (6, .long x203), (10, .int 23), (9, .int (nI (100 * j9 + p9))), (0, .ref o), (4, .int (nI j9)), (5, .int (nI m9)), (8, .int (nI p9))]) hx hb dX14_job_300 hl (by decide) rfl (fun ls hl => ?_)
                                                  obtain ⟨x213, ex213⟩ : ∃ y : Int32, y = (nI p9) + 1 := ⟨_, rfl⟩
                                                  refine lv_iinc (v := x213) (lv' := [(8, .int x213), (15, .long x212), (13, .long 0), (12, .int 0), (11, .int 1), (6, .long x203), (10, .int 23), (9, .int (nI (100 * j9 + p9))), (0, .ref o), (4, .int (nI j9)), (5, .int (nI m9))]) hx hb dX14_job_302 hl (k := 10) rfl (by rw [ex213]; rfl) (by decide) rfl (fun ls hl => ?_)
                                                  refine lv_iload hx hb dX14_job_305 (lv_at hl 6 rfl) ?_
                                                  refine lv_tableIn (tgt := 535) hx hb dX14_job_307 (by decide) (by decide) (off := 228) rfl (by decide) ?_
                                                  refine lv_aload_n hx hb dX14_job_535 rfl (lv_at hl 8 rfl) ?_
                                                  refine mm_get (v := .int (Ij 68)) hx hb hf_X14 (fun _ h9 => h9) hown hK hG hM.1 rfl 68 (by decide) (tb_use hT tw_1459) (fun _ h9 => h9) rfl dX14_job_536 ?_
                                                  rw [show (Ij 68) = nI sz from h68j]
                                                  refine lv_bipush (v := 64) hx hb dX14_job_539 (by decide) ?_
                                                  refine lv_icmp_ne (tgt := 547) hx hb dX14_job_541 (by decide) (fun c_541 => ?_) (fun c_541 => ?_)
                                                  · skip
                                                    refine lv_aload_n hx hb dX14_job_547 rfl (lv_at hl 8 rfl) ?_
                                                    refine mm_get (v := .ref (Ar 67)) hx hb hf_X14 (fun _ h9 => h9) hown hK hG hM.1 rfl 67 (by decide) (tb_use hT tw_1458) (fun _ h9 => h9) rfl dX14_job_548 ?_
                                                    refine lv_aload_n hx hb dX14_job_551 rfl (lv_at hl 8 rfl) ?_
                                                    refine mm_get (v := .int (Ij 68)) hx hb hf_X14 (fun _ h9 => h9) hown hK hG hM.1 rfl 68 (by decide) (tb_use hT tw_1459) (fun _ h9 => h9) rfl dX14_job_552 ?_
                                                    have hsz : sz < 64 := by have y : sz ≠ 64 := fun z => c_541 (by rw [z]; rfl); omega
                                                    rw [show (Ij 68) = nI sz from h68j]
                                                    refine lv_lload hx hb dX14_job_555 (lv_at hl 2 rfl) ?_
                                                    refine lv_ldc2 hx hb hown (tb_use hT tw_1838) dX14_job_557 ?_
                                                    refine lv_land hx hb dX14_job_560 ?_
                                                    obtain ⟨x214, ex214⟩ : ∃ y, y = ((0 &&& 255) : Int64).toInt32 := ⟨_, rfl⟩
                                                    refine lv_l2i (v := x214) hx hb dX14_job_561 ex214.symm ?_
                                                    refine mm_iast (n := mdN 67) (f := Fj 67) hx hb hK hG hS 1 (hM.2.1 67 rfl) rfl (nI_in (N := mdN 67) (by show _ < 64; omega) (by decide)) dX14_job_562 (fun H locs hG hS => ?_)
                                                    have hM := MD.seti (k := 67) (upd (Fj 67) (nI sz).toNatClampNeg x214) hM rfl
                                                    have hF := hF.wa (k := 67) (e' := .inl (cy 1, mdN 67, .inl (upd (Fj 67) (nI sz).toNatClampNeg x214))) rfl
                                                    obtain ⟨F215, eF215⟩ : ∃ g, g = va_up Fj 67 (upd (Fj 67) (nI sz).toNatClampNeg x214) := ⟨_, rfl⟩
                                                    rw [← eF215] at hM
                                                    generalize mm_set _ _ _ = G216 at hG hM hF
                                                    refine lv_aload_n hx hb dX14_job_563 rfl (lv_at hl 8 rfl) ?_
                                                    refine lv_dup hx hb dX14_job_564 rfl ?_
                                                    refine mm_get (v := .int (Ij 68)) hx hb hf_X14 (fun _ h9 => h9) hown hK hG hM.1 rfl 68 (by decide) (tb_use hT tw_1459) (fun _ h9 => h9) rfl dX14_job_565 ?_
                                                    rw [show (Ij 68) = nI sz from h68j]
                                                    refine lv_iconst (v := 1) hx hb dX14_job_568 (by decide) ?_
                                                    refine lv_iadd hx hb dX14_job_569 ?_
                                                    refine lv_topi (fun x217 ex217 => ?_)
                                                    refine mm_put (v := .int x217) (ty := .int) hx hb hf_X14 (fun _ h9 => h9) tyX14 tyX14_ok nmX14 hown hK hG hS hM.1 rfl 68 (by decide) (tb_use hT tw_1459) (fun _ h9 => h9) rfl (by decide +kernel) rfl rfl (Nat.le_of_ble_eq_true rfl) dX14_job_570 (fun H locs hG hS => ?_)
                                                    have hM := MD.puti (k := 68) (v := x217) hM rfl
                                                    have hF := hF.wo (e' := .inr (15, (mfs Ar Ij).set 68 (.int x217)))
                                                    obtain ⟨I218, eI218⟩ : ∃ g, g = upd Ij 68 x217 := ⟨_, rfl⟩
                                                    rw [← eI218] at hM
                                                    generalize mm_set _ _ _ = G219 at hG hM hF
                                                    obtain ⟨x220, ex220⟩ : ∃ y : Int32, y = (nI m9) + (-1) := ⟨_, rfl⟩
                                                    refine lv_iinc (v := x220) (lv' := [(5, .int x220), (8, .int x213), (15, .long x212), (13, .long 0), (12, .int 0), (11, .int 1), (6, .long x203), (10, .int 23), (9, .int (nI (100 * j9 + p9))), (0, .ref o), (4, .int (nI j9))]) hx hb dX14_job_573 hl (k := 10) rfl (by rw [ex220]; rfl) (by decide) rfl (fun ls hl => ?_)
                                                    refine lv_goto (tgt := 582) hx hb dX14_job_576 (by decide) ?_
                                                    refine lv_goto (tgt := 68) hx hb dX14_job_582 (by decide) ?_
                                                    rw [show x213 = nI (p9 + 1) by rw [ex213]; exact (nI_succ p9).symm] at hl
                                                    rw [show x220 = nI (m9 - 1) by rw [ex220, ← Int32.sub_eq_add_neg]; exact nI_sb (a := 1) (b := m9) (by omega)] at hl
                                                    rw [ex203] at hl
                                                    have hmu2 : 2 * lf + agN v9 j9 (p9 + 1) < n := by have y := @agN_le v9 j9 (p9 + 1); omega
                                                    exact ih (p9 + 1) (m9 - 1) lf (sz + 1) I218 F215 Lj hmu2 (by omega) (by omega) (fun j h1 h2 => by rw [eI218, pk_un h2]; exact hIo j h1 h2) (by rw [eI218, pk_un (by decide)]; exact h38j) (by rw [eI218, pk_un (by decide)]; exact hbj) (by rw [eI218, pk_un (by decide)]; exact h66j) (by rw [eI218, pk_us, ex217]; exact nI_1 sz) (by omega) (fun j hj => by rw [eF215, va_up_ne _ _ (by omega)]; exact hFo j hj) hLo G219 hM hF _ _ hG hS ls (lv_sub hl [9, 10, 0, 6, 1] rfl)
                                                  · skip
                                                    refine lv_bipush (v := (-4)) hx hb dX14_job_544 (by decide) ?_
                                                    exact W.iret (v := (-4)) hx hb hr (fun t ht hW => ⟨⟨_, _, rfl, ⟨Ij, Fj, Lj, hM, hF, hIo, h38j, ⟨sz, hsz64, h68j⟩, hFo, hLo⟩, mk_end hG ht⟩, hS.F ht⟩) hS.2.2 dX14_job_546
                                              · skip
                                                have hm1 : 0 < m9 := Nat.pos_of_ne_zero (fun y => c_263 (by rw [y]; exact Int32.le_refl 0))
                                                refine lv_aload_n hx hb dX14_job_266 rfl (lv_at hl 5 rfl) ?_
                                                refine mm_get (v := .ref (Ar 75)) hx hb hf_X14 (fun _ h9 => h9) hown hK hG hM.1 rfl 75 (by decide) (tb_use hT tw_1466) (fun _ h9 => h9) rfl dX14_job_267 ?_
                                                refine lv_iload hx hb dX14_job_270 (lv_at hl 7 rfl) ?_
                                                refine lv_iconst (v := 1) hx hb dX14_job_272 (by decide) ?_
                                                refine lv_isub hx hb dX14_job_273 ?_
                                                rw [show ((nI m9) - 1) = nI (m9 - 1) from nI_sb (a := 1) (b := m9) (by omega)]
                                                refine mm_lald (n := 16) (f := Lj 75) hx hb hK hG 2 (hM.2.2.1 75 rfl) rfl (nI_in (N := 16) (by omega) (by decide)) dX14_job_274 ?_
                                                refine lv_topl (fun x221 ex221 => ?_)
                                                refine lv_goto (tgt := 279) hx hb dX14_job_275 (by decide) ?_
                                                refine lv_lstore (lv' := [(13, .long x221), (12, .int 0), (11, .int 1), (6, .long x203), (10, .int 23), (9, .int (nI (100 * j9 + p9))), (0, .ref o), (4, .int (nI j9)), (5, .int (nI m9)), (8, .int (nI p9))]) hx hb dX14_job_279 hl (by decide) rfl (fun ls hl => ?_)
                                                refine lv_iload hx hb dX14_job_281 (lv_at hl 8 rfl) ?_
                                                refine lv_iconst (v := 1) hx hb dX14_job_283 (by decide) ?_
                                                refine lv_icmp_le (tgt := 299) hx hb dX14_job_284 (by decide) (fun c_284 => ?_) (fun c_284 => ?_)
                                                · skip
                                                  refine lv_lconst (v := 0) hx hb dX14_job_299 (by decide) ?_
                                                  refine lv_lstore (lv' := [(15, .long 0), (13, .long x221), (12, .int 0), (11, .int 1), (6, .long x203), (10, .int 23), (9, .int (nI (100 * j9 + p9))), (0, .ref o), (4, .int (nI j9)), (5, .int (nI m9)), (8, .int (nI p9))]) hx hb dX14_job_300 hl (by decide) rfl (fun ls hl => ?_)
                                                  obtain ⟨x222, ex222⟩ : ∃ y : Int32, y = (nI p9) + 1 := ⟨_, rfl⟩
                                                  refine lv_iinc (v := x222) (lv' := [(8, .int x222), (15, .long 0), (13, .long x221), (12, .int 0), (11, .int 1), (6, .long x203), (10, .int 23), (9, .int (nI (100 * j9 + p9))), (0, .ref o), (4, .int (nI j9)), (5, .int (nI m9))]) hx hb dX14_job_302 hl (k := 10) rfl (by rw [ex222]; rfl) (by decide) rfl (fun ls hl => ?_)
                                                  refine lv_iload hx hb dX14_job_305 (lv_at hl 6 rfl) ?_
                                                  refine lv_tableIn (tgt := 535) hx hb dX14_job_307 (by decide) (by decide) (off := 228) rfl (by decide) ?_
                                                  refine lv_aload_n hx hb dX14_job_535 rfl (lv_at hl 8 rfl) ?_
                                                  refine mm_get (v := .int (Ij 68)) hx hb hf_X14 (fun _ h9 => h9) hown hK hG hM.1 rfl 68 (by decide) (tb_use hT tw_1459) (fun _ h9 => h9) rfl dX14_job_536 ?_
                                                  rw [show (Ij 68) = nI sz from h68j]
                                                  refine lv_bipush (v := 64) hx hb dX14_job_539 (by decide) ?_
                                                  refine lv_icmp_ne (tgt := 547) hx hb dX14_job_541 (by decide) (fun c_541 => ?_) (fun c_541 => ?_)
                                                  · skip
                                                    refine lv_aload_n hx hb dX14_job_547 rfl (lv_at hl 8 rfl) ?_
                                                    refine mm_get (v := .ref (Ar 67)) hx hb hf_X14 (fun _ h9 => h9) hown hK hG hM.1 rfl 67 (by decide) (tb_use hT tw_1458) (fun _ h9 => h9) rfl dX14_job_548 ?_
                                                    refine lv_aload_n hx hb dX14_job_551 rfl (lv_at hl 8 rfl) ?_
                                                    refine mm_get (v := .int (Ij 68)) hx hb hf_X14 (fun _ h9 => h9) hown hK hG hM.1 rfl 68 (by decide) (tb_use hT tw_1459) (fun _ h9 => h9) rfl dX14_job_552 ?_
                                                    have hsz : sz < 64 := by have y : sz ≠ 64 := fun z => c_541 (by rw [z]; rfl); omega
                                                    rw [show (Ij 68) = nI sz from h68j]
                                                    refine lv_lload hx hb dX14_job_555 (lv_at hl 2 rfl) ?_
                                                    refine lv_ldc2 hx hb hown (tb_use hT tw_1838) dX14_job_557 ?_
                                                    refine lv_land hx hb dX14_job_560 ?_
                                                    obtain ⟨x223, ex223⟩ : ∃ y, y = ((x221 &&& 255) : Int64).toInt32 := ⟨_, rfl⟩
                                                    refine lv_l2i (v := x223) hx hb dX14_job_561 ex223.symm ?_
                                                    refine mm_iast (n := mdN 67) (f := Fj 67) hx hb hK hG hS 1 (hM.2.1 67 rfl) rfl (nI_in (N := mdN 67) (by show _ < 64; omega) (by decide)) dX14_job_562 (fun H locs hG hS => ?_)
                                                    have hM := MD.seti (k := 67) (upd (Fj 67) (nI sz).toNatClampNeg x223) hM rfl
                                                    have hF := hF.wa (k := 67) (e' := .inl (cy 1, mdN 67, .inl (upd (Fj 67) (nI sz).toNatClampNeg x223))) rfl
                                                    obtain ⟨F224, eF224⟩ : ∃ g, g = va_up Fj 67 (upd (Fj 67) (nI sz).toNatClampNeg x223) := ⟨_, rfl⟩
                                                    rw [← eF224] at hM
                                                    generalize mm_set _ _ _ = G225 at hG hM hF
                                                    refine lv_aload_n hx hb dX14_job_563 rfl (lv_at hl 8 rfl) ?_
                                                    refine lv_dup hx hb dX14_job_564 rfl ?_
                                                    refine mm_get (v := .int (Ij 68)) hx hb hf_X14 (fun _ h9 => h9) hown hK hG hM.1 rfl 68 (by decide) (tb_use hT tw_1459) (fun _ h9 => h9) rfl dX14_job_565 ?_
                                                    rw [show (Ij 68) = nI sz from h68j]
                                                    refine lv_iconst (v := 1) hx hb dX14_job_568 (by decide) ?_
                                                    refine lv_iadd hx hb dX14_job_569 ?_
                                                    refine lv_topi (fun x226 ex226 => ?_)
                                                    refine mm_put (v := .int x226) (ty := .int) hx hb hf_X14 (fun _ h9 => h9) tyX14 tyX14_ok nmX14 hown hK hG hS hM.1 rfl 68 (by decide) (tb_use hT tw_1459) (fun _ h9 => h9) rfl (by decide +kernel) rfl rfl (Nat.le_of_ble_eq_true rfl) dX14_job_570 (fun H locs hG hS => ?_)
                                                    have hM := MD.puti (k := 68) (v := x226) hM rfl
                                                    have hF := hF.wo (e' := .inr (15, (mfs Ar Ij).set 68 (.int x226)))
                                                    obtain ⟨I227, eI227⟩ : ∃ g, g = upd Ij 68 x226 := ⟨_, rfl⟩
                                                    rw [← eI227] at hM
                                                    generalize mm_set _ _ _ = G228 at hG hM hF
                                                    obtain ⟨x229, ex229⟩ : ∃ y : Int32, y = (nI m9) + (-1) := ⟨_, rfl⟩
                                                    refine lv_iinc (v := x229) (lv' := [(5, .int x229), (8, .int x222), (15, .long 0), (13, .long x221), (12, .int 0), (11, .int 1), (6, .long x203), (10, .int 23), (9, .int (nI (100 * j9 + p9))), (0, .ref o), (4, .int (nI j9))]) hx hb dX14_job_573 hl (k := 10) rfl (by rw [ex229]; rfl) (by decide) rfl (fun ls hl => ?_)
                                                    refine lv_goto (tgt := 582) hx hb dX14_job_576 (by decide) ?_
                                                    refine lv_goto (tgt := 68) hx hb dX14_job_582 (by decide) ?_
                                                    rw [show x222 = nI (p9 + 1) by rw [ex222]; exact (nI_succ p9).symm] at hl
                                                    rw [show x229 = nI (m9 - 1) by rw [ex229, ← Int32.sub_eq_add_neg]; exact nI_sb (a := 1) (b := m9) (by omega)] at hl
                                                    rw [ex203] at hl
                                                    have hmu2 : 2 * lf + agN v9 j9 (p9 + 1) < n := by have y := @agN_le v9 j9 (p9 + 1); omega
                                                    exact ih (p9 + 1) (m9 - 1) lf (sz + 1) I227 F224 Lj hmu2 (by omega) (by omega) (fun j h1 h2 => by rw [eI227, pk_un h2]; exact hIo j h1 h2) (by rw [eI227, pk_un (by decide)]; exact h38j) (by rw [eI227, pk_un (by decide)]; exact hbj) (by rw [eI227, pk_un (by decide)]; exact h66j) (by rw [eI227, pk_us, ex226]; exact nI_1 sz) (by omega) (fun j hj => by rw [eF224, va_up_ne _ _ (by omega)]; exact hFo j hj) hLo G228 hM hF _ _ hG hS ls (lv_sub hl [9, 10, 0, 6, 1] rfl)
                                                  · skip
                                                    refine lv_bipush (v := (-4)) hx hb dX14_job_544 (by decide) ?_
                                                    exact W.iret (v := (-4)) hx hb hr (fun t ht hW => ⟨⟨_, _, rfl, ⟨Ij, Fj, Lj, hM, hF, hIo, h38j, ⟨sz, hsz64, h68j⟩, hFo, hLo⟩, mk_end hG ht⟩, hS.F ht⟩) hS.2.2 dX14_job_546
                                                · skip
                                                  have hm2 : 1 < m9 := Nat.lt_of_not_le (fun y => c_284 (nI_le (b := 1) y (by decide)))
                                                  refine lv_aload_n hx hb dX14_job_287 rfl (lv_at hl 6 rfl) ?_
                                                  refine mm_get (v := .ref (Ar 75)) hx hb hf_X14 (fun _ h9 => h9) hown hK hG hM.1 rfl 75 (by decide) (tb_use hT tw_1466) (fun _ h9 => h9) rfl dX14_job_288 ?_
                                                  refine lv_iload hx hb dX14_job_291 (lv_at hl 8 rfl) ?_
                                                  refine lv_iconst (v := 2) hx hb dX14_job_293 (by decide) ?_
                                                  refine lv_isub hx hb dX14_job_294 ?_
                                                  rw [show ((nI m9) - 2) = nI (m9 - 2) from nI_sb (a := 2) (b := m9) (by omega)]
                                                  refine mm_lald (n := 16) (f := Lj 75) hx hb hK hG 2 (hM.2.2.1 75 rfl) rfl (nI_in (N := 16) (by omega) (by decide)) dX14_job_295 ?_
                                                  refine lv_topl (fun x230 ex230 => ?_)
                                                  refine lv_goto (tgt := 300) hx hb dX14_job_296 (by decide) ?_
                                                  refine lv_lstore (lv' := [(15, .long x230), (13, .long x221), (12, .int 0), (11, .int 1), (6, .long x203), (10, .int 23), (9, .int (nI (100 * j9 + p9))), (0, .ref o), (4, .int (nI j9)), (5, .int (nI m9)), (8, .int (nI p9))]) hx hb dX14_job_300 hl (by decide) rfl (fun ls hl => ?_)
                                                  obtain ⟨x231, ex231⟩ : ∃ y : Int32, y = (nI p9) + 1 := ⟨_, rfl⟩
                                                  refine lv_iinc (v := x231) (lv' := [(8, .int x231), (15, .long x230), (13, .long x221), (12, .int 0), (11, .int 1), (6, .long x203), (10, .int 23), (9, .int (nI (100 * j9 + p9))), (0, .ref o), (4, .int (nI j9)), (5, .int (nI m9))]) hx hb dX14_job_302 hl (k := 10) rfl (by rw [ex231]; rfl) (by decide) rfl (fun ls hl => ?_)
                                                  refine lv_iload hx hb dX14_job_305 (lv_at hl 6 rfl) ?_
                                                  refine lv_tableIn (tgt := 535) hx hb dX14_job_307 (by decide) (by decide) (off := 228) rfl (by decide) ?_
                                                  refine lv_aload_n hx hb dX14_job_535 rfl (lv_at hl 8 rfl) ?_
                                                  refine mm_get (v := .int (Ij 68)) hx hb hf_X14 (fun _ h9 => h9) hown hK hG hM.1 rfl 68 (by decide) (tb_use hT tw_1459) (fun _ h9 => h9) rfl dX14_job_536 ?_
                                                  rw [show (Ij 68) = nI sz from h68j]
                                                  refine lv_bipush (v := 64) hx hb dX14_job_539 (by decide) ?_
                                                  refine lv_icmp_ne (tgt := 547) hx hb dX14_job_541 (by decide) (fun c_541 => ?_) (fun c_541 => ?_)
                                                  · skip
                                                    refine lv_aload_n hx hb dX14_job_547 rfl (lv_at hl 8 rfl) ?_
                                                    refine mm_get (v := .ref (Ar 67)) hx hb hf_X14 (fun _ h9 => h9) hown hK hG hM.1 rfl 67 (by decide) (tb_use hT tw_1458) (fun _ h9 => h9) rfl dX14_job_548 ?_
                                                    refine lv_aload_n hx hb dX14_job_551 rfl (lv_at hl 8 rfl) ?_
                                                    refine mm_get (v := .int (Ij 68)) hx hb hf_X14 (fun _ h9 => h9) hown hK hG hM.1 rfl 68 (by decide) (tb_use hT tw_1459) (fun _ h9 => h9) rfl dX14_job_552 ?_
                                                    have hsz : sz < 64 := by have y : sz ≠ 64 := fun z => c_541 (by rw [z]; rfl); omega
                                                    rw [show (Ij 68) = nI sz from h68j]
                                                    refine lv_lload hx hb dX14_job_555 (lv_at hl 2 rfl) ?_
                                                    refine lv_ldc2 hx hb hown (tb_use hT tw_1838) dX14_job_557 ?_
                                                    refine lv_land hx hb dX14_job_560 ?_
                                                    obtain ⟨x232, ex232⟩ : ∃ y, y = ((x221 &&& 255) : Int64).toInt32 := ⟨_, rfl⟩
                                                    refine lv_l2i (v := x232) hx hb dX14_job_561 ex232.symm ?_
                                                    refine mm_iast (n := mdN 67) (f := Fj 67) hx hb hK hG hS 1 (hM.2.1 67 rfl) rfl (nI_in (N := mdN 67) (by show _ < 64; omega) (by decide)) dX14_job_562 (fun H locs hG hS => ?_)
                                                    have hM := MD.seti (k := 67) (upd (Fj 67) (nI sz).toNatClampNeg x232) hM rfl
                                                    have hF := hF.wa (k := 67) (e' := .inl (cy 1, mdN 67, .inl (upd (Fj 67) (nI sz).toNatClampNeg x232))) rfl
                                                    obtain ⟨F233, eF233⟩ : ∃ g, g = va_up Fj 67 (upd (Fj 67) (nI sz).toNatClampNeg x232) := ⟨_, rfl⟩
                                                    rw [← eF233] at hM
                                                    generalize mm_set _ _ _ = G234 at hG hM hF
                                                    refine lv_aload_n hx hb dX14_job_563 rfl (lv_at hl 8 rfl) ?_
                                                    refine lv_dup hx hb dX14_job_564 rfl ?_
                                                    refine mm_get (v := .int (Ij 68)) hx hb hf_X14 (fun _ h9 => h9) hown hK hG hM.1 rfl 68 (by decide) (tb_use hT tw_1459) (fun _ h9 => h9) rfl dX14_job_565 ?_
                                                    rw [show (Ij 68) = nI sz from h68j]
                                                    refine lv_iconst (v := 1) hx hb dX14_job_568 (by decide) ?_
                                                    refine lv_iadd hx hb dX14_job_569 ?_
                                                    refine lv_topi (fun x235 ex235 => ?_)
                                                    refine mm_put (v := .int x235) (ty := .int) hx hb hf_X14 (fun _ h9 => h9) tyX14 tyX14_ok nmX14 hown hK hG hS hM.1 rfl 68 (by decide) (tb_use hT tw_1459) (fun _ h9 => h9) rfl (by decide +kernel) rfl rfl (Nat.le_of_ble_eq_true rfl) dX14_job_570 (fun H locs hG hS => ?_)
                                                    have hM := MD.puti (k := 68) (v := x235) hM rfl
                                                    have hF := hF.wo (e' := .inr (15, (mfs Ar Ij).set 68 (.int x235)))
                                                    obtain ⟨I236, eI236⟩ : ∃ g, g = upd Ij 68 x235 := ⟨_, rfl⟩
                                                    rw [← eI236] at hM
                                                    generalize mm_set _ _ _ = G237 at hG hM hF
                                                    obtain ⟨x238, ex238⟩ : ∃ y : Int32, y = (nI m9) + (-1) := ⟨_, rfl⟩
                                                    refine lv_iinc (v := x238) (lv' := [(5, .int x238), (8, .int x231), (15, .long x230), (13, .long x221), (12, .int 0), (11, .int 1), (6, .long x203), (10, .int 23), (9, .int (nI (100 * j9 + p9))), (0, .ref o), (4, .int (nI j9))]) hx hb dX14_job_573 hl (k := 10) rfl (by rw [ex238]; rfl) (by decide) rfl (fun ls hl => ?_)
                                                    refine lv_goto (tgt := 582) hx hb dX14_job_576 (by decide) ?_
                                                    refine lv_goto (tgt := 68) hx hb dX14_job_582 (by decide) ?_
                                                    rw [show x231 = nI (p9 + 1) by rw [ex231]; exact (nI_succ p9).symm] at hl
                                                    rw [show x238 = nI (m9 - 1) by rw [ex238, ← Int32.sub_eq_add_neg]; exact nI_sb (a := 1) (b := m9) (by omega)] at hl
                                                    rw [ex203] at hl
                                                    have hmu2 : 2 * lf + agN v9 j9 (p9 + 1) < n := by have y := @agN_le v9 j9 (p9 + 1); omega
                                                    exact ih (p9 + 1) (m9 - 1) lf (sz + 1) I236 F233 Lj hmu2 (by omega) (by omega) (fun j h1 h2 => by rw [eI236, pk_un h2]; exact hIo j h1 h2) (by rw [eI236, pk_un (by decide)]; exact h38j) (by rw [eI236, pk_un (by decide)]; exact hbj) (by rw [eI236, pk_un (by decide)]; exact h66j) (by rw [eI236, pk_us, ex235]; exact nI_1 sz) (by omega) (fun j hj => by rw [eF233, va_up_ne _ _ (by omega)]; exact hFo j hj) hLo G237 hM hF _ _ hG hS ls (lv_sub hl [9, 10, 0, 6, 1] rfl)
                                                  · skip
                                                    refine lv_bipush (v := (-4)) hx hb dX14_job_544 (by decide) ?_
                                                    exact W.iret (v := (-4)) hx hb hr (fun t ht hW => ⟨⟨_, _, rfl, ⟨Ij, Fj, Lj, hM, hF, hIo, h38j, ⟨sz, hsz64, h68j⟩, hFo, hLo⟩, mk_end hG ht⟩, hS.F ht⟩) hS.2.2 dX14_job_546
                                            · skip
                                              exact absurd (by decide) c_248
                                        · skip
                                          exact absurd c_229 (by decide)
                                  · skip
                                    exact absurd c_201 (by decide)
                          · skip
                            exact absurd c_169 (by decide)
                      · skip
                        refine lv_iconst (v := 0) hx hb dX14_job_150 (by decide) ?_
                        exact W.iret (v := 0) hx hb hr (fun t ht hW => ⟨⟨_, _, rfl, ⟨Ij, Fj, Lj, hM, hF, hIo, h38j, ⟨sz, hsz64, h68j⟩, hFo, hLo⟩, mk_end hG ht⟩, hS.F ht⟩) hS.2.2 dX14_job_151
                    · skip
                      exact absurd c_119 (by decide)
                  · skip
                    replace hkd := hkde.trans hkd
                    rw [show x9 = 24 by rw [hx35, hkd]; rfl] at hl
                    refine lv_iload hx hb dX14_job_115 (lv_at hl 0 rfl) ?_
                    refine lv_bipush (v := 25) hx hb dX14_job_117 (by decide) ?_
                    refine lv_icmp_ne (tgt := 143) hx hb dX14_job_119 (by decide) (fun c_119 => ?_) (fun c_119 => ?_)
                    · skip
                      refine lv_lload hx hb dX14_job_143 (lv_at hl 5 rfl) ?_
                      refine lv_lconst (v := 0) hx hb dX14_job_145 (by decide) ?_
                      refine W.lcmp hx hb dX14_job_146 ?_
                      refine lv_if_ne (tgt := 152) hx hb dX14_job_147 (by decide) (fun c_147 => ?_) (fun c_147 => ?_)
                      · skip
                        obtain ⟨lf, hlf⟩ : ∃ y, lf9 = y + 1 := ⟨lf9 - 1, by have y : lf9 ≠ 0 := fun z => c_147 ((lg_cmp_eq _ _).mpr (by rw [z]; rfl)); omega⟩
                        rw [hlf] at hl hmu
                        refine lv_lload hx hb dX14_job_152 (lv_at hl 5 rfl) ?_
                        refine lv_lconst (v := 1) hx hb dX14_job_154 (by decide) ?_
                        refine lv_lsub hx hb dX14_job_155 ?_
                        rw [i64_dec (by omega)]
                        refine lv_topl (fun x240 ex240 => ?_)
                        refine lv_lstore (lv' := [(6, .long x240), (10, .int 24), (9, .int (nI (100 * j9 + p9))), (0, .ref o), (4, .int (nI j9)), (5, .int (nI m9)), (8, .int (nI p9))]) hx hb dX14_job_156 hl (by decide) rfl (fun ls hl => ?_)
                        refine lv_iload hx hb dX14_job_158 (lv_at hl 1 rfl) ?_
                        refine lv_bipush (v := 15) hx hb dX14_job_160 (by decide) ?_
                        refine lv_icmp_eq (tgt := 172) hx hb dX14_job_162 (by decide) (fun c_162 => ?_) (fun c_162 => ?_)
                        · skip
                          exact absurd c_162 (by decide)
                        · skip
                          refine lv_iload hx hb dX14_job_165 (lv_at hl 1 rfl) ?_
                          refine lv_bipush (v := 16) hx hb dX14_job_167 (by decide) ?_
                          refine lv_icmp_ne (tgt := 176) hx hb dX14_job_169 (by decide) (fun c_169 => ?_) (fun c_169 => ?_)
                          · skip
                            refine lv_iload hx hb dX14_job_176 (lv_at hl 1 rfl) ?_
                            refine lv_bipush (v := 17) hx hb dX14_job_178 (by decide) ?_
                            refine lv_icmp_eq (tgt := 204) hx hb dX14_job_180 (by decide) (fun c_180 => ?_) (fun c_180 => ?_)
                            · skip
                              exact absurd c_180 (by decide)
                            · skip
                              refine lv_iload hx hb dX14_job_183 (lv_at hl 1 rfl) ?_
                              refine lv_bipush (v := 18) hx hb dX14_job_185 (by decide) ?_
                              refine lv_icmp_eq (tgt := 204) hx hb dX14_job_187 (by decide) (fun c_187 => ?_) (fun c_187 => ?_)
                              · skip
                                exact absurd c_187 (by decide)
                              · skip
                                refine lv_iload hx hb dX14_job_190 (lv_at hl 1 rfl) ?_
                                refine lv_bipush (v := 19) hx hb dX14_job_192 (by decide) ?_
                                refine lv_icmp_eq (tgt := 204) hx hb dX14_job_194 (by decide) (fun c_194 => ?_) (fun c_194 => ?_)
                                · skip
                                  exact absurd c_194 (by decide)
                                · skip
                                  refine lv_iload hx hb dX14_job_197 (lv_at hl 1 rfl) ?_
                                  refine lv_bipush (v := 21) hx hb dX14_job_199 (by decide) ?_
                                  refine lv_icmp_ne (tgt := 208) hx hb dX14_job_201 (by decide) (fun c_201 => ?_) (fun c_201 => ?_)
                                  · skip
                                    refine lv_iconst (v := 1) hx hb dX14_job_208 (by decide) ?_
                                    refine lv_istore (lv' := [(11, .int 1), (6, .long x240), (10, .int 24), (9, .int (nI (100 * j9 + p9))), (0, .ref o), (4, .int (nI j9)), (5, .int (nI m9)), (8, .int (nI p9))]) hx hb dX14_job_209 hl (by decide) rfl (fun ls hl => ?_)
                                    refine lv_iload hx hb dX14_job_211 (lv_at hl 2 rfl) ?_
                                    refine lv_bipush (v := 15) hx hb dX14_job_213 (by decide) ?_
                                    refine lv_icmp_eq (tgt := 232) hx hb dX14_job_215 (by decide) (fun c_215 => ?_) (fun c_215 => ?_)
                                    · skip
                                      exact absurd c_215 (by decide)
                                    · skip
                                      refine lv_iload hx hb dX14_job_218 (lv_at hl 2 rfl) ?_
                                      refine lv_bipush (v := 16) hx hb dX14_job_220 (by decide) ?_
                                      refine lv_icmp_eq (tgt := 232) hx hb dX14_job_222 (by decide) (fun c_222 => ?_) (fun c_222 => ?_)
                                      · skip
                                        exact absurd c_222 (by decide)
                                      · skip
                                        refine lv_iload hx hb dX14_job_225 (lv_at hl 2 rfl) ?_
                                        refine lv_bipush (v := 20) hx hb dX14_job_227 (by decide) ?_
                                        refine lv_icmp_ne (tgt := 236) hx hb dX14_job_229 (by decide) (fun c_229 => ?_) (fun c_229 => ?_)
                                        · skip
                                          refine lv_iconst (v := 0) hx hb dX14_job_236 (by decide) ?_
                                          refine lv_istore (lv' := [(12, .int 0), (11, .int 1), (6, .long x240), (10, .int 24), (9, .int (nI (100 * j9 + p9))), (0, .ref o), (4, .int (nI j9)), (5, .int (nI m9)), (8, .int (nI p9))]) hx hb dX14_job_237 hl (by decide) rfl (fun ls hl => ?_)
                                          refine lv_iload hx hb dX14_job_239 (lv_at hl 7 rfl) ?_
                                          refine lv_iload hx hb dX14_job_241 (lv_at hl 1 rfl) ?_
                                          refine lv_icmp_lt (tgt := 258) hx hb dX14_job_243 (by decide) (fun c_243 => ?_) (fun c_243 => ?_)
                                          · skip
                                            refine lv_bipush (v := (-3)) hx hb dX14_job_258 (by decide) ?_
                                            exact W.iret (v := (-3)) hx hb hr (fun t ht hW => ⟨⟨_, _, rfl, ⟨Ij, Fj, Lj, hM, hF, hIo, h38j, ⟨sz, hsz64, h68j⟩, hFo, hLo⟩, mk_end hG ht⟩, hS.F ht⟩) hS.2.2 dX14_job_260
                                          · skip
                                            refine lv_iload hx hb dX14_job_246 (lv_at hl 0 rfl) ?_
                                            refine lv_if_eq (tgt := 261) hx hb dX14_job_248 (by decide) (fun c_248 => ?_) (fun c_248 => ?_)
                                            · skip
                                              have hmw : 1 ≤ m9 := Nat.le_of_not_lt (fun y => c_243 (nI_lt (b := 1) y (by decide)))
                                              refine lv_iload hx hb dX14_job_261 (lv_at hl 7 rfl) ?_
                                              refine lv_if_le (tgt := 278) hx hb dX14_job_263 (by decide) (fun c_263 => ?_) (fun c_263 => ?_)
                                              · skip
                                                refine lv_lconst (v := 0) hx hb dX14_job_278 (by decide) ?_
                                                refine lv_lstore (lv' := [(13, .long 0), (12, .int 0), (11, .int 1), (6, .long x240), (10, .int 24), (9, .int (nI (100 * j9 + p9))), (0, .ref o), (4, .int (nI j9)), (5, .int (nI m9)), (8, .int (nI p9))]) hx hb dX14_job_279 hl (by decide) rfl (fun ls hl => ?_)
                                                refine lv_iload hx hb dX14_job_281 (lv_at hl 8 rfl) ?_
                                                refine lv_iconst (v := 1) hx hb dX14_job_283 (by decide) ?_
                                                refine lv_icmp_le (tgt := 299) hx hb dX14_job_284 (by decide) (fun c_284 => ?_) (fun c_284 => ?_)
                                                · skip
                                                  refine lv_lconst (v := 0) hx hb dX14_job_299 (by decide) ?_
                                                  refine lv_lstore (lv' := [(15, .long 0), (13, .long 0), (12, .int 0), (11, .int 1), (6, .long x240), (10, .int 24), (9, .int (nI (100 * j9 + p9))), (0, .ref o), (4, .int (nI j9)), (5, .int (nI m9)), (8, .int (nI p9))]) hx hb dX14_job_300 hl (by decide) rfl (fun ls hl => ?_)
                                                  obtain ⟨x241, ex241⟩ : ∃ y : Int32, y = (nI p9) + 1 := ⟨_, rfl⟩
                                                  refine lv_iinc (v := x241) (lv' := [(8, .int x241), (15, .long 0), (13, .long 0), (12, .int 0), (11, .int 1), (6, .long x240), (10, .int 24), (9, .int (nI (100 * j9 + p9))), (0, .ref o), (4, .int (nI j9)), (5, .int (nI m9))]) hx hb dX14_job_302 hl (k := 10) rfl (by rw [ex241]; rfl) (by decide) rfl (fun ls hl => ?_)
                                                  refine lv_iload hx hb dX14_job_305 (lv_at hl 6 rfl) ?_
                                                  refine lv_tableIn (tgt := 499) hx hb dX14_job_307 (by decide) (by decide) (off := 192) rfl (by decide) ?_
                                                  obtain ⟨x242, ex242⟩ : ∃ y : Int32, y = (nI m9) + (-1) := ⟨_, rfl⟩
                                                  refine lv_iinc (v := x242) (lv' := [(5, .int x242), (8, .int x241), (15, .long 0), (13, .long 0), (12, .int 0), (11, .int 1), (6, .long x240), (10, .int 24), (9, .int (nI (100 * j9 + p9))), (0, .ref o), (4, .int (nI j9))]) hx hb dX14_job_499 hl (k := 10) rfl (by rw [ex242]; rfl) (by decide) rfl (fun ls hl => ?_)
                                                  refine lv_lload hx hb dX14_job_502 (lv_at hl 3 rfl) ?_
                                                  refine lv_lconst (v := 0) hx hb dX14_job_504 (by decide) ?_
                                                  refine W.lcmp hx hb dX14_job_505 ?_
                                                  refine lv_if_ne (tgt := 528) hx hb dX14_job_506 (by decide) (fun c_506 => ?_) (fun c_506 => ?_)
                                                  · skip
                                                    refine lv_iload hx hb dX14_job_528 (lv_at hl 1 rfl) ?_
                                                    refine lv_istore (lv' := [(8, .int x241), (5, .int x242), (15, .long 0), (13, .long 0), (12, .int 0), (11, .int 1), (6, .long x240), (10, .int 24), (9, .int (nI (100 * j9 + p9))), (0, .ref o), (4, .int (nI j9))]) hx hb dX14_job_530 hl (by decide) rfl (fun ls hl => ?_)
                                                    refine lv_goto (tgt := 582) hx hb dX14_job_532 (by decide) ?_
                                                    refine lv_goto (tgt := 68) hx hb dX14_job_582 (by decide) ?_
                                                    rw [show x241 = nI (p9 + 1) by rw [ex241]; exact (nI_succ p9).symm] at hl
                                                    rw [show x242 = nI (m9 - 1) by rw [ex242, ← Int32.sub_eq_add_neg]; exact nI_sb (a := 1) (b := m9) (by omega)] at hl
                                                    rw [ex240] at hl
                                                    have hmu2 : 2 * lf + agN v9 j9 (p9 + 1) < n := by have y := @agN_le v9 j9 (p9 + 1); omega
                                                    exact ih (p9 + 1) (m9 - 1) lf sz Ij Fj Lj hmu2 (by omega) (by omega) hIo h38j hbj h66j h68j hsz64 hFo hLo Gv hM hF _ _ hG hS ls (lv_sub hl [9, 10, 1, 6, 0] rfl)
                                                  · skip
                                                    refine lv_aload_n hx hb dX14_job_509 rfl (lv_at hl 9 rfl) ?_
                                                    refine mm_get (v := .ref (Ar 36)) hx hb hf_X14 (fun _ h9 => h9) hown hK hG hM.1 rfl 36 (by decide) (tb_use hT tw_1427) (fun _ h9 => h9) rfl dX14_job_510 ?_
                                                    refine lv_sipush (v := 400) hx hb dX14_job_513 (by decide) ?_
                                                    refine lv_aload_n hx hb dX14_job_516 rfl (lv_at hl 9 rfl) ?_
                                                    refine mm_get (v := .int (Ij 42)) hx hb hf_X14 (fun _ h9 => h9) hown hK hG hM.1 rfl 42 (by decide) (tb_use hT tw_1433) (fun _ h9 => h9) rfl dX14_job_517 ?_
                                                    rw [show (Ij 42) = nI b9 from hbj]
                                                    refine lv_imul hx hb dX14_job_520 ?_
                                                    refine lv_iload hx hb dX14_job_521 (lv_at hl 8 rfl) ?_
                                                    refine lv_iadd hx hb dX14_job_523 ?_
                                                    refine mm_iald (n := 800) (f := Fj 36) hx hb hK hG 1 (hM.2.1 36 rfl) rfl (by rw [show (400 : Int32) * nI b9 + nI (100 * j9 + p9) = nI (400 * b9 + (100 * j9 + p9)) from nI_ma 400 b9 (100 * j9 + p9)]; exact nI_in (N := 800) (by omega) (by decide)) dX14_job_524 ?_
                                                    refine lv_topi (fun x244 ex244 => ?_)
                                                    obtain ⟨t9, ht1, ht3, ht2⟩ := hk34 hkd
                                                    rw [show x244 = nI t9 by rw [ex244, show (400 : Int32) * nI b9 + nI (100 * j9 + p9) = nI (400 * b9 + (100 * j9 + p9)) from nI_ma 400 b9 (100 * j9 + p9), nI_clamp (by omega)]; exact (hop.2.2.2 (Or.inl hkd)).trans ht2]
                                                    refine lv_goto (tgt := 530) hx hb dX14_job_525 (by decide) ?_
                                                    refine lv_istore (lv' := [(8, .int (nI t9)), (5, .int x242), (15, .long 0), (13, .long 0), (12, .int 0), (11, .int 1), (6, .long x240), (10, .int 24), (9, .int (nI (100 * j9 + p9))), (0, .ref o), (4, .int (nI j9))]) hx hb dX14_job_530 hl (by decide) rfl (fun ls hl => ?_)
                                                    refine lv_goto (tgt := 582) hx hb dX14_job_532 (by decide) ?_
                                                    refine lv_goto (tgt := 68) hx hb dX14_job_582 (by decide) ?_
                                                    rw [show x242 = nI (m9 - 1) by rw [ex242, ← Int32.sub_eq_add_neg]; exact nI_sb (a := 1) (b := m9) (by omega)] at hl
                                                    rw [ex240] at hl
                                                    have hmu2 : 2 * lf + agN v9 j9 t9 < n := by have y := @agN_le v9 j9 t9; omega
                                                    exact ih t9 (m9 - 1) lf sz Ij Fj Lj hmu2 (by omega) (by omega) hIo h38j hbj h66j h68j hsz64 hFo hLo Gv hM hF _ _ hG hS ls (lv_sub hl [9, 10, 1, 6, 0] rfl)
                                                · skip
                                                  have hm2 : 1 < m9 := Nat.lt_of_not_le (fun y => c_284 (nI_le (b := 1) y (by decide)))
                                                  refine lv_aload_n hx hb dX14_job_287 rfl (lv_at hl 6 rfl) ?_
                                                  refine mm_get (v := .ref (Ar 75)) hx hb hf_X14 (fun _ h9 => h9) hown hK hG hM.1 rfl 75 (by decide) (tb_use hT tw_1466) (fun _ h9 => h9) rfl dX14_job_288 ?_
                                                  refine lv_iload hx hb dX14_job_291 (lv_at hl 8 rfl) ?_
                                                  refine lv_iconst (v := 2) hx hb dX14_job_293 (by decide) ?_
                                                  refine lv_isub hx hb dX14_job_294 ?_
                                                  rw [show ((nI m9) - 2) = nI (m9 - 2) from nI_sb (a := 2) (b := m9) (by omega)]
                                                  refine mm_lald (n := 16) (f := Lj 75) hx hb hK hG 2 (hM.2.2.1 75 rfl) rfl (nI_in (N := 16) (by omega) (by decide)) dX14_job_295 ?_
                                                  refine lv_topl (fun x245 ex245 => ?_)
                                                  refine lv_goto (tgt := 300) hx hb dX14_job_296 (by decide) ?_
                                                  refine lv_lstore (lv' := [(15, .long x245), (13, .long 0), (12, .int 0), (11, .int 1), (6, .long x240), (10, .int 24), (9, .int (nI (100 * j9 + p9))), (0, .ref o), (4, .int (nI j9)), (5, .int (nI m9)), (8, .int (nI p9))]) hx hb dX14_job_300 hl (by decide) rfl (fun ls hl => ?_)
                                                  obtain ⟨x246, ex246⟩ : ∃ y : Int32, y = (nI p9) + 1 := ⟨_, rfl⟩
                                                  refine lv_iinc (v := x246) (lv' := [(8, .int x246), (15, .long x245), (13, .long 0), (12, .int 0), (11, .int 1), (6, .long x240), (10, .int 24), (9, .int (nI (100 * j9 + p9))), (0, .ref o), (4, .int (nI j9)), (5, .int (nI m9))]) hx hb dX14_job_302 hl (k := 10) rfl (by rw [ex246]; rfl) (by decide) rfl (fun ls hl => ?_)
                                                  refine lv_iload hx hb dX14_job_305 (lv_at hl 6 rfl) ?_
                                                  refine lv_tableIn (tgt := 499) hx hb dX14_job_307 (by decide) (by decide) (off := 192) rfl (by decide) ?_
                                                  obtain ⟨x247, ex247⟩ : ∃ y : Int32, y = (nI m9) + (-1) := ⟨_, rfl⟩
                                                  refine lv_iinc (v := x247) (lv' := [(5, .int x247), (8, .int x246), (15, .long x245), (13, .long 0), (12, .int 0), (11, .int 1), (6, .long x240), (10, .int 24), (9, .int (nI (100 * j9 + p9))), (0, .ref o), (4, .int (nI j9))]) hx hb dX14_job_499 hl (k := 10) rfl (by rw [ex247]; rfl) (by decide) rfl (fun ls hl => ?_)
                                                  refine lv_lload hx hb dX14_job_502 (lv_at hl 3 rfl) ?_
                                                  refine lv_lconst (v := 0) hx hb dX14_job_504 (by decide) ?_
                                                  refine W.lcmp hx hb dX14_job_505 ?_
                                                  refine lv_if_ne (tgt := 528) hx hb dX14_job_506 (by decide) (fun c_506 => ?_) (fun c_506 => ?_)
                                                  · skip
                                                    refine lv_iload hx hb dX14_job_528 (lv_at hl 1 rfl) ?_
                                                    refine lv_istore (lv' := [(8, .int x246), (5, .int x247), (15, .long x245), (13, .long 0), (12, .int 0), (11, .int 1), (6, .long x240), (10, .int 24), (9, .int (nI (100 * j9 + p9))), (0, .ref o), (4, .int (nI j9))]) hx hb dX14_job_530 hl (by decide) rfl (fun ls hl => ?_)
                                                    refine lv_goto (tgt := 582) hx hb dX14_job_532 (by decide) ?_
                                                    refine lv_goto (tgt := 68) hx hb dX14_job_582 (by decide) ?_
                                                    rw [show x246 = nI (p9 + 1) by rw [ex246]; exact (nI_succ p9).symm] at hl
                                                    rw [show x247 = nI (m9 - 1) by rw [ex247, ← Int32.sub_eq_add_neg]; exact nI_sb (a := 1) (b := m9) (by omega)] at hl
                                                    rw [ex240] at hl
                                                    have hmu2 : 2 * lf + agN v9 j9 (p9 + 1) < n := by have y := @agN_le v9 j9 (p9 + 1); omega
                                                    exact ih (p9 + 1) (m9 - 1) lf sz Ij Fj Lj hmu2 (by omega) (by omega) hIo h38j hbj h66j h68j hsz64 hFo hLo Gv hM hF _ _ hG hS ls (lv_sub hl [9, 10, 1, 6, 0] rfl)
                                                  · skip
                                                    refine lv_aload_n hx hb dX14_job_509 rfl (lv_at hl 9 rfl) ?_
                                                    refine mm_get (v := .ref (Ar 36)) hx hb hf_X14 (fun _ h9 => h9) hown hK hG hM.1 rfl 36 (by decide) (tb_use hT tw_1427) (fun _ h9 => h9) rfl dX14_job_510 ?_
                                                    refine lv_sipush (v := 400) hx hb dX14_job_513 (by decide) ?_
                                                    refine lv_aload_n hx hb dX14_job_516 rfl (lv_at hl 9 rfl) ?_
                                                    refine mm_get (v := .int (Ij 42)) hx hb hf_X14 (fun _ h9 => h9) hown hK hG hM.1 rfl 42 (by decide) (tb_use hT tw_1433) (fun _ h9 => h9) rfl dX14_job_517 ?_
                                                    rw [show (Ij 42) = nI b9 from hbj]
                                                    refine lv_imul hx hb dX14_job_520 ?_
                                                    refine lv_iload hx hb dX14_job_521 (lv_at hl 8 rfl) ?_
                                                    refine lv_iadd hx hb dX14_job_523 ?_
                                                    refine mm_iald (n := 800) (f := Fj 36) hx hb hK hG 1 (hM.2.1 36 rfl) rfl (by rw [show (400 : Int32) * nI b9 + nI (100 * j9 + p9) = nI (400 * b9 + (100 * j9 + p9)) from nI_ma 400 b9 (100 * j9 + p9)]; exact nI_in (N := 800) (by omega) (by decide)) dX14_job_524 ?_
                                                    refine lv_topi (fun x249 ex249 => ?_)
                                                    obtain ⟨t9, ht1, ht3, ht2⟩ := hk34 hkd
                                                    rw [show x249 = nI t9 by rw [ex249, show (400 : Int32) * nI b9 + nI (100 * j9 + p9) = nI (400 * b9 + (100 * j9 + p9)) from nI_ma 400 b9 (100 * j9 + p9), nI_clamp (by omega)]; exact (hop.2.2.2 (Or.inl hkd)).trans ht2]
                                                    refine lv_goto (tgt := 530) hx hb dX14_job_525 (by decide) ?_
                                                    refine lv_istore (lv' := [(8, .int (nI t9)), (5, .int x247), (15, .long x245), (13, .long 0), (12, .int 0), (11, .int 1), (6, .long x240), (10, .int 24), (9, .int (nI (100 * j9 + p9))), (0, .ref o), (4, .int (nI j9))]) hx hb dX14_job_530 hl (by decide) rfl (fun ls hl => ?_)
                                                    refine lv_goto (tgt := 582) hx hb dX14_job_532 (by decide) ?_
                                                    refine lv_goto (tgt := 68) hx hb dX14_job_582 (by decide) ?_
                                                    rw [show x247 = nI (m9 - 1) by rw [ex247, ← Int32.sub_eq_add_neg]; exact nI_sb (a := 1) (b := m9) (by omega)] at hl
                                                    rw [ex240] at hl
                                                    have hmu2 : 2 * lf + agN v9 j9 t9 < n := by have y := @agN_le v9 j9 t9; omega
                                                    exact ih t9 (m9 - 1) lf sz Ij Fj Lj hmu2 (by omega) (by omega) hIo h38j hbj h66j h68j hsz64 hFo hLo Gv hM hF _ _ hG hS ls (lv_sub hl [9, 10, 1, 6, 0] rfl)
                                              · skip
                                                have hm1 : 0 < m9 := Nat.pos_of_ne_zero (fun y => c_263 (by rw [y]; exact Int32.le_refl 0))
                                                refine lv_aload_n hx hb dX14_job_266 rfl (lv_at hl 5 rfl) ?_
                                                refine mm_get (v := .ref (Ar 75)) hx hb hf_X14 (fun _ h9 => h9) hown hK hG hM.1 rfl 75 (by decide) (tb_use hT tw_1466) (fun _ h9 => h9) rfl dX14_job_267 ?_
                                                refine lv_iload hx hb dX14_job_270 (lv_at hl 7 rfl) ?_
                                                refine lv_iconst (v := 1) hx hb dX14_job_272 (by decide) ?_
                                                refine lv_isub hx hb dX14_job_273 ?_
                                                rw [show ((nI m9) - 1) = nI (m9 - 1) from nI_sb (a := 1) (b := m9) (by omega)]
                                                refine mm_lald (n := 16) (f := Lj 75) hx hb hK hG 2 (hM.2.2.1 75 rfl) rfl (nI_in (N := 16) (by omega) (by decide)) dX14_job_274 ?_
                                                refine lv_topl (fun x250 ex250 => ?_)
                                                refine lv_goto (tgt := 279) hx hb dX14_job_275 (by decide) ?_
                                                refine lv_lstore (lv' := [(13, .long x250), (12, .int 0), (11, .int 1), (6, .long x240), (10, .int 24), (9, .int (nI (100 * j9 + p9))), (0, .ref o), (4, .int (nI j9)), (5, .int (nI m9)), (8, .int (nI p9))]) hx hb dX14_job_279 hl (by decide) rfl (fun ls hl => ?_)
                                                refine lv_iload hx hb dX14_job_281 (lv_at hl 8 rfl) ?_
                                                refine lv_iconst (v := 1) hx hb dX14_job_283 (by decide) ?_
                                                refine lv_icmp_le (tgt := 299) hx hb dX14_job_284 (by decide) (fun c_284 => ?_) (fun c_284 => ?_)
                                                · skip
                                                  refine lv_lconst (v := 0) hx hb dX14_job_299 (by decide) ?_
                                                  refine lv_lstore (lv' := [(15, .long 0), (13, .long x250), (12, .int 0), (11, .int 1), (6, .long x240), (10, .int 24), (9, .int (nI (100 * j9 + p9))), (0, .ref o), (4, .int (nI j9)), (5, .int (nI m9)), (8, .int (nI p9))]) hx hb dX14_job_300 hl (by decide) rfl (fun ls hl => ?_)
                                                  obtain ⟨x251, ex251⟩ : ∃ y : Int32, y = (nI p9) + 1 := ⟨_, rfl⟩
                                                  refine lv_iinc (v := x251) (lv' := [(8, .int x251), (15, .long 0), (13, .long x250), (12, .int 0), (11, .int 1), (6, .long x240), (10, .int 24), (9, .int (nI (100 * j9 + p9))), (0, .ref o), (4, .int (nI j9)), (5, .int (nI m9))]) hx hb dX14_job_302 hl (k := 10) rfl (by rw [ex251]; rfl) (by decide) rfl (fun ls hl => ?_)
                                                  refine lv_iload hx hb dX14_job_305 (lv_at hl 6 rfl) ?_
                                                  refine lv_tableIn (tgt := 499) hx hb dX14_job_307 (by decide) (by decide) (off := 192) rfl (by decide) ?_
                                                  obtain ⟨x252, ex252⟩ : ∃ y : Int32, y = (nI m9) + (-1) := ⟨_, rfl⟩
                                                  refine lv_iinc (v := x252) (lv' := [(5, .int x252), (8, .int x251), (15, .long 0), (13, .long x250), (12, .int 0), (11, .int 1), (6, .long x240), (10, .int 24), (9, .int (nI (100 * j9 + p9))), (0, .ref o), (4, .int (nI j9))]) hx hb dX14_job_499 hl (k := 10) rfl (by rw [ex252]; rfl) (by decide) rfl (fun ls hl => ?_)
                                                  refine lv_lload hx hb dX14_job_502 (lv_at hl 3 rfl) ?_
                                                  refine lv_lconst (v := 0) hx hb dX14_job_504 (by decide) ?_
                                                  refine W.lcmp hx hb dX14_job_505 ?_
                                                  refine lv_if_ne (tgt := 528) hx hb dX14_job_506 (by decide) (fun c_506 => ?_) (fun c_506 => ?_)
                                                  · skip
                                                    refine lv_iload hx hb dX14_job_528 (lv_at hl 1 rfl) ?_
                                                    refine lv_istore (lv' := [(8, .int x251), (5, .int x252), (15, .long 0), (13, .long x250), (12, .int 0), (11, .int 1), (6, .long x240), (10, .int 24), (9, .int (nI (100 * j9 + p9))), (0, .ref o), (4, .int (nI j9))]) hx hb dX14_job_530 hl (by decide) rfl (fun ls hl => ?_)
                                                    refine lv_goto (tgt := 582) hx hb dX14_job_532 (by decide) ?_
                                                    refine lv_goto (tgt := 68) hx hb dX14_job_582 (by decide) ?_
                                                    rw [show x251 = nI (p9 + 1) by rw [ex251]; exact (nI_succ p9).symm] at hl
                                                    rw [show x252 = nI (m9 - 1) by rw [ex252, ← Int32.sub_eq_add_neg]; exact nI_sb (a := 1) (b := m9) (by omega)] at hl
                                                    rw [ex240] at hl
                                                    have hmu2 : 2 * lf + agN v9 j9 (p9 + 1) < n := by have y := @agN_le v9 j9 (p9 + 1); omega
                                                    exact ih (p9 + 1) (m9 - 1) lf sz Ij Fj Lj hmu2 (by omega) (by omega) hIo h38j hbj h66j h68j hsz64 hFo hLo Gv hM hF _ _ hG hS ls (lv_sub hl [9, 10, 1, 6, 0] rfl)
                                                  · skip
                                                    refine lv_aload_n hx hb dX14_job_509 rfl (lv_at hl 9 rfl) ?_
                                                    refine mm_get (v := .ref (Ar 36)) hx hb hf_X14 (fun _ h9 => h9) hown hK hG hM.1 rfl 36 (by decide) (tb_use hT tw_1427) (fun _ h9 => h9) rfl dX14_job_510 ?_
                                                    refine lv_sipush (v := 400) hx hb dX14_job_513 (by decide) ?_
                                                    refine lv_aload_n hx hb dX14_job_516 rfl (lv_at hl 9 rfl) ?_
                                                    refine mm_get (v := .int (Ij 42)) hx hb hf_X14 (fun _ h9 => h9) hown hK hG hM.1 rfl 42 (by decide) (tb_use hT tw_1433) (fun _ h9 => h9) rfl dX14_job_517 ?_
                                                    rw [show (Ij 42) = nI b9 from hbj]
                                                    refine lv_imul hx hb dX14_job_520 ?_
                                                    refine lv_iload hx hb dX14_job_521 (lv_at hl 8 rfl) ?_
                                                    refine lv_iadd hx hb dX14_job_523 ?_
                                                    refine mm_iald (n := 800) (f := Fj 36) hx hb hK hG 1 (hM.2.1 36 rfl) rfl (by rw [show (400 : Int32) * nI b9 + nI (100 * j9 + p9) = nI (400 * b9 + (100 * j9 + p9)) from nI_ma 400 b9 (100 * j9 + p9)]; exact nI_in (N := 800) (by omega) (by decide)) dX14_job_524 ?_
                                                    refine lv_topi (fun x254 ex254 => ?_)
                                                    obtain ⟨t9, ht1, ht3, ht2⟩ := hk34 hkd
                                                    rw [show x254 = nI t9 by rw [ex254, show (400 : Int32) * nI b9 + nI (100 * j9 + p9) = nI (400 * b9 + (100 * j9 + p9)) from nI_ma 400 b9 (100 * j9 + p9), nI_clamp (by omega)]; exact (hop.2.2.2 (Or.inl hkd)).trans ht2]
                                                    refine lv_goto (tgt := 530) hx hb dX14_job_525 (by decide) ?_
                                                    refine lv_istore (lv' := [(8, .int (nI t9)), (5, .int x252), (15, .long 0), (13, .long x250), (12, .int 0), (11, .int 1), (6, .long x240), (10, .int 24), (9, .int (nI (100 * j9 + p9))), (0, .ref o), (4, .int (nI j9))]) hx hb dX14_job_530 hl (by decide) rfl (fun ls hl => ?_)
                                                    refine lv_goto (tgt := 582) hx hb dX14_job_532 (by decide) ?_
                                                    refine lv_goto (tgt := 68) hx hb dX14_job_582 (by decide) ?_
                                                    rw [show x252 = nI (m9 - 1) by rw [ex252, ← Int32.sub_eq_add_neg]; exact nI_sb (a := 1) (b := m9) (by omega)] at hl
                                                    rw [ex240] at hl
                                                    have hmu2 : 2 * lf + agN v9 j9 t9 < n := by have y := @agN_le v9 j9 t9; omega
                                                    exact ih t9 (m9 - 1) lf sz Ij Fj Lj hmu2 (by omega) (by omega) hIo h38j hbj h66j h68j hsz64 hFo hLo Gv hM hF _ _ hG hS ls (lv_sub hl [9, 10, 1, 6, 0] rfl)
                                                · skip
                                                  have hm2 : 1 < m9 := Nat.lt_of_not_le (fun y => c_284 (nI_le (b := 1) y (by decide)))
                                                  refine lv_aload_n hx hb dX14_job_287 rfl (lv_at hl 6 rfl) ?_
                                                  refine mm_get (v := .ref (Ar 75)) hx hb hf_X14 (fun _ h9 => h9) hown hK hG hM.1 rfl 75 (by decide) (tb_use hT tw_1466) (fun _ h9 => h9) rfl dX14_job_288 ?_
                                                  refine lv_iload hx hb dX14_job_291 (lv_at hl 8 rfl) ?_
                                                  refine lv_iconst (v := 2) hx hb dX14_job_293 (by decide) ?_
                                                  refine lv_isub hx hb dX14_job_294 ?_
                                                  rw [show ((nI m9) - 2) = nI (m9 - 2) from nI_sb (a := 2) (b := m9) (by omega)]
                                                  refine mm_lald (n := 16) (f := Lj 75) hx hb hK hG 2 (hM.2.2.1 75 rfl) rfl (nI_in (N := 16) (by omega) (by decide)) dX14_job_295 ?_
                                                  refine lv_topl (fun x255 ex255 => ?_)
                                                  refine lv_goto (tgt := 300) hx hb dX14_job_296 (by decide) ?_
                                                  refine lv_lstore (lv' := [(15, .long x255), (13, .long x250), (12, .int 0), (11, .int 1), (6, .long x240), (10, .int 24), (9, .int (nI (100 * j9 + p9))), (0, .ref o), (4, .int (nI j9)), (5, .int (nI m9)), (8, .int (nI p9))]) hx hb dX14_job_300 hl (by decide) rfl (fun ls hl => ?_)
                                                  obtain ⟨x256, ex256⟩ : ∃ y : Int32, y = (nI p9) + 1 := ⟨_, rfl⟩
                                                  refine lv_iinc (v := x256) (lv' := [(8, .int x256), (15, .long x255), (13, .long x250), (12, .int 0), (11, .int 1), (6, .long x240), (10, .int 24), (9, .int (nI (100 * j9 + p9))), (0, .ref o), (4, .int (nI j9)), (5, .int (nI m9))]) hx hb dX14_job_302 hl (k := 10) rfl (by rw [ex256]; rfl) (by decide) rfl (fun ls hl => ?_)
                                                  refine lv_iload hx hb dX14_job_305 (lv_at hl 6 rfl) ?_
                                                  refine lv_tableIn (tgt := 499) hx hb dX14_job_307 (by decide) (by decide) (off := 192) rfl (by decide) ?_
                                                  obtain ⟨x257, ex257⟩ : ∃ y : Int32, y = (nI m9) + (-1) := ⟨_, rfl⟩
                                                  refine lv_iinc (v := x257) (lv' := [(5, .int x257), (8, .int x256), (15, .long x255), (13, .long x250), (12, .int 0), (11, .int 1), (6, .long x240), (10, .int 24), (9, .int (nI (100 * j9 + p9))), (0, .ref o), (4, .int (nI j9))]) hx hb dX14_job_499 hl (k := 10) rfl (by rw [ex257]; rfl) (by decide) rfl (fun ls hl => ?_)
                                                  refine lv_lload hx hb dX14_job_502 (lv_at hl 3 rfl) ?_
                                                  refine lv_lconst (v := 0) hx hb dX14_job_504 (by decide) ?_
                                                  refine W.lcmp hx hb dX14_job_505 ?_
                                                  refine lv_if_ne (tgt := 528) hx hb dX14_job_506 (by decide) (fun c_506 => ?_) (fun c_506 => ?_)
                                                  · skip
                                                    refine lv_iload hx hb dX14_job_528 (lv_at hl 1 rfl) ?_
                                                    refine lv_istore (lv' := [(8, .int x256), (5, .int x257), (15, .long x255), (13, .long x250), (12, .int 0), (11, .int 1), (6, .long x240), (10, .int 24), (9, .int (nI (100 * j9 + p9))), (0, .ref o), (4, .int (nI j9))]) hx hb dX14_job_530 hl (by decide) rfl (fun ls hl => ?_)
                                                    refine lv_goto (tgt := 582) hx hb dX14_job_532 (by decide) ?_
                                                    refine lv_goto (tgt := 68) hx hb dX14_job_582 (by decide) ?_
                                                    rw [show x256 = nI (p9 + 1) by rw [ex256]; exact (nI_succ p9).symm] at hl
                                                    rw [show x257 = nI (m9 - 1) by rw [ex257, ← Int32.sub_eq_add_neg]; exact nI_sb (a := 1) (b := m9) (by omega)] at hl
                                                    rw [ex240] at hl
                                                    have hmu2 : 2 * lf + agN v9 j9 (p9 + 1) < n := by have y := @agN_le v9 j9 (p9 + 1); omega
                                                    exact ih (p9 + 1) (m9 - 1) lf sz Ij Fj Lj hmu2 (by omega) (by omega) hIo h38j hbj h66j h68j hsz64 hFo hLo Gv hM hF _ _ hG hS ls (lv_sub hl [9, 10, 1, 6, 0] rfl)
                                                  · skip
                                                    refine lv_aload_n hx hb dX14_job_509 rfl (lv_at hl 9 rfl) ?_
                                                    refine mm_get (v := .ref (Ar 36)) hx hb hf_X14 (fun _ h9 => h9) hown hK hG hM.1 rfl 36 (by decide) (tb_use hT tw_1427) (fun _ h9 => h9) rfl dX14_job_510 ?_
                                                    refine lv_sipush (v := 400) hx hb dX14_job_513 (by decide) ?_
                                                    refine lv_aload_n hx hb dX14_job_516 rfl (lv_at hl 9 rfl) ?_
                                                    refine mm_get (v := .int (Ij 42)) hx hb hf_X14 (fun _ h9 => h9) hown hK hG hM.1 rfl 42 (by decide) (tb_use hT tw_1433) (fun _ h9 => h9) rfl dX14_job_517 ?_
                                                    rw [show (Ij 42) = nI b9 from hbj]
                                                    refine lv_imul hx hb dX14_job_520 ?_
                                                    refine lv_iload hx hb dX14_job_521 (lv_at hl 8 rfl) ?_
                                                    refine lv_iadd hx hb dX14_job_523 ?_
                                                    refine mm_iald (n := 800) (f := Fj 36) hx hb hK hG 1 (hM.2.1 36 rfl) rfl (by rw [show (400 : Int32) * nI b9 + nI (100 * j9 + p9) = nI (400 * b9 + (100 * j9 + p9)) from nI_ma 400 b9 (100 * j9 + p9)]; exact nI_in (N := 800) (by omega) (by decide)) dX14_job_524 ?_
                                                    refine lv_topi (fun x259 ex259 => ?_)
                                                    obtain ⟨t9, ht1, ht3, ht2⟩ := hk34 hkd
                                                    rw [show x259 = nI t9 by rw [ex259, show (400 : Int32) * nI b9 + nI (100 * j9 + p9) = nI (400 * b9 + (100 * j9 + p9)) from nI_ma 400 b9 (100 * j9 + p9), nI_clamp (by omega)]; exact (hop.2.2.2 (Or.inl hkd)).trans ht2]
                                                    refine lv_goto (tgt := 530) hx hb dX14_job_525 (by decide) ?_
                                                    refine lv_istore (lv' := [(8, .int (nI t9)), (5, .int x257), (15, .long x255), (13, .long x250), (12, .int 0), (11, .int 1), (6, .long x240), (10, .int 24), (9, .int (nI (100 * j9 + p9))), (0, .ref o), (4, .int (nI j9))]) hx hb dX14_job_530 hl (by decide) rfl (fun ls hl => ?_)
                                                    refine lv_goto (tgt := 582) hx hb dX14_job_532 (by decide) ?_
                                                    refine lv_goto (tgt := 68) hx hb dX14_job_582 (by decide) ?_
                                                    rw [show x257 = nI (m9 - 1) by rw [ex257, ← Int32.sub_eq_add_neg]; exact nI_sb (a := 1) (b := m9) (by omega)] at hl
                                                    rw [ex240] at hl
                                                    have hmu2 : 2 * lf + agN v9 j9 t9 < n := by have y := @agN_le v9 j9 t9; omega
                                                    exact ih t9 (m9 - 1) lf sz Ij Fj Lj hmu2 (by omega) (by omega) hIo h38j hbj h66j h68j hsz64 hFo hLo Gv hM hF _ _ hG hS ls (lv_sub hl [9, 10, 1, 6, 0] rfl)
                                            · skip
                                              exact absurd (by decide) c_248
                                        · skip
                                          exact absurd c_229 (by decide)
                                  · skip
                                    exact absurd c_201 (by decide)
                          · skip
                            exact absurd c_169 (by decide)
                      · skip
                        refine lv_iconst (v := 0) hx hb dX14_job_150 (by decide) ?_
                        exact W.iret (v := 0) hx hb hr (fun t ht hW => ⟨⟨_, _, rfl, ⟨Ij, Fj, Lj, hM, hF, hIo, h38j, ⟨sz, hsz64, h68j⟩, hFo, hLo⟩, mk_end hG ht⟩, hS.F ht⟩) hS.2.2 dX14_job_151
                    · skip
                      exact absurd c_119 (by decide)
                  · skip
                    replace hkd := hkde.trans hkd
                    rw [show x9 = 25 by rw [hx35, hkd]; rfl] at hl
                    refine lv_iload hx hb dX14_job_115 (lv_at hl 0 rfl) ?_
                    refine lv_bipush (v := 25) hx hb dX14_job_117 (by decide) ?_
                    refine lv_icmp_ne (tgt := 143) hx hb dX14_job_119 (by decide) (fun c_119 => ?_) (fun c_119 => ?_)
                    · skip
                      exact absurd (by decide) c_119
                    · skip
                      refine lv_aload_n hx hb dX14_job_122 rfl (lv_at hl 2 rfl) ?_
                      refine mm_get (v := .ref (Ar 36)) hx hb hf_X14 (fun _ h9 => h9) hown hK hG hM.1 rfl 36 (by decide) (tb_use hT tw_1427) (fun _ h9 => h9) rfl dX14_job_123 ?_
                      refine lv_sipush (v := 400) hx hb dX14_job_126 (by decide) ?_
                      refine lv_aload_n hx hb dX14_job_129 rfl (lv_at hl 2 rfl) ?_
                      refine mm_get (v := .int (Ij 42)) hx hb hf_X14 (fun _ h9 => h9) hown hK hG hM.1 rfl 42 (by decide) (tb_use hT tw_1433) (fun _ h9 => h9) rfl dX14_job_130 ?_
                      rw [show (Ij 42) = nI b9 from hbj]
                      refine lv_imul hx hb dX14_job_133 ?_
                      refine lv_iload hx hb dX14_job_134 (lv_at hl 1 rfl) ?_
                      refine lv_iadd hx hb dX14_job_136 ?_
                      refine mm_iald (n := 800) (f := Fj 36) hx hb hK hG 1 (hM.2.1 36 rfl) rfl (by rw [show (400 : Int32) * nI b9 + nI (100 * j9 + p9) = nI (400 * b9 + (100 * j9 + p9)) from nI_ma 400 b9 (100 * j9 + p9)]; exact nI_in (N := 800) (by omega) (by decide)) dX14_job_137 ?_
                      refine lv_topi (fun x260 ex260 => ?_)
                      obtain ⟨t9, ht1, ht2, ht3⟩ := hk5 hkd
                      rw [show x260 = nI t9 by rw [ex260, show (400 : Int32) * nI b9 + nI (100 * j9 + p9) = nI (400 * b9 + (100 * j9 + p9)) from nI_ma 400 b9 (100 * j9 + p9), nI_clamp (by omega)]; exact (hop.2.2.2 (Or.inr hkd)).trans ht2]
                      refine lv_istore (lv' := [(8, .int (nI t9)), (10, .int 25), (9, .int (nI (100 * j9 + p9))), (0, .ref o), (4, .int (nI j9)), (5, .int (nI m9)), (6, .long (Int64.ofNat lf9))]) hx hb dX14_job_138 hl (by decide) rfl (fun ls hl => ?_)
                      refine lv_goto (tgt := 68) hx hb dX14_job_140 (by decide) ?_
                      have hmu2 : 2 * lf9 + agN v9 j9 t9 < n := by have y : agN v9 j9 p9 = 1 := if_pos ⟨hp9, hkd⟩; have z : agN v9 j9 t9 = 0 := if_neg (fun u => by rw [ht3] at u; exact absurd u.2 (by decide)); omega
                      exact ih t9 m9 lf9 sz Ij Fj Lj hmu2 (by omega) (by omega) hIo h38j hbj h66j h68j hsz64 hFo hLo Gv hM hF _ _ hG hS ls (lv_sub hl [3, 4, 5, 6, 0] rfl)
            refine lv_iconst (v := 0) hx hb dX14_job_59 (by decide) ?_
            refine lv_istore (lv' := [(5, .int 0), (4, .int (nI j9)), (0, .ref o), (1, .int iv), (2, .long xs)]) hx hb dX14_job_60 hl (by decide) rfl (fun ls hl => ?_)
            refine lv_lload_n hx hb dX14_job_62 rfl (lv_at hl 4 rfl) ?_
            refine lv_lstore (lv' := [(6, .long xs), (5, .int 0), (4, .int (nI j9)), (0, .ref o), (1, .int iv), (2, .long xs)]) hx hb dX14_job_63 hl (by decide) rfl (fun ls hl => ?_)
            refine lv_iconst (v := 0) hx hb dX14_job_65 (by decide) ?_
            refine lv_istore (lv' := [(8, .int 0), (6, .long xs), (5, .int 0), (4, .int (nI j9)), (0, .ref o), (1, .int iv), (2, .long xs)]) hx hb dX14_job_66 hl (by decide) rfl (fun ls hl => ?_)
            rw [hxs] at hl
            exact hlj (2 * lf0 + 2) 0 0 lf0 0 I6 F L (by have y := @agN_le v9 j9 0; omega) (by decide) (by omega) (fun j h1 h2 => by rw [eI6, pk_un h2, eI1, pk_un h1]) (by rw [eI6, pk_un (by decide), eI1, pk_us]) (by rw [eI6, pk_un (by decide), eI1, pk_un (by decide)]; exact hbk) (by rw [eI6, pk_un (by decide), eI1, pk_un (by decide)]; exact h66) (by rw [eI6, pk_us]; rfl) (by decide) (fun _ _ => rfl) (fun _ _ => rfl) G7 hM hF _ _ hG hS ls (lv_sub hl [4, 3, 2, 1, 0] rfl)
          · skip
            refine lv_bipush (v := (-2)) hx hb dX14_job_46 (by decide) ?_
            exact W.iret (v := (-2)) hx hb hr (fun t ht hW => ⟨⟨_, _, rfl, ⟨I1, F, L, hM, hF, (fun j h1 h2 => by rw [eI1, pk_un h1]), (by rw [eI1, pk_us]), ⟨sl9, hsl, (by rw [eI1, pk_un (by decide)]; exact h68)⟩, (fun _ _ => rfl), (fun _ _ => rfl)⟩, mk_end hG ht⟩, hS.F ht⟩) hS.2.2 dX14_job_48
      · skip
        refine lv_iconst (v := (-1)) hx hb dX14_job_30 (by decide) ?_
        exact W.iret (v := (-1)) hx hb hr (fun t ht hW => ⟨⟨_, _, rfl, ⟨I1, F, L, hM, hF, (fun j h1 h2 => by rw [eI1, pk_un h1]), (by rw [eI1, pk_us]), ⟨sl9, hsl, (by rw [eI1, pk_un (by decide)]; exact h68)⟩, (fun _ _ => rfl), (fun _ _ => rfl)⟩, mk_end hG ht⟩, hS.F ht⟩) hS.2.2 dX14_job_31
