theorem fits_rf {C : String} (o : Option Nat) : fits (.object C) (va_rf o) = true := by cases o <;> rfl
theorem nar_rf {C : String} (o : Option Nat) : narrow (.object C) (va_rf o) = va_rf o := by cases o <;> rfl
/-- one expectation, in an edition's own words -/
theorem c_ED_expect (l : Launch) (D : va_G) (cy : Nat → ClassId) (A : Nat → Prop) (X : State → Prop) (hst : mk_St A X) (hXT : ∀ U : State, X U → TB U) (e0 : Nat) (tk : Nat → Nat) (hXE : ∀ U : State, X U → ES e0 tk A U) (G : Nat → Option va_E) (LA : Nat → Nat) (AD : Nat → Nat → Nat) (ed na : Nat) (nc : Int32) (iu : Option Nat) (w9 : Int32 × Option Nat) (rt : Bool) (a9 : Int32) (hed : G ed = some (.inr (3, [.ref (LA 0), .ref (LA 1), .ref (LA 2), .ref (LA 3), .ref (LA 4), .ref (LA 5), .ref na, .int nc, va_rf iu, .int w9.1, va_rf (w9.2.map (AD 1))]))) : Met l yX2_expect [.code yX2_expect cX2_expect 3 none] ({ frames := 1, cells := 0, slots := 0, locals := 30 }) (mk_Pre D vwCl (tyL cy) A X G [.ref ed, .int (b2i rt), .int a9]) (va_Qv (fun (G2 : Nat → Option va_E) => G2 = mm_set G ed (.inr (3, [.ref (LA 0), .ref (LA 1), .ref (LA 2), .ref (LA 3), .ref (LA 4), .ref (LA 5), .ref na, .int nc, va_rf iu, .int ((ex1 rt a9 w9).1), va_rf ((ex1 rt a9 w9).2.map (AD 1))]))) (mk_B D vwCl A) A) 0 0 A := by
  refine (c_X2_expect l D cy A X hst hXT e0 tk hXE G ed (LA 0) (LA 1) (LA 2) (LA 3) (LA 4) (LA 5) na nc w9.1 iu (w9.2.map (AD 1)) (b2i rt) a9 hed).mono (Nat.le_refl _) (Nat.le_refl _) (Nat.le_refl _) (Nat.le_refl _) (Nat.le_refl _) (Nat.le_refl _) (fun _ _ h => h) ?_
  rintro a s o t ⟨⟨G2, e1, h2, k6⟩, k7⟩
  refine ⟨⟨G2, e1, ?_, k6⟩, k7⟩
  rw [h2]
  have h3 : (if b2i rt = 0 ∧ isF w9.1 a9 = true then none else w9.2.map (AD 1)) = (ex1 rt a9 w9).2.map (AD 1) := by
    unfold ex1
    simp only []
    split <;> rfl
  rw [h3]
  rfl
set_option maxHeartbeats 4000000 in
set_option maxRecDepth 100000 in
theorem c_X5_isInRing (l : Launch) (D : va_G) (cy : Nat → ClassId) (A : Nat → Prop) (X : State → Prop) (hst : mk_St A X) (hXT : ∀ U : State, X U → TB U) (e0 : Nat) (tk : Nat → Nat) (hXE : ∀ U : State, X U → ES e0 tk A U) (mi : Nat) (hXL : ∀ U : State, X U → EL e0 mi A U) (ax adK adV : Nat → Nat) (hXX : ∀ U : State, X U → TX ax adK adV tk A U) (G : Nat → Option va_E) (G0 : Nat → Option va_E) (Bx : Nat → Prop) (v : EdV) (z : PtV) (LA EA : Nat → Nat) (AD : Nat → Nat → Nat) (PI : Nat → Nat) (i9 : Nat) (hP : EDP cy e0 tk G0 Bx G v z LA EA AD PI) (hzL : zLo v AD z) (hi9 : i9 < v.nL) : Met l yX5_isInRing [.code yX5_isInRing cX5_isInRing 3 (some .boolean)] ({ frames := 0, cells := 0, slots := 0, locals := 0 }) (mk_Pre D vwCl (tyL cy) A X G [.ref (AD 1 i9)]) (va_Qi (fun (r : Int32) (G2 : Nat → Option va_E) => r = b2i (inR v i9 6 (nx v i9)) ∧ G2 = G) (mk_B D vwCl A) A) 0 0 A := by
  refine Met.ofW (cc := cX5_isInRing) (maxL := 3) (ret := (some .boolean)) (by decide) rfl ?_
  intro p e s m args below meth c s₁ B hml hv
  obtain ⟨rfl, hG, hK, hA, hX⟩ := hv
  have hx := B.exec
  have hb := B.bytes
  have hr := B.returns
  have hlocks := B.notSynchronized
  have hT := hXT s hX
  have hown : s.vm.findClass RX5 = some m.cls := findClass_of_methodNamed B.named
  have hf_X5 : ∀ w ∈ u_ws RX5 TX5 6, w.before ([.ref (AD 1 i9)] : List Value).toArray s = true := tb_list hT fX5
  have hS : va_S A s.heap s.heap [] := va_S.rf
  have hE := hXE s hX
  have hl := lv_entry ([.ref (AD 1 i9)]) (n := 3) (Nat.le_of_ble_eq_true rfl)
  rw [lg_entry_eq]
  generalize (lg_sl ([.ref (AD 1 i9)]) ++ List.replicate (3 - (lg_sl ([.ref (AD 1 i9)])).length) Slot.unset).toArray = ls at hl ⊢
  have hl : lv_has ls 3 [(0, .ref (AD 1 i9))] := hl
  have hQ := hXX s hX
  obtain ⟨RF, hR⟩ : ∃ y, inR v i9 6 (nx v i9) = y := ⟨_, rfl⟩
  have hloop : ∀ (n : Nat) (j9 k9 : Nat), (n + j9 = 6) → (k9 < v.nL) → (inR v i9 n (some k9) = RF) → ∀ (Gv : Nat → Option va_E), (Gv = G) → ∀ (H : Heap) (locs : List Loc), mm D vwCl A Gv H → va_S A s.heap H locs → ∀ ls : Array Slot, lv_has ls 3 [(0, .ref (AD 1 i9)), (1, .ref (AD 1 k9)), (2, .int (nI j9))] → W p l e (headSpec [.code yX5_isInRing cX5_isInRing 3 (some .boolean)] ({ frames := 0, cells := 0, slots := 0, locals := 0 })).room s m ([.ref (AD 1 i9)] : List Value).toArray below meth c H locs 0 0 (MQ below (va_Qi (fun (r : Int32) (G2 : Nat → Option va_E) => r = b2i (inR v i9 6 (nx v i9)) ∧ G2 = G) (mk_B D vwCl A) A) ([.ref (AD 1 i9)] : List Value).toArray s 0 0 A) (F0 m 7 ls []) := by
    intro n
    induction n with
    | zero =>
      intro j9 k9 hjn hk9 hq Gv hGv H locs hG hS ls hl
      have hG9 := hG
      have hS9 := hS
      have hl9 := hl
      subst hGv
      have hG := hG9
      have hS := hS9
      have hl := hl9
      refine lv_iload_n hx hb dX5_isInRing_7 rfl (lv_at hl 2 rfl) ?_
      refine lv_bipush (v := 6) hx hb dX5_isInRing_8 (by decide) ?_
      refine lv_icmp_ge (tgt := 35) hx hb dX5_isInRing_10 (by decide) (fun c_10 => ?_) (fun c_10 => ?_)
      · skip
        refine lv_iconst (v := 0) hx hb dX5_isInRing_35 (by decide) ?_
        exact W.zret (v := 0) hx hb hr rfl (fun t ht hW => ⟨⟨_, _, rfl, ⟨(by rw [hR, ← hq]; rfl), rfl⟩, mk_end hG ht⟩, hS.F ht⟩) hS.2.2 dX5_isInRing_36
      · skip
        exact absurd (by rw [show j9 = 6 by omega]; exact Int32.le_refl _) c_10
    | succ n ih =>
      intro j9 k9 hjn hk9 hq Gv hGv H locs hG hS ls hl
      have hG9 := hG
      have hS9 := hS
      have hl9 := hl
      subst hGv
      have hG := hG9
      have hS := hS9
      have hl := hl9
      refine lv_iload_n hx hb dX5_isInRing_7 rfl (lv_at hl 2 rfl) ?_
      refine lv_bipush (v := 6) hx hb dX5_isInRing_8 (by decide) ?_
      refine lv_icmp_ge (tgt := 35) hx hb dX5_isInRing_10 (by decide) (fun c_10 => ?_) (fun c_10 => ?_)
      · skip
        exact absurd c_10 (nI_ge (b := 6) (by omega) (by decide))
      · skip
        refine lv_aload_n hx hb dX5_isInRing_13 rfl (lv_at hl 1 rfl) ?_
        refine lv_ifnull hx hb dX5_isInRing_14 ?_
        refine lv_aload_n hx hb dX5_isInRing_17 rfl (lv_at hl 1 rfl) ?_
        refine lv_aload_n hx hb dX5_isInRing_18 rfl (lv_at hl 0 rfl) ?_
        refine lv_acmp_ne (rx := some (AD 1 k9)) (ry := some (AD 1 i9)) (tgt := 24) hx hb dX5_isInRing_19 (by decide) (fun c_19 => ?_) (fun c_19 => ?_)
        · skip
          have hne9 : ¬ k9 = i9 := fun z => c_19 (by rw [z])
          refine lv_aload_n hx hb dX5_isInRing_24 rfl (lv_at hl 1 rfl) ?_
          have k21 : Gv (AD 1 k9) = some (.inr (6, [.int (nI (k9 + 1)), .int ((v.L k9).1), .long ((v.L k9).2.1), .long ((v.L k9).2.2.1), .int ((v.L k9).2.2.2), va_rf ((nx v k9).map (AD 1))])) := by rw [← hzL k9 hk9]; exact hP.elL hk9
          refine mm_get (v := va_rf ((nx v k9).map (AD 1))) hx hb hf_X5 (fun _ h9 => h9) hown hK hG k21 rfl 5 (by decide) (tb_use hT tw_696) (fun _ h9 => h9) rfl dX5_isInRing_25 ?_
          obtain ⟨y_hf22, hf22⟩ : ∃ y, nx v k9 = y := ⟨_, rfl⟩
          cases y_hf22 with
          | none =>
            refine W.eq (g2 := F0 m 28 ls [.null]) (by first | rfl | (rw [hf22]; rfl)) ?_
            refine lv_astore_nN (lv' := [(1, .null), (0, .ref (AD 1 i9)), (2, .int (nI j9))]) hx hb dX5_isInRing_28 rfl hl (by decide) rfl (fun ls hl => ?_)
            obtain ⟨x24, ex24⟩ : ∃ y : Int32, y = (nI j9) + 1 := ⟨_, rfl⟩
            refine lv_iinc (v := x24) (lv' := [(2, .int x24), (1, .null), (0, .ref (AD 1 i9))]) hx hb dX5_isInRing_29 hl (k := 2) rfl (by rw [ex24]; rfl) (by decide) rfl (fun ls hl => ?_)
            refine lv_goto (tgt := 7) hx hb dX5_isInRing_32 (by decide) ?_
            refine lv_iload_n hx hb dX5_isInRing_7 rfl (lv_at hl 0 rfl) ?_
            refine lv_bipush (v := 6) hx hb dX5_isInRing_8 (by decide) ?_
            refine lv_icmp_ge (tgt := 35) hx hb dX5_isInRing_10 (by decide) (fun c_10 => ?_) (fun c_10 => ?_)
            · skip
              refine lv_iconst (v := 0) hx hb dX5_isInRing_35 (by decide) ?_
              exact W.zret (v := 0) hx hb hr rfl (fun t ht hW => ⟨⟨_, _, rfl, ⟨(by rw [hR, ← hq, inR, if_neg hne9, hf22]; cases n <;> rfl), rfl⟩, mk_end hG ht⟩, hS.F ht⟩) hS.2.2 dX5_isInRing_36
            · skip
              refine lv_aload_nN hx hb dX5_isInRing_13 rfl (lv_at hl 1 rfl) ?_
              refine lv_ifnullN (tgt := 35) hx hb dX5_isInRing_14 (by decide) ?_
              refine lv_iconst (v := 0) hx hb dX5_isInRing_35 (by decide) ?_
              exact W.zret (v := 0) hx hb hr rfl (fun t ht hW => ⟨⟨_, _, rfl, ⟨(by rw [hR, ← hq, inR, if_neg hne9, hf22]; cases n <;> rfl), rfl⟩, mk_end hG ht⟩, hS.F ht⟩) hS.2.2 dX5_isInRing_36
          | some j23 =>
            have hj25 := nx_lt hf22
            refine W.eq (g2 := F0 m 28 ls [.ref (AD 1 j23)]) (by first | rfl | (rw [hf22]; rfl)) ?_
            refine lv_astore_n (lv' := [(1, .ref (AD 1 j23)), (0, .ref (AD 1 i9)), (2, .int (nI j9))]) hx hb dX5_isInRing_28 rfl hl (by decide) rfl (fun ls hl => ?_)
            obtain ⟨x26, ex26⟩ : ∃ y : Int32, y = (nI j9) + 1 := ⟨_, rfl⟩
            refine lv_iinc (v := x26) (lv' := [(2, .int x26), (1, .ref (AD 1 j23)), (0, .ref (AD 1 i9))]) hx hb dX5_isInRing_29 hl (k := 2) rfl (by rw [ex26]; rfl) (by decide) rfl (fun ls hl => ?_)
            refine lv_goto (tgt := 7) hx hb dX5_isInRing_32 (by decide) ?_
            rw [show x26 = nI (j9 + 1) by rw [ex26]; exact (nI_succ j9).symm] at hl
            have hq2 : inR v i9 n (some j23) = RF := by rw [← hq, inR, if_neg hne9, hf22]
            exact ih (j9 + 1) j23 (by omega) hj25 hq2 Gv rfl _ _ hG hS ls (lv_sub hl [2, 1, 0] rfl)
        · skip
          refine lv_iconst (v := 1) hx hb dX5_isInRing_22 (by decide) ?_
          have hz9 : k9 = i9 := hP.inL _ _ hk9 hi9 (Option.some.inj c_19)
          exact W.zret (v := 1) hx hb hr rfl (fun t ht hW => ⟨⟨_, _, rfl, ⟨(by rw [hR, ← hq, inR, if_pos hz9]; rfl), rfl⟩, mk_end hG ht⟩, hS.F ht⟩) hS.2.2 dX5_isInRing_23
  refine lv_aload_n hx hb dX5_isInRing_0 rfl (lv_at hl 0 rfl) ?_
  have k27 : G (AD 1 i9) = some (.inr (6, [.int (nI (i9 + 1)), .int ((v.L i9).1), .long ((v.L i9).2.1), .long ((v.L i9).2.2.1), .int ((v.L i9).2.2.2), va_rf ((nx v i9).map (AD 1))])) := by rw [← hzL i9 hi9]; exact hP.elL hi9
  refine mm_get (v := va_rf ((nx v i9).map (AD 1))) hx hb hf_X5 (fun _ h9 => h9) hown hK hG k27 rfl 5 (by decide) (tb_use hT tw_696) (fun _ h9 => h9) rfl dX5_isInRing_1 ?_
  obtain ⟨y_hf28, hf28⟩ : ∃ y, nx v i9 = y := ⟨_, rfl⟩
  cases y_hf28 with
  | none =>
    refine W.eq (g2 := F0 m 4 ls [.null]) (by first | rfl | (rw [hf28]; rfl)) ?_
    refine lv_astore_nN (lv' := [(1, .null), (0, .ref (AD 1 i9))]) hx hb dX5_isInRing_4 rfl hl (by decide) rfl (fun ls hl => ?_)
    refine lv_iconst (v := 0) hx hb dX5_isInRing_5 (by decide) ?_
    refine lv_istore_n (lv' := [(2, .int 0), (1, .null), (0, .ref (AD 1 i9))]) hx hb dX5_isInRing_6 rfl hl (by decide) rfl (fun ls hl => ?_)
    refine lv_iload_n hx hb dX5_isInRing_7 rfl (lv_at hl 0 rfl) ?_
    refine lv_bipush (v := 6) hx hb dX5_isInRing_8 (by decide) ?_
    refine lv_icmp_ge (tgt := 35) hx hb dX5_isInRing_10 (by decide) (fun c_10 => ?_) (fun c_10 => ?_)
    · skip
      refine lv_iconst (v := 0) hx hb dX5_isInRing_35 (by decide) ?_
      exact W.zret (v := 0) hx hb hr rfl (fun t ht hW => ⟨⟨_, _, rfl, ⟨(by rw [hf28]; rfl), rfl⟩, mk_end hG ht⟩, hS.F ht⟩) hS.2.2 dX5_isInRing_36
    · skip
      refine lv_aload_nN hx hb dX5_isInRing_13 rfl (lv_at hl 1 rfl) ?_
      refine lv_ifnullN (tgt := 35) hx hb dX5_isInRing_14 (by decide) ?_
      refine lv_iconst (v := 0) hx hb dX5_isInRing_35 (by decide) ?_
      exact W.zret (v := 0) hx hb hr rfl (fun t ht hW => ⟨⟨_, _, rfl, ⟨(by rw [hf28]; rfl), rfl⟩, mk_end hG ht⟩, hS.F ht⟩) hS.2.2 dX5_isInRing_36
  | some j29 =>
    have hj30 := nx_lt hf28
    refine W.eq (g2 := F0 m 4 ls [.ref (AD 1 j29)]) (by first | rfl | (rw [hf28]; rfl)) ?_
    refine lv_astore_n (lv' := [(1, .ref (AD 1 j29)), (0, .ref (AD 1 i9))]) hx hb dX5_isInRing_4 rfl hl (by decide) rfl (fun ls hl => ?_)
    refine lv_iconst (v := 0) hx hb dX5_isInRing_5 (by decide) ?_
    refine lv_istore_n (lv' := [(2, .int 0), (1, .ref (AD 1 j29)), (0, .ref (AD 1 i9))]) hx hb dX5_isInRing_6 rfl hl (by decide) rfl (fun ls hl => ?_)
    exact hloop 6 0 j29 (by omega) hj30 (by rw [← hR, hf28]) G rfl _ _ hG hS ls (lv_sub hl [2, 1, 0] rfl)
