def isF (wa at_ : Int32) : Bool := decide (wa < 0) || decide (at_ < wa)
def nof (p : Nat → Bool) (m : Nat) : Int32 := match fndF p m 0 with
  | some j => nI (j + 1)
  | none => 0
set_option maxHeartbeats 4000000 in
set_option maxRecDepth 100000 in
theorem c_X2_isFirst (l : Launch) (D : va_G) (cy : Nat → ClassId) (A : Nat → Prop) (X : State → Prop) (hst : mk_St A X) (hXT : ∀ U : State, X U → TB U) (e0 : Nat) (tk : Nat → Nat) (hXE : ∀ U : State, X U → ES e0 tk A U) (G : Nat → Option va_E) (ed : Nat) (lc ly lsv lco lva ljo na : Nat) (nc wa : Int32) (iu rs : Option Nat) (at_ : Int32) (hed : G ed = some (.inr (3, [.ref lc, .ref ly, .ref lsv, .ref lco, .ref lva, .ref ljo, .ref na, .int nc, va_rf iu, .int wa, va_rf rs]))) : Met l yX2_isFirst [.code yX2_isFirst cX2_isFirst 2 (some .boolean)] ({ frames := 0, cells := 0, slots := 0, locals := 0 }) (mk_Pre D vwCl (tyL cy) A X G [.ref ed, .int at_]) (va_Qi (fun (r : Int32) (G2 : Nat → Option va_E) => r = b2i (isF wa at_) ∧ G2 = G) (mk_B D vwCl A) A) 0 0 A := by
  refine Met.ofW (cc := cX2_isFirst) (maxL := 2) (ret := (some .boolean)) (by decide) rfl ?_
  intro p e s m args below meth c s₁ B hml hv
  obtain ⟨rfl, hG, hK, hA, hX⟩ := hv
  have hx := B.exec
  have hb := B.bytes
  have hr := B.returns
  have hlocks := B.notSynchronized
  have hT := hXT s hX
  have hown : s.vm.findClass RX2 = some m.cls := findClass_of_methodNamed B.named
  have hf_X2 : ∀ w ∈ u_ws RX2 TX2 11, w.before ([.ref ed, .int at_] : List Value).toArray s = true := tb_list hT fX2
  have hS : va_S A s.heap s.heap [] := va_S.rf
  have hE := hXE s hX
  have hl := lv_entry ([.ref ed, .int at_]) (n := 2) (Nat.le_of_ble_eq_true rfl)
  rw [lg_entry_eq]
  generalize (lg_sl ([.ref ed, .int at_]) ++ List.replicate (2 - (lg_sl ([.ref ed, .int at_])).length) Slot.unset).toArray = ls at hl ⊢
  have hl : lv_has ls 2 [(0, .ref ed), (1, .int at_)] := hl
  refine lv_aload_n hx hb dX2_isFirst_0 rfl (lv_at hl 0 rfl) ?_
  refine mm_get (v := .int wa) hx hb hf_X2 (fun _ h9 => h9) hown hK hG hed rfl 9 (by decide) (tb_use hT tw_298) (fun _ h9 => h9) rfl dX2_isFirst_1 ?_
  refine lv_if_lt (tgt := 15) hx hb dX2_isFirst_4 (by decide) (fun c_4 => ?_) (fun c_4 => ?_)
  · skip
    refine lv_iconst (v := 1) hx hb dX2_isFirst_15 (by decide) ?_
    refine lv_goto (tgt := 20) hx hb dX2_isFirst_16 (by decide) ?_
    exact W.zret (v := 1) hx hb hr rfl (fun t ht hW => ⟨⟨_, _, rfl, ⟨(by rw [isF, decide_eq_true c_4]; rfl), rfl⟩, mk_end hG ht⟩, hS.F ht⟩) hS.2.2 dX2_isFirst_20
  · skip
    refine lv_iload_n hx hb dX2_isFirst_7 rfl (lv_at hl 1 rfl) ?_
    refine lv_aload_n hx hb dX2_isFirst_8 rfl (lv_at hl 0 rfl) ?_
    refine mm_get (v := .int wa) hx hb hf_X2 (fun _ h9 => h9) hown hK hG hed rfl 9 (by decide) (tb_use hT tw_298) (fun _ h9 => h9) rfl dX2_isFirst_9 ?_
    refine lv_icmp_ge (tgt := 19) hx hb dX2_isFirst_12 (by decide) (fun c_12 => ?_) (fun c_12 => ?_)
    · skip
      refine lv_iconst (v := 0) hx hb dX2_isFirst_19 (by decide) ?_
      exact W.zret (v := 0) hx hb hr rfl (fun t ht hW => ⟨⟨_, _, rfl, ⟨(by rw [isF, decide_eq_false (Int32.not_lt.mpr c_12), decide_eq_false c_4]; rfl), rfl⟩, mk_end hG ht⟩, hS.F ht⟩) hS.2.2 dX2_isFirst_20
    · skip
      refine lv_iconst (v := 1) hx hb dX2_isFirst_15 (by decide) ?_
      refine lv_goto (tgt := 20) hx hb dX2_isFirst_16 (by decide) ?_
      exact W.zret (v := 1) hx hb hr rfl (fun t ht hW => ⟨⟨_, _, rfl, ⟨(by rw [isF, decide_eq_true (Int32.not_le.mp c_12), Bool.or_true]; rfl), rfl⟩, mk_end hG ht⟩, hS.F ht⟩) hS.2.2 dX2_isFirst_20

set_option maxHeartbeats 4000000 in
set_option maxRecDepth 100000 in
theorem c_X2_expect (l : Launch) (D : va_G) (cy : Nat → ClassId) (A : Nat → Prop) (X : State → Prop) (hst : mk_St A X) (hXT : ∀ U : State, X U → TB U) (e0 : Nat) (tk : Nat → Nat) (hXE : ∀ U : State, X U → ES e0 tk A U) (G : Nat → Option va_E) (ed : Nat) (lc ly lsv lco lva ljo na : Nat) (nc wa : Int32) (iu rs : Option Nat) (rt at_ : Int32) (hed : G ed = some (.inr (3, [.ref lc, .ref ly, .ref lsv, .ref lco, .ref lva, .ref ljo, .ref na, .int nc, va_rf iu, .int wa, va_rf rs]))) : Met l yX2_expect [.code yX2_expect cX2_expect 3 none] ({ frames := 1, cells := 0, slots := 0, locals := 30 }) (mk_Pre D vwCl (tyL cy) A X G [.ref ed, .int rt, .int at_]) (va_Qv (fun (G2 : Nat → Option va_E) => G2 = mm_set G ed (.inr (3, [.ref lc, .ref ly, .ref lsv, .ref lco, .ref lva, .ref ljo, .ref na, .int nc, va_rf iu, .int (if rt = 0 ∧ isF wa at_ = true then at_ else wa), va_rf (if rt = 0 ∧ isF wa at_ = true then none else rs)]))) (mk_B D vwCl A) A) 0 0 A := by
  refine Met.ofW (cc := cX2_expect) (maxL := 3) (ret := none) (by decide) rfl ?_
  intro p e s m args below meth c s₁ B hml hv
  obtain ⟨rfl, hG, hK, hA, hX⟩ := hv
  have hx := B.exec
  have hb := B.bytes
  have hr := B.returns
  have hlocks := B.notSynchronized
  have hT := hXT s hX
  have hown : s.vm.findClass RX2 = some m.cls := findClass_of_methodNamed B.named
  have hf_X2 : ∀ w ∈ u_ws RX2 TX2 11, w.before ([.ref ed, .int rt, .int at_] : List Value).toArray s = true := tb_list hT fX2
  have hS : va_S A s.heap s.heap [] := va_S.rf
  have hE := hXE s hX
  have hl := lv_entry ([.ref ed, .int rt, .int at_]) (n := 3) (Nat.le_of_ble_eq_true rfl)
  rw [lg_entry_eq]
  generalize (lg_sl ([.ref ed, .int rt, .int at_]) ++ List.replicate (3 - (lg_sl ([.ref ed, .int rt, .int at_])).length) Slot.unset).toArray = ls at hl ⊢
  have hl : lv_has ls 3 [(0, .ref ed), (1, .int rt), (2, .int at_)] := hl
  refine lv_iload_n hx hb dX2_expect_0 rfl (lv_at hl 1 rfl) ?_
  refine lv_if_ne (tgt := 22) hx hb dX2_expect_1 (by decide) (fun c_1 => ?_) (fun c_1 => ?_)
  · skip
    have hno : ¬ (rt = 0 ∧ isF wa at_ = true) := fun z => c_1 z.1
    exact W.vret hx hb hr (fun t ht hW => ⟨⟨_, rfl, (by rw [if_neg hno, if_neg hno, mm_set_id hed]), mk_end hG ht⟩, hS.F ht⟩) hS.2.2 dX2_expect_22
  · skip
    refine lv_aload_n hx hb dX2_expect_4 rfl (lv_at hl 0 rfl) ?_
    refine lv_iload_n hx hb dX2_expect_5 rfl (lv_at hl 2 rfl) ?_
    refine va_calli (va_runV (As := [.int at_]) (rest := []) ⟨hx, hb, hml, hown, (fun _ h9 => absurd h9 List.not_mem_nil : ∀ w ∈ ([] : List Cond), w.before _ s = true)⟩ (c_X2_isFirst l D cy A X hst hXT e0 tk hXE G ed lc ly lsv lco lva ljo na nc wa iu rs at_ hed) (tb_cw (C := RX2) 1 hT tw_1013 tw_110 tw_1010 tw_1012 tw_35 rfl rfl hq_X2_isFirst ⟨Nat.le_of_ble_eq_true rfl, Nat.le_of_ble_eq_true rfl⟩) (mk_preC hst hG hK hA hX hS vc_3 hed) rfl rfl hl.1 rfl (lv_room (Nat.le_of_ble_eq_true rfl)) dX2_expect_6 ⟨Nat.le_of_ble_eq_true rfl, Nat.le_of_ble_eq_true rfl⟩) hS (fun q _ h => h) (fun q h => h) (fun r1 G2 t H locs ht hvm hw hB hz1 hk1 hS => ?_)
    have hG : mm D vwCl A G2 H := by rw [← ht]; exact hB
    clear hB hz1 hk1 hvm ht
    obtain ⟨er1, hw⟩ := hw
    rw [hw] at hG
    refine lv_if_eq (tgt := 22) hx hb dX2_expect_9 (by decide) (fun c_9 => ?_) (fun c_9 => ?_)
    · skip
      have hi : isF wa at_ = false := by rw [er1] at c_9; revert c_9; cases isF wa at_ <;> simp [b2i]
      have hno : ¬ (rt = 0 ∧ isF wa at_ = true) := fun z => by rw [hi] at z; cases z.2
      exact W.vret hx hb hr (fun t ht hW => ⟨⟨_, rfl, (by rw [if_neg hno, if_neg hno, mm_set_id hed]), mk_end hG ht⟩, hS.F ht⟩) hS.2.2 dX2_expect_22
    · skip
      refine lv_aload_n hx hb dX2_expect_12 rfl (lv_at hl 0 rfl) ?_
      refine lv_iload_n hx hb dX2_expect_13 rfl (lv_at hl 2 rfl) ?_
      refine mm_put (v := .int at_) (ty := .int) hx hb hf_X2 (fun _ h9 => h9) tyX2 tyX2_ok nmX2 hown hK hG hS hed rfl 9 (by decide) (tb_use hT tw_298) (fun _ h9 => h9) rfl (by decide +kernel) rfl rfl (Nat.le_of_ble_eq_true rfl) dX2_expect_14 (fun H locs hG hS => ?_)
      obtain ⟨G3, eG3⟩ : ∃ g, g = mm_set G ed (.inr (3, [.ref lc, .ref ly, .ref lsv, .ref lco, .ref lva, .ref ljo, .ref na, .int nc, va_rf iu, .int at_, va_rf rs])) := ⟨_, rfl⟩
      have hG : mm D vwCl A G3 H := by rw [eG3]; exact hG
      have k4 : G3 ed = some (.inr (3, [.ref lc, .ref ly, .ref lsv, .ref lco, .ref lva, .ref ljo, .ref na, .int nc, va_rf iu, .int at_, va_rf rs])) := by rw [eG3]; exact mm_set_self
      refine lv_aload_n hx hb dX2_expect_17 rfl (lv_at hl 0 rfl) ?_
      refine lv_null hx hb dX2_expect_18 ?_
      refine mm_put (v := .null) (ty := .object "DescribeText$Layer") hx hb hf_X2 (fun _ h9 => h9) tyX2 tyX2_ok nmX2 hown hK hG hS k4 rfl 10 (by decide) (tb_use hT tw_301) (fun _ h9 => h9) rfl (by decide +kernel) rfl rfl (Nat.le_of_ble_eq_true rfl) dX2_expect_19 (fun H locs hG hS => ?_)
      obtain ⟨G5, eG5⟩ : ∃ g, g = mm_set G3 ed (.inr (3, [.ref lc, .ref ly, .ref lsv, .ref lco, .ref lva, .ref ljo, .ref na, .int nc, va_rf iu, .int at_, .null])) := ⟨_, rfl⟩
      have hG : mm D vwCl A G5 H := by rw [eG5]; exact hG
      have k6 : G5 ed = some (.inr (3, [.ref lc, .ref ly, .ref lsv, .ref lco, .ref lva, .ref ljo, .ref na, .int nc, va_rf iu, .int at_, .null])) := by rw [eG5]; exact mm_set_self
      have hi : isF wa at_ = true := by rw [er1] at c_9; revert c_9; cases isF wa at_ <;> simp [b2i]
      have hyes : rt = 0 ∧ isF wa at_ = true := ⟨c_1, hi⟩
      exact W.vret hx hb hr (fun t ht hW => ⟨⟨_, rfl, (by rw [if_pos hyes, if_pos hyes, eG5, eG3, mm_set_set]; rfl), mk_end hG ht⟩, hS.F ht⟩) hS.2.2 dX2_expect_22

set_option maxHeartbeats 4000000 in
set_option maxRecDepth 100000 in
theorem c_X2_numberOf (l : Launch) (D : va_G) (cy : Nat → ClassId) (A : Nat → Prop) (X : State → Prop) (hst : mk_St A X) (hXT : ∀ U : State, X U → TB U) (e0 : Nat) (tk : Nat → Nat) (hXE : ∀ U : State, X U → ES e0 tk A U) (mi : Nat) (hXL : ∀ U : State, X U → EL e0 mi A U) (G : Nat → Option va_E) (ed : Nat) (lc ly lsv lco lva ljo na : Nat) (wa : Int32) (iu rs : Option Nat) (mm9 cap : Nat) (nv : Nat → Int64) (xw : Int64) (hed : G ed = some (.inr (3, [.ref lc, .ref ly, .ref lsv, .ref lco, .ref lva, .ref ljo, .ref na, .int (nI mm9), va_rf iu, .int wa, va_rf rs]))) (hna : G na = some (.inl (cy 2, cap, .inr (.inl nv)))) (hmc : mm9 ≤ cap) (hcap : cap < 10000) : Met l yX2_numberOf [.code yX2_numberOf cX2_numberOf 4 (some .int)] ({ frames := 1, cells := 0, slots := 0, locals := 30 }) (mk_Pre D vwCl (tyL cy) A X G [.ref ed, .long xw]) (va_Qi (fun (r : Int32) (G2 : Nat → Option va_E) => r = nof (fun j => decide (nv j = xw)) mm9 ∧ G2 = G) (mk_B D vwCl A) A) 0 0 A := by
  refine Met.ofW (cc := cX2_numberOf) (maxL := 4) (ret := (some .int)) (by decide) rfl ?_
  intro p e s m args below meth c s₁ B hml hv
  obtain ⟨rfl, hG, hK, hA, hX⟩ := hv
  have hx := B.exec
  have hb := B.bytes
  have hr := B.returns
  have hlocks := B.notSynchronized
  have hT := hXT s hX
  have hown : s.vm.findClass RX2 = some m.cls := findClass_of_methodNamed B.named
  have hf_X2 : ∀ w ∈ u_ws RX2 TX2 11, w.before ([.ref ed, .long xw] : List Value).toArray s = true := tb_list hT fX2
  have hS : va_S A s.heap s.heap [] := va_S.rf
  have hE := hXE s hX
  have hl := lv_entry ([.ref ed, .long xw]) (n := 4) (Nat.le_of_ble_eq_true rfl)
  rw [lg_entry_eq]
  generalize (lg_sl ([.ref ed, .long xw]) ++ List.replicate (4 - (lg_sl ([.ref ed, .long xw])).length) Slot.unset).toArray = ls at hl ⊢
  have hl : lv_has ls 4 [(0, .ref ed), (1, .long xw)] := hl
  obtain ⟨RF, hR⟩ : ∃ y, fndF (fun j => decide (nv j = xw)) mm9 0 = y := ⟨_, rfl⟩
  have hloop : ∀ (n : Nat) (j : Nat), (n + j = mm9) → (fndF (fun j => decide (nv j = xw)) n j = RF) → ∀ (Gv : Nat → Option va_E), (Gv ed = some (.inr (3, [.ref lc, .ref ly, .ref lsv, .ref lco, .ref lva, .ref ljo, .ref na, .int (nI mm9), va_rf iu, .int wa, va_rf rs]))) → (Gv na = some (.inl (cy 2, cap, .inr (.inl nv)))) → (Gv = G) → ∀ (H : Heap) (locs : List Loc), mm D vwCl A Gv H → va_S A s.heap H locs → ∀ ls : Array Slot, lv_has ls 4 [(0, .ref ed), (1, .long xw), (3, .int (nI j))] → W p l e (headSpec [.code yX2_numberOf cX2_numberOf 4 (some .int)] ({ frames := 1, cells := 0, slots := 0, locals := 30 })).room s m ([.ref ed, .long xw] : List Value).toArray below meth c H locs 0 0 (MQ below (va_Qi (fun (r : Int32) (G2 : Nat → Option va_E) => r = nof (fun j => decide (nv j = xw)) mm9 ∧ G2 = G) (mk_B D vwCl A) A) ([.ref ed, .long xw] : List Value).toArray s 0 0 A) (F0 m 2 ls []) := by
    intro n
    induction n with
    | zero =>
      intro j hjn hq Gv v_ed v_na hGv H locs hG hS ls hl
      have hG9 := hG
      have hS9 := hS
      have hl9 := hl
      subst hGv
      have hG := hG9
      have hS := hS9
      have hl := hl9
      refine lv_iload_n hx hb dX2_numberOf_2 rfl (lv_at hl 2 rfl) ?_
      refine lv_aload_n hx hb dX2_numberOf_3 rfl (lv_at hl 0 rfl) ?_
      refine mm_get (v := .int (nI mm9)) hx hb hf_X2 (fun _ h9 => h9) hown hK hG v_ed rfl 7 (by decide) (tb_use hT tw_295) (fun _ h9 => h9) rfl dX2_numberOf_4 ?_
      refine lv_icmp_ge (tgt := 40) hx hb dX2_numberOf_7 (by decide) (fun c_7 => ?_) (fun c_7 => ?_)
      · skip
        refine lv_iconst (v := 0) hx hb dX2_numberOf_40 (by decide) ?_
        exact W.iret (v := 0) hx hb hr (fun t ht hW => ⟨⟨_, _, rfl, ⟨(by rw [nof, hR, ← hq]; rfl), rfl⟩, mk_end hG ht⟩, hS.F ht⟩) hS.2.2 dX2_numberOf_41
      · skip
        exact absurd (by rw [show j = mm9 by omega]; exact Int32.le_refl _) c_7
    | succ n ih =>
      intro j hjn hq Gv v_ed v_na hGv H locs hG hS ls hl
      have hG9 := hG
      have hS9 := hS
      have hl9 := hl
      subst hGv
      have hG := hG9
      have hS := hS9
      have hl := hl9
      refine lv_iload_n hx hb dX2_numberOf_2 rfl (lv_at hl 2 rfl) ?_
      refine lv_aload_n hx hb dX2_numberOf_3 rfl (lv_at hl 0 rfl) ?_
      refine mm_get (v := .int (nI mm9)) hx hb hf_X2 (fun _ h9 => h9) hown hK hG v_ed rfl 7 (by decide) (tb_use hT tw_295) (fun _ h9 => h9) rfl dX2_numberOf_4 ?_
      refine lv_icmp_ge (tgt := 40) hx hb dX2_numberOf_7 (by decide) (fun c_7 => ?_) (fun c_7 => ?_)
      · skip
        exact absurd c_7 (nI_ge (by omega) (by omega))
      · skip
        refine lv_iload_n hx hb dX2_numberOf_10 rfl (lv_at hl 2 rfl) ?_
        refine lv_aload_n hx hb dX2_numberOf_11 rfl (lv_at hl 0 rfl) ?_
        refine mm_get (v := .ref na) hx hb hf_X2 (fun _ h9 => h9) hown hK hG v_ed rfl 6 (by decide) (tb_use hT tw_294) (fun _ h9 => h9) rfl dX2_numberOf_12 ?_
        refine mm_alen (v := (nI cap)) hx hb hK hG 2 v_na rfl rfl dX2_numberOf_15 ?_
        refine lv_icmp_ge (tgt := 40) hx hb dX2_numberOf_16 (by decide) (fun c_16 => ?_) (fun c_16 => ?_)
        · skip
          exact absurd c_16 (nI_ge (by omega) (by omega))
        · skip
          refine lv_aload_n hx hb dX2_numberOf_19 rfl (lv_at hl 0 rfl) ?_
          refine mm_get (v := .ref na) hx hb hf_X2 (fun _ h9 => h9) hown hK hG v_ed rfl 6 (by decide) (tb_use hT tw_294) (fun _ h9 => h9) rfl dX2_numberOf_20 ?_
          refine lv_iload_n hx hb dX2_numberOf_23 rfl (lv_at hl 2 rfl) ?_
          refine mm_lald hx hb hK hG 2 v_na rfl (nI_in (N := cap) (by omega) (by omega)) dX2_numberOf_24 ?_
          refine lv_topl (fun x21 ex21 => ?_)
          refine lv_lload_n hx hb dX2_numberOf_25 rfl (lv_at hl 1 rfl) ?_
          refine W.lcmp hx hb dX2_numberOf_26 ?_
          refine lv_if_ne (tgt := 34) hx hb dX2_numberOf_27 (by decide) (fun c_27 => ?_) (fun c_27 => ?_)
          · skip
            obtain ⟨x23, ex23⟩ : ∃ y : Int32, y = (nI j) + 1 := ⟨_, rfl⟩
            refine lv_iinc (v := x23) (lv' := [(3, .int x23), (0, .ref ed), (1, .long xw)]) hx hb dX2_numberOf_34 hl (k := 2) rfl (by rw [ex23]; rfl) (by decide) rfl (fun ls hl => ?_)
            refine lv_goto (tgt := 2) hx hb dX2_numberOf_37 (by decide) ?_
            rw [show x23 = nI (j + 1) by rw [ex23]; exact (nI_succ j).symm] at hl
            have hp9 : ¬ ((fun j => decide (nv j = xw)) j = true) := fun z => by
              have z2 := of_decide_eq_true z
              exact c_27 ((lg_cmp_eq _ _).mpr (by rw [ex21, nI_clamp (n := j) (by omega)]; exact z2))
            have hq2 : fndF (fun j => decide (nv j = xw)) n (j + 1) = RF := by rw [← hq, fndF, if_neg hp9]
            exact ih (j + 1) (by omega) hq2 Gv v_ed v_na rfl _ _ hG hS ls (lv_sub hl [1, 2, 0] rfl)
          · skip
            refine lv_iload_n hx hb dX2_numberOf_30 rfl (lv_at hl 2 rfl) ?_
            refine lv_iconst (v := 1) hx hb dX2_numberOf_31 (by decide) ?_
            refine lv_iadd hx hb dX2_numberOf_32 ?_
            have hp9 : (fun j => decide (nv j = xw)) j = true := decide_eq_true (by have z := (lg_cmp_eq _ _).mp c_27; rw [ex21, nI_clamp (n := j) (by omega)] at z; exact z)
            exact W.iret (v := ((nI j) + 1)) hx hb hr (fun t ht hW => ⟨⟨_, _, rfl, ⟨(by rw [nof, hR, ← hq, fndF, if_pos hp9]; exact (nI_succ j).symm), rfl⟩, mk_end hG ht⟩, hS.F ht⟩) hS.2.2 dX2_numberOf_33
  refine lv_iconst (v := 0) hx hb dX2_numberOf_0 (by decide) ?_
  refine lv_istore_n (lv' := [(3, .int 0), (0, .ref ed), (1, .long xw)]) hx hb dX2_numberOf_1 rfl hl (by decide) rfl (fun ls hl => ?_)
  exact hloop mm9 0 (by omega) hR G hed hna rfl _ _ hG hS ls (lv_sub hl [1, 2, 0] rfl)
