set_option maxHeartbeats 4000000 in
set_option maxRecDepth 100000 in
theorem c_lmin (l : Launch) (D : va_G) (cy : Nat → ClassId) (A : Nat → Prop) (X : State → Prop) (hst : mk_St A X) (hXT : ∀ U : State, X U → TB U) (e0 : Nat) (tk : Nat → Nat) (hXE : ∀ U : State, X U → ES e0 tk A U) (G : Nat → Option va_E) (xa xb : Int64)  : Met l yJ9_min_f86c9 [.code yJ9_min_f86c9 cJ9_min_f86c9 4 (some .long)] ({ frames := 0, cells := 0, slots := 0, locals := 0 }) (mk_Pre D vwCl (tyL cy) A X G [.long xa, .long xb]) (va_Ql (fun (r : Int64) (G2 : Nat → Option va_E) => r = lmin xa xb ∧ G2 = G) (mk_B D vwCl A) A) 0 0 A := by
  refine Met.ofWF (cc := cJ9_min_f86c9) (maxL := 4) (ret := (some .long)) (by decide +kernel) rfl ?_
  intro p e s m args below meth c s₁ B hml hv
  obtain ⟨rfl, hG, hK, hA, hX⟩ := hv
  have hx := B.exec
  have hb := B.bytes
  have hr := B.returns
  have hlocks := B.notSynchronized
  have hT := hXT s hX
  have hown : s.vm.findClass RJ9 = some m.cls := findClass_of_methodNamed B.named
  have hS : va_S A s.heap s.heap [] := va_S.rf
  have hE := hXE s hX
  have hl := lv_entry ([.long xa, .long xb]) (n := 4) (Nat.le_of_ble_eq_true rfl)
  rw [lg_entry_eq]
  generalize (lg_sl ([.long xa, .long xb]) ++ List.replicate (4 - (lg_sl ([.long xa, .long xb])).length) Slot.unset).toArray = ls at hl ⊢
  have hl : lv_has ls 4 [(0, .long xa), (2, .long xb)] := hl
  refine lv_lload_n hx hb dJ9_min_f86c9_0 rfl (lv_at hl 0 rfl) ?_
  refine lv_lload_n hx hb dJ9_min_f86c9_1 rfl (lv_at hl 1 rfl) ?_
  refine W.lcmp hx hb dJ9_min_f86c9_2 ?_
  refine lv_if_gt (tgt := 10) hx hb dJ9_min_f86c9_3 (by decide) (fun c_3 => ?_) (fun c_3 => ?_)
  · skip
    refine lv_lload_n hx hb dJ9_min_f86c9_10 rfl (lv_at hl 1 rfl) ?_
    exact W.lret (v := xb) hx hb hr (fun t ht hW => ⟨⟨_, _, rfl, ⟨(by rw [lmin, if_neg (Int64.not_le.mpr ((lg_cmp_gt _ _).mp c_3))]), rfl⟩, mk_end hG ht⟩, hS.F ht⟩) hS.2.2 dJ9_min_f86c9_11
  · skip
    refine lv_lload_n hx hb dJ9_min_f86c9_6 rfl (lv_at hl 0 rfl) ?_
    refine lv_goto (tgt := 11) hx hb dJ9_min_f86c9_7 (by decide) ?_
    exact W.lret (v := xa) hx hb hr (fun t ht hW => ⟨⟨_, _, rfl, ⟨(by rw [lmin, if_pos (Int64.not_lt.mp (fun z => c_3 ((lg_cmp_gt _ _).mpr z)))]), rfl⟩, mk_end hG ht⟩, hS.F ht⟩) hS.2.2 dJ9_min_f86c9_11

set_option maxHeartbeats 4000000 in
set_option maxRecDepth 100000 in
theorem c_lmax (l : Launch) (D : va_G) (cy : Nat → ClassId) (A : Nat → Prop) (X : State → Prop) (hst : mk_St A X) (hXT : ∀ U : State, X U → TB U) (e0 : Nat) (tk : Nat → Nat) (hXE : ∀ U : State, X U → ES e0 tk A U) (G : Nat → Option va_E) (xa xb : Int64)  : Met l yJ9_max_f86c9 [.code yJ9_max_f86c9 cJ9_max_f86c9 4 (some .long)] ({ frames := 0, cells := 0, slots := 0, locals := 0 }) (mk_Pre D vwCl (tyL cy) A X G [.long xa, .long xb]) (va_Ql (fun (r : Int64) (G2 : Nat → Option va_E) => r = lmax xa xb ∧ G2 = G) (mk_B D vwCl A) A) 0 0 A := by
  refine Met.ofWF (cc := cJ9_max_f86c9) (maxL := 4) (ret := (some .long)) (by decide +kernel) rfl ?_
  intro p e s m args below meth c s₁ B hml hv
  obtain ⟨rfl, hG, hK, hA, hX⟩ := hv
  have hx := B.exec
  have hb := B.bytes
  have hr := B.returns
  have hlocks := B.notSynchronized
  have hT := hXT s hX
  have hown : s.vm.findClass RJ9 = some m.cls := findClass_of_methodNamed B.named
  have hS : va_S A s.heap s.heap [] := va_S.rf
  have hE := hXE s hX
  have hl := lv_entry ([.long xa, .long xb]) (n := 4) (Nat.le_of_ble_eq_true rfl)
  rw [lg_entry_eq]
  generalize (lg_sl ([.long xa, .long xb]) ++ List.replicate (4 - (lg_sl ([.long xa, .long xb])).length) Slot.unset).toArray = ls at hl ⊢
  have hl : lv_has ls 4 [(0, .long xa), (2, .long xb)] := hl
  refine lv_lload_n hx hb dJ9_max_f86c9_0 rfl (lv_at hl 0 rfl) ?_
  refine lv_lload_n hx hb dJ9_max_f86c9_1 rfl (lv_at hl 1 rfl) ?_
  refine W.lcmp hx hb dJ9_max_f86c9_2 ?_
  refine lv_if_lt (tgt := 10) hx hb dJ9_max_f86c9_3 (by decide) (fun c_3 => ?_) (fun c_3 => ?_)
  · skip
    refine lv_lload_n hx hb dJ9_max_f86c9_10 rfl (lv_at hl 1 rfl) ?_
    exact W.lret (v := xb) hx hb hr (fun t ht hW => ⟨⟨_, _, rfl, ⟨(by rw [lmax, if_neg (Int64.not_le.mpr ((lg_cmp_lt _ _).mp c_3))]), rfl⟩, mk_end hG ht⟩, hS.F ht⟩) hS.2.2 dJ9_max_f86c9_11
  · skip
    refine lv_lload_n hx hb dJ9_max_f86c9_6 rfl (lv_at hl 0 rfl) ?_
    refine lv_goto (tgt := 11) hx hb dJ9_max_f86c9_7 (by decide) ?_
    exact W.lret (v := xa) hx hb hr (fun t ht hW => ⟨⟨_, _, rfl, ⟨(by rw [lmax, if_pos (Int64.not_lt.mp (fun z => c_3 ((lg_cmp_lt _ _).mpr z)))]), rfl⟩, mk_end hG ht⟩, hS.F ht⟩) hS.2.2 dJ9_max_f86c9_11

set_option maxHeartbeats 4000000 in
set_option maxRecDepth 100000 in
theorem c_labs (l : Launch) (D : va_G) (cy : Nat → ClassId) (A : Nat → Prop) (X : State → Prop) (hst : mk_St A X) (hXT : ∀ U : State, X U → TB U) (e0 : Nat) (tk : Nat → Nat) (hXE : ∀ U : State, X U → ES e0 tk A U) (G : Nat → Option va_E) (xa : Int64)  : Met l yJ9_abs_067f4 [.code yJ9_abs_067f4 cJ9_abs_067f4 2 (some .long)] ({ frames := 0, cells := 0, slots := 0, locals := 0 }) (mk_Pre D vwCl (tyL cy) A X G [.long xa]) (va_Ql (fun (r : Int64) (G2 : Nat → Option va_E) => r = labs xa ∧ G2 = G) (mk_B D vwCl A) A) 0 0 A := by
  refine Met.ofWF (cc := cJ9_abs_067f4) (maxL := 2) (ret := (some .long)) (by decide +kernel) rfl ?_
  intro p e s m args below meth c s₁ B hml hv
  obtain ⟨rfl, hG, hK, hA, hX⟩ := hv
  have hx := B.exec
  have hb := B.bytes
  have hr := B.returns
  have hlocks := B.notSynchronized
  have hT := hXT s hX
  have hown : s.vm.findClass RJ9 = some m.cls := findClass_of_methodNamed B.named
  have hS : va_S A s.heap s.heap [] := va_S.rf
  have hE := hXE s hX
  have hl := lv_entry ([.long xa]) (n := 2) (Nat.le_of_ble_eq_true rfl)
  rw [lg_entry_eq]
  generalize (lg_sl ([.long xa]) ++ List.replicate (2 - (lg_sl ([.long xa])).length) Slot.unset).toArray = ls at hl ⊢
  have hl : lv_has ls 2 [(0, .long xa)] := hl
  refine lv_lload_n hx hb dJ9_abs_067f4_0 rfl (lv_at hl 0 rfl) ?_
  refine lv_lconst (v := 0) hx hb dJ9_abs_067f4_1 (by decide) ?_
  refine W.lcmp hx hb dJ9_abs_067f4_2 ?_
  refine lv_if_ge (tgt := 11) hx hb dJ9_abs_067f4_3 (by decide) (fun c_3 => ?_) (fun c_3 => ?_)
  · skip
    refine lv_lload_n hx hb dJ9_abs_067f4_11 rfl (lv_at hl 0 rfl) ?_
    exact W.lret (v := xa) hx hb hr (fun t ht hW => ⟨⟨_, _, rfl, ⟨(by rw [labs, if_neg (Int64.not_lt.mpr ((lg_cmp_ge _ _).mp c_3))]), rfl⟩, mk_end hG ht⟩, hS.F ht⟩) hS.2.2 dJ9_abs_067f4_12
  · skip
    refine lv_lload_n hx hb dJ9_abs_067f4_6 rfl (lv_at hl 0 rfl) ?_
    refine lv_lneg hx hb dJ9_abs_067f4_7 ?_
    refine lv_goto (tgt := 12) hx hb dJ9_abs_067f4_8 (by decide) ?_
    exact W.lret (v := (-xa)) hx hb hr (fun t ht hW => ⟨⟨_, _, rfl, ⟨(by rw [labs, if_pos (Int64.not_le.mp (fun z => c_3 ((lg_cmp_ge _ _).mpr z)))]), rfl⟩, mk_end hG ht⟩, hS.F ht⟩) hS.2.2 dJ9_abs_067f4_12

set_option maxHeartbeats 4000000 in
set_option maxRecDepth 100000 in
theorem c_fdv (l : Launch) (D : va_G) (cy : Nat → ClassId) (A : Nat → Prop) (X : State → Prop) (hst : mk_St A X) (hXT : ∀ U : State, X U → TB U) (e0 : Nat) (tk : Nat → Nat) (hXE : ∀ U : State, X U → ES e0 tk A U) (G : Nat → Option va_E) (xa xb : Int64) (hb0 : xb ≠ 0) : Met l yJ9_floorDiv_f86c9 [.code yJ9_floorDiv_f86c9 cJ9_floorDiv_f86c9 6 (some .long)] ({ frames := 0, cells := 0, slots := 0, locals := 0 }) (mk_Pre D vwCl (tyL cy) A X G [.long xa, .long xb]) (va_Ql (fun (r : Int64) (G2 : Nat → Option va_E) => r = fdv xa xb ∧ G2 = G) (mk_B D vwCl A) A) 0 0 A := by
  refine Met.ofWF (cc := cJ9_floorDiv_f86c9) (maxL := 6) (ret := (some .long)) (by decide +kernel) rfl ?_
  intro p e s m args below meth c s₁ B hml hv
  obtain ⟨rfl, hG, hK, hA, hX⟩ := hv
  have hx := B.exec
  have hb := B.bytes
  have hr := B.returns
  have hlocks := B.notSynchronized
  have hT := hXT s hX
  have hown : s.vm.findClass RJ9 = some m.cls := findClass_of_methodNamed B.named
  have hS : va_S A s.heap s.heap [] := va_S.rf
  have hE := hXE s hX
  have hl := lv_entry ([.long xa, .long xb]) (n := 6) (Nat.le_of_ble_eq_true rfl)
  rw [lg_entry_eq]
  generalize (lg_sl ([.long xa, .long xb]) ++ List.replicate (6 - (lg_sl ([.long xa, .long xb])).length) Slot.unset).toArray = ls at hl ⊢
  have hl : lv_has ls 6 [(0, .long xa), (2, .long xb)] := hl
  refine lv_lload_n hx hb dJ9_floorDiv_f86c9_0 rfl (lv_at hl 0 rfl) ?_
  refine lv_lload_n hx hb dJ9_floorDiv_f86c9_1 rfl (lv_at hl 1 rfl) ?_
  refine lv_ldiv hx hb dJ9_floorDiv_f86c9_2 hb0 ?_
  refine lv_topl (fun x1 ex1 => ?_)
  refine lv_lstore (lv' := [(4, .long x1), (0, .long xa), (2, .long xb)]) hx hb dJ9_floorDiv_f86c9_3 hl (by decide) rfl (fun ls hl => ?_)
  refine lv_lload_n hx hb dJ9_floorDiv_f86c9_5 rfl (lv_at hl 1 rfl) ?_
  refine lv_lload_n hx hb dJ9_floorDiv_f86c9_6 rfl (lv_at hl 2 rfl) ?_
  refine lv_lxor hx hb dJ9_floorDiv_f86c9_7 ?_
  refine lv_lconst (v := 0) hx hb dJ9_floorDiv_f86c9_8 (by decide) ?_
  refine W.lcmp hx hb dJ9_floorDiv_f86c9_9 ?_
  refine lv_if_ge (tgt := 27) hx hb dJ9_floorDiv_f86c9_10 (by decide) (fun c_10 => ?_) (fun c_10 => ?_)
  · skip
    refine lv_lload hx hb dJ9_floorDiv_f86c9_27 (lv_at hl 0 rfl) ?_
    exact W.lret (v := x1) hx hb hr (fun t ht hW => ⟨⟨_, _, rfl, ⟨(by rw [fdv, if_neg (fun z => absurd z.1 (Int64.not_lt.mpr ((lg_cmp_ge _ _).mp c_10))), ex1]), rfl⟩, mk_end hG ht⟩, hS.F ht⟩) hS.2.2 dJ9_floorDiv_f86c9_29
  · skip
    refine lv_lload hx hb dJ9_floorDiv_f86c9_13 (lv_at hl 0 rfl) ?_
    refine lv_lload_n hx hb dJ9_floorDiv_f86c9_15 rfl (lv_at hl 2 rfl) ?_
    refine lv_lmul hx hb dJ9_floorDiv_f86c9_16 ?_
    refine lv_lload_n hx hb dJ9_floorDiv_f86c9_17 rfl (lv_at hl 1 rfl) ?_
    refine W.lcmp hx hb dJ9_floorDiv_f86c9_18 ?_
    refine lv_if_eq (tgt := 27) hx hb dJ9_floorDiv_f86c9_19 (by decide) (fun c_19 => ?_) (fun c_19 => ?_)
    · skip
      refine lv_lload hx hb dJ9_floorDiv_f86c9_27 (lv_at hl 0 rfl) ?_
      exact W.lret (v := x1) hx hb hr (fun t ht hW => ⟨⟨_, _, rfl, ⟨(by rw [fdv, if_neg (fun z => z.2 (by rw [← ex1]; exact (lg_cmp_eq _ _).mp c_19)), ex1]), rfl⟩, mk_end hG ht⟩, hS.F ht⟩) hS.2.2 dJ9_floorDiv_f86c9_29
    · skip
      refine lv_lload hx hb dJ9_floorDiv_f86c9_22 (lv_at hl 0 rfl) ?_
      refine lv_lconst (v := 1) hx hb dJ9_floorDiv_f86c9_24 (by decide) ?_
      refine lv_lsub hx hb dJ9_floorDiv_f86c9_25 ?_
      exact W.lret (v := (x1 - 1)) hx hb hr (fun t ht hW => ⟨⟨_, _, rfl, ⟨(by rw [fdv, if_pos ⟨Int64.not_le.mp (fun z => c_10 ((lg_cmp_ge _ _).mpr z)), fun z => c_19 ((lg_cmp_eq _ _).mpr (by rw [ex1]; exact z))⟩, ex1]), rfl⟩, mk_end hG ht⟩, hS.F ht⟩) hS.2.2 dJ9_floorDiv_f86c9_26

set_option maxHeartbeats 4000000 in
set_option maxRecDepth 100000 in
theorem c_cdv (l : Launch) (D : va_G) (cy : Nat → ClassId) (A : Nat → Prop) (X : State → Prop) (hst : mk_St A X) (hXT : ∀ U : State, X U → TB U) (e0 : Nat) (tk : Nat → Nat) (hXE : ∀ U : State, X U → ES e0 tk A U) (G : Nat → Option va_E) (xa xb : Int64)  : Met l yX1_commonDivisor [.code yX1_commonDivisor cX1_commonDivisor 11 (some .long)] ({ frames := 1, cells := 0, slots := 0, locals := 30 }) (mk_Pre D vwCl (tyL cy) A X G [.long xa, .long xb]) (va_Ql (fun (r : Int64) (G2 : Nat → Option va_E) => r = cdv 200 (labs xa) xb ∧ G2 = G) (mk_B D vwCl A) A) 0 0 A := by
  refine Met.ofW (cc := cX1_commonDivisor) (maxL := 11) (ret := (some .long)) (by decide) rfl ?_
  intro p e s m args below meth c s₁ B hml hv
  obtain ⟨rfl, hG, hK, hA, hX⟩ := hv
  have hx := B.exec
  have hb := B.bytes
  have hr := B.returns
  have hlocks := B.notSynchronized
  have hT := hXT s hX
  have hown : s.vm.findClass RX1 = some m.cls := findClass_of_methodNamed B.named
  have hS : va_S A s.heap s.heap [] := va_S.rf
  have hE := hXE s hX
  have hl := lv_entry ([.long xa, .long xb]) (n := 11) (Nat.le_of_ble_eq_true rfl)
  rw [lg_entry_eq]
  generalize (lg_sl ([.long xa, .long xb]) ++ List.replicate (11 - (lg_sl ([.long xa, .long xb])).length) Slot.unset).toArray = ls at hl ⊢
  have hl : lv_has ls 11 [(0, .long xa), (2, .long xb)] := hl
  obtain ⟨RF, hR⟩ : ∃ y, cdv 200 (labs xa) xb = y := ⟨_, rfl⟩
  have hloop : ∀ (n : Nat) (j9 : Nat) (ya yb : Int64), (n + j9 = 200) → (cdv n ya yb = RF) → ∀ (Gv : Nat → Option va_E), (Gv = G) → ∀ (H : Heap) (locs : List Loc), mm D vwCl A Gv H → va_S A s.heap H locs → ∀ ls : Array Slot, lv_has ls 11 [(0, .long xa), (2, .long xb), (4, .long ya), (6, .long yb), (8, .int (nI j9))] → W p l e (headSpec [.code yX1_commonDivisor cX1_commonDivisor 11 (some .long)] ({ frames := 1, cells := 0, slots := 0, locals := 30 })).room s m ([.long xa, .long xb] : List Value).toArray below meth c H locs 0 0 (MQ below (va_Ql (fun (r : Int64) (G2 : Nat → Option va_E) => r = cdv 200 (labs xa) xb ∧ G2 = G) (mk_B D vwCl A) A) ([.long xa, .long xb] : List Value).toArray s 0 0 A) (F0 m 12 ls []) := by
    intro n
    induction n with
    | zero =>
      intro j9 ya yb hjn hq Gv hGv H locs hG hS ls hl
      have hG9 := hG
      have hS9 := hS
      have hl9 := hl
      subst hGv
      have hG := hG9
      have hS := hS9
      have hl := hl9
      refine lv_iload hx hb dX1_commonDivisor_12 (lv_at hl 4 rfl) ?_
      refine lv_sipush (v := 200) hx hb dX1_commonDivisor_14 (by decide) ?_
      refine lv_icmp_ge (tgt := 48) hx hb dX1_commonDivisor_17 (by decide) (fun c_17 => ?_) (fun c_17 => ?_)
      · skip
        refine lv_lload hx hb dX1_commonDivisor_48 (lv_at hl 2 rfl) ?_
        exact W.lret (v := ya) hx hb hr (fun t ht hW => ⟨⟨_, _, rfl, ⟨(by rw [hR, ← hq]; rfl), rfl⟩, mk_end hG ht⟩, hS.F ht⟩) hS.2.2 dX1_commonDivisor_50
      · skip
        exact absurd (by rw [show j9 = 200 by omega]; exact Int32.le_refl _) c_17
    | succ n ih =>
      intro j9 ya yb hjn hq Gv hGv H locs hG hS ls hl
      have hG9 := hG
      have hS9 := hS
      have hl9 := hl
      subst hGv
      have hG := hG9
      have hS := hS9
      have hl := hl9
      refine lv_iload hx hb dX1_commonDivisor_12 (lv_at hl 4 rfl) ?_
      refine lv_sipush (v := 200) hx hb dX1_commonDivisor_14 (by decide) ?_
      refine lv_icmp_ge (tgt := 48) hx hb dX1_commonDivisor_17 (by decide) (fun c_17 => ?_) (fun c_17 => ?_)
      · skip
        exact absurd c_17 (nI_ge (b := 200) (by omega) (by decide))
      · skip
        refine lv_lload hx hb dX1_commonDivisor_20 (lv_at hl 3 rfl) ?_
        refine lv_lconst (v := 0) hx hb dX1_commonDivisor_22 (by decide) ?_
        refine W.lcmp hx hb dX1_commonDivisor_23 ?_
        refine lv_if_eq (tgt := 48) hx hb dX1_commonDivisor_24 (by decide) (fun c_24 => ?_) (fun c_24 => ?_)
        · skip
          refine lv_lload hx hb dX1_commonDivisor_48 (lv_at hl 2 rfl) ?_
          exact W.lret (v := ya) hx hb hr (fun t ht hW => ⟨⟨_, _, rfl, ⟨(by rw [hR, ← hq, cdv, if_pos ((lg_cmp_eq _ _).mp c_24)]), rfl⟩, mk_end hG ht⟩, hS.F ht⟩) hS.2.2 dX1_commonDivisor_50
        · skip
          refine lv_lload hx hb dX1_commonDivisor_27 (lv_at hl 2 rfl) ?_
          refine lv_lload hx hb dX1_commonDivisor_29 (lv_at hl 3 rfl) ?_
          refine lv_lrem hx hb dX1_commonDivisor_31 (fun z => c_24 ((lg_cmp_eq _ _).mpr z)) ?_
          refine lv_topl (fun x22 ex22 => ?_)
          refine lv_lstore (lv' := [(9, .long x22), (0, .long xa), (2, .long xb), (4, .long ya), (6, .long yb), (8, .int (nI j9))]) hx hb dX1_commonDivisor_32 hl (by decide) rfl (fun ls hl => ?_)
          refine lv_lload hx hb dX1_commonDivisor_34 (lv_at hl 4 rfl) ?_
          refine lv_lstore (lv' := [(4, .long yb), (9, .long x22), (0, .long xa), (2, .long xb), (6, .long yb), (8, .int (nI j9))]) hx hb dX1_commonDivisor_36 hl (by decide) rfl (fun ls hl => ?_)
          refine lv_lload hx hb dX1_commonDivisor_38 (lv_at hl 1 rfl) ?_
          refine lv_lstore (lv' := [(6, .long x22), (4, .long yb), (9, .long x22), (0, .long xa), (2, .long xb), (8, .int (nI j9))]) hx hb dX1_commonDivisor_40 hl (by decide) rfl (fun ls hl => ?_)
          obtain ⟨x23, ex23⟩ : ∃ y : Int32, y = (nI j9) + 1 := ⟨_, rfl⟩
          refine lv_iinc (v := x23) (lv' := [(8, .int x23), (6, .long x22), (4, .long yb), (9, .long x22), (0, .long xa), (2, .long xb)]) hx hb dX1_commonDivisor_42 hl (k := 5) rfl (by rw [ex23]; rfl) (by decide) rfl (fun ls hl => ?_)
          refine lv_goto (tgt := 12) hx hb dX1_commonDivisor_45 (by decide) ?_
          rw [show x23 = nI (j9 + 1) by rw [ex23]; exact (nI_succ j9).symm] at hl
          have hq2 : cdv n yb x22 = RF := by rw [← hq, cdv, if_neg (fun z => c_24 ((lg_cmp_eq _ _).mpr z)), ex22]
          exact ih (j9 + 1) yb x22 (by omega) hq2 Gv rfl _ _ hG hS ls (lv_sub hl [4, 5, 2, 1, 0] rfl)
  refine lv_lload_n hx hb dX1_commonDivisor_0 rfl (lv_at hl 0 rfl) ?_
  refine va_calll (va_runS (As := [.long xa]) (rest := []) ⟨hx, hb, hml, hown, (fun _ h9 => absurd h9 List.not_mem_nil : ∀ w ∈ ([] : List Cond), w.before _ s = true)⟩ (c_labs l D cy A X hst hXT e0 tk hXE G xa) (tb_cs 1 hT tw_1165 tw_114 tw_1163 tw_1164 rfl rfl hq_J9_abs_067f4 ⟨Nat.le_of_ble_eq_true rfl, Nat.le_of_ble_eq_true rfl⟩) (mk_preS hst hG hK hA hX hS) rfl rfl hl.1 rfl (lv_room (Nat.le_of_ble_eq_true rfl)) dX1_commonDivisor_1 ⟨Nat.le_of_ble_eq_true rfl, Nat.le_of_ble_eq_true rfl⟩) hS (fun q _ h => h) (fun q h => h) (fun r24 G25 t H locs ht hvm hw hB hz1 hk1 hS => ?_)
  have hG : mm D vwCl A G25 H := by rw [← ht]; exact hB
  clear hB hz1 hk1 hvm ht
  obtain ⟨er24, hw⟩ := hw
  rw [hw] at hG
  refine lv_lstore (lv' := [(4, .long r24), (0, .long xa), (2, .long xb)]) hx hb dX1_commonDivisor_4 hl (by decide) rfl (fun ls hl => ?_)
  refine lv_lload_n hx hb dX1_commonDivisor_6 rfl (lv_at hl 2 rfl) ?_
  refine lv_lstore (lv' := [(6, .long xb), (4, .long r24), (0, .long xa), (2, .long xb)]) hx hb dX1_commonDivisor_7 hl (by decide) rfl (fun ls hl => ?_)
  refine lv_iconst (v := 0) hx hb dX1_commonDivisor_9 (by decide) ?_
  refine lv_istore (lv' := [(8, .int 0), (6, .long xb), (4, .long r24), (0, .long xa), (2, .long xb)]) hx hb dX1_commonDivisor_10 hl (by decide) rfl (fun ls hl => ?_)
  exact hloop 200 0 r24 xb (by omega) (by rw [← hR, er24]) G rfl _ _ hG hS ls (lv_sub hl [3, 4, 2, 1, 0] rfl)

set_option maxHeartbeats 4000000 in
set_option maxRecDepth 100000 in
theorem c_H_abv (l : Launch) (D : va_G) (cy : Nat → ClassId) (A : Nat → Prop) (X : State → Prop) (hst : mk_St A X) (hXT : ∀ U : State, X U → TB U) (e0 : Nat) (tk : Nat → Nat) (hXE : ∀ U : State, X U → ES e0 tk A U) (mi : Nat) (hXL : ∀ U : State, X U → EL e0 mi A U) (ax adK adV : Nat → Nat) (hXX : ∀ U : State, X U → TX ax adK adV tk A U) (G : Nat → Option va_E) (G0 : Nat → Option va_E) (Bx : Nat → Prop) (v : EdV) (z : PtV) (LA EA : Nat → Nat) (AD : Nat → Nat → Nat) (PI : Nat → Nat) (c9 : Nat) (xa : Int64) (hP : EDP cy e0 tk G0 Bx G v z LA EA AD PI) (hc9 : c9 < v.nC) : Met l yX1_above [.code yX1_above cX1_above 5 (some .long)] ({ frames := 2, cells := 0, slots := 0, locals := 60 }) (mk_Pre D vwCl (tyL cy) A X G [.ref (AD 0 c9), .long xa]) (va_Ql (fun (r : Int64) (G2 : Nat → Option va_E) => r = abv ((v.C c9).2.2.2.1) ((v.C c9).2.2.2.2.1) ((v.C c9).2.2.2.2.2) xa ∧ G2 = G) (mk_B D vwCl A) A) 0 0 A := by
  refine Met.ofW (cc := cX1_above) (maxL := 5) (ret := (some .long)) (by decide) rfl ?_
  intro p e s m args below meth c s₁ B hml hv
  obtain ⟨rfl, hG, hK, hA, hX⟩ := hv
  have hx := B.exec
  have hb := B.bytes
  have hr := B.returns
  have hlocks := B.notSynchronized
  have hT := hXT s hX
  have hown : s.vm.findClass RX1 = some m.cls := findClass_of_methodNamed B.named
  have hf_X1 : ∀ w ∈ u_ws RX1 TX1 10, w.before ([.ref (AD 0 c9), .long xa] : List Value).toArray s = true := tb_list hT fX1
  have hS : va_S A s.heap s.heap [] := va_S.rf
  have hE := hXE s hX
  have hl := lv_entry ([.ref (AD 0 c9), .long xa]) (n := 5) (Nat.le_of_ble_eq_true rfl)
  rw [lg_entry_eq]
  generalize (lg_sl ([.ref (AD 0 c9), .long xa]) ++ List.replicate (5 - (lg_sl ([.ref (AD 0 c9), .long xa])).length) Slot.unset).toArray = ls at hl ⊢
  have hl : lv_has ls 5 [(0, .ref (AD 0 c9)), (1, .long xa)] := hl
  have hQ := hXX s hX
  refine lv_aload_n hx hb dX1_above_0 rfl (lv_at hl 0 rfl) ?_
  refine lv_lload_n hx hb dX1_above_1 rfl (lv_at hl 1 rfl) ?_
  have k21 : G (AD 0 c9) = some (.inr (2, [.int (nI (c9 + 1)), .int ((v.C c9).1.1), .long ((v.C c9).1.2.1), .ref (LA (6 + c9)), .int ((v.C c9).1.2.2), .int ((v.C c9).2.1), .int ((v.C c9).2.2.1), .long ((v.C c9).2.2.2.1), .long ((v.C c9).2.2.2.2.1), .long ((v.C c9).2.2.2.2.2)])) := hP.elC hc9
  refine va_calll (va_runV (As := [.long xa]) (rest := []) ⟨hx, hb, hml, hown, (fun _ h9 => absurd h9 List.not_mem_nil : ∀ w ∈ ([] : List Cond), w.before _ s = true)⟩ (c_X1_whole l D cy A X hst hXT e0 tk hXE G (AD 0 c9) (LA (6 + c9)) (nI (c9 + 1)) ((v.C c9).1.1) ((v.C c9).1.2.2) ((v.C c9).2.1) ((v.C c9).2.2.1) ((v.C c9).1.2.1) ((v.C c9).2.2.2.1) ((v.C c9).2.2.2.2.1) ((v.C c9).2.2.2.2.2) xa k21) (tb_cw (C := RX1) 1 hT tw_1159 tw_122 tw_1156 tw_1158 tw_50 rfl rfl hq_X1_whole ⟨Nat.le_of_ble_eq_true rfl, Nat.le_of_ble_eq_true rfl⟩) (mk_preC hst hG hK hA hX hS vc_2 k21) rfl rfl hl.1 rfl (lv_room (Nat.le_of_ble_eq_true rfl)) dX1_above_2 ⟨Nat.le_of_ble_eq_true rfl, Nat.le_of_ble_eq_true rfl⟩) hS (fun q _ h => h) (fun q h => h) (fun r22 G23 t H locs ht hvm hw hB hz1 hk1 hS => ?_)
  have hG : mm D vwCl A G23 H := by rw [← ht]; exact hB
  clear hB hz1 hk1 hvm ht
  obtain ⟨er22, hw⟩ := hw
  rw [hw] at hG
  refine lv_aload_n hx hb dX1_above_5 rfl (lv_at hl 0 rfl) ?_
  refine mm_get (v := .long ((v.C c9).2.2.2.2.1)) hx hb hf_X1 (fun _ h9 => h9) hown hK hG k21 rfl 8 (by decide) (tb_use hT tw_509) (fun _ h9 => h9) rfl dX1_above_6 ?_
  refine va_calll (va_runS (As := [.long r22, .long ((v.C c9).2.2.2.2.1)]) (rest := []) ⟨hx, hb, hml, hown, (fun _ h9 => absurd h9 List.not_mem_nil : ∀ w ∈ ([] : List Cond), w.before _ s = true)⟩ (c_cdv l D cy A X hst hXT e0 tk hXE G r22 ((v.C c9).2.2.2.2.1)) (tb_cs 2 hT tw_1162 tw_122 tw_1160 tw_1161 rfl rfl hq_X1_commonDivisor ⟨Nat.le_of_ble_eq_true rfl, Nat.le_of_ble_eq_true rfl⟩) (mk_preS hst hG hK hA hX hS) rfl rfl hl.1 rfl (lv_room (Nat.le_of_ble_eq_true rfl)) dX1_above_9 ⟨Nat.le_of_ble_eq_true rfl, Nat.le_of_ble_eq_true rfl⟩) hS (fun q _ h => h) (fun q h => h) (fun r24 G25 t H locs ht hvm hw hB hz1 hk1 hS => ?_)
  have hG : mm D vwCl A G25 H := by rw [← ht]; exact hB
  clear hB hz1 hk1 hvm ht
  obtain ⟨er24, hw⟩ := hw
  rw [hw] at hG
  refine lv_lstore_n (lv' := [(3, .long r24), (0, .ref (AD 0 c9)), (1, .long xa)]) hx hb dX1_above_12 rfl hl (by decide) rfl (fun ls hl => ?_)
  refine lv_lload_n hx hb dX1_above_13 rfl (lv_at hl 0 rfl) ?_
  refine lv_lconst (v := 0) hx hb dX1_above_14 (by decide) ?_
  refine W.lcmp hx hb dX1_above_15 ?_
  refine lv_if_ne (tgt := 23) hx hb dX1_above_16 (by decide) (fun c_16 => ?_) (fun c_16 => ?_)
  · skip
    refine lv_aload_n hx hb dX1_above_23 rfl (lv_at hl 1 rfl) ?_
    refine lv_lload_n hx hb dX1_above_24 rfl (lv_at hl 2 rfl) ?_
    refine va_calll (va_runV (As := [.long xa]) (rest := []) ⟨hx, hb, hml, hown, (fun _ h9 => absurd h9 List.not_mem_nil : ∀ w ∈ ([] : List Cond), w.before _ s = true)⟩ (c_X1_whole l D cy A X hst hXT e0 tk hXE G (AD 0 c9) (LA (6 + c9)) (nI (c9 + 1)) ((v.C c9).1.1) ((v.C c9).1.2.2) ((v.C c9).2.1) ((v.C c9).2.2.1) ((v.C c9).1.2.1) ((v.C c9).2.2.2.1) ((v.C c9).2.2.2.2.1) ((v.C c9).2.2.2.2.2) xa k21) (tb_cw (C := RX1) 1 hT tw_1159 tw_122 tw_1156 tw_1158 tw_50 rfl rfl hq_X1_whole ⟨Nat.le_of_ble_eq_true rfl, Nat.le_of_ble_eq_true rfl⟩) (mk_preC hst hG hK hA hX hS vc_2 k21) rfl rfl hl.1 rfl (lv_room (Nat.le_of_ble_eq_true rfl)) dX1_above_25 ⟨Nat.le_of_ble_eq_true rfl, Nat.le_of_ble_eq_true rfl⟩) hS (fun q _ h => h) (fun q h => h) (fun r27 G28 t H locs ht hvm hw hB hz1 hk1 hS => ?_)
    have hG : mm D vwCl A G28 H := by rw [← ht]; exact hB
    clear hB hz1 hk1 hvm ht
    obtain ⟨er27, hw⟩ := hw
    rw [hw] at hG
    refine lv_lload_n hx hb dX1_above_28 rfl (lv_at hl 0 rfl) ?_
    refine lv_ldiv hx hb dX1_above_29 (fun z => c_16 ((lg_cmp_eq _ _).mpr z)) ?_
    refine lv_topl (fun x29 ex29 => ?_)
    have hd9 : r24 = cdv 200 (labs (cWh ((v.C c9).2.2.2.1) ((v.C c9).2.2.2.2.1) ((v.C c9).2.2.2.2.2) xa)) ((v.C c9).2.2.2.2.1) := by rw [er24, er22]
    exact W.lret (v := x29) hx hb hr (fun t ht hW => ⟨⟨_, _, rfl, ⟨(by rw [abv, if_neg (fun z => c_16 ((lg_cmp_eq _ _).mpr (by rw [hd9]; exact z))), ex29, hd9, er27]), rfl⟩, mk_end hG ht⟩, hS.F ht⟩) hS.2.2 dX1_above_30
  · skip
    refine lv_lconst (v := 0) hx hb dX1_above_19 (by decide) ?_
    refine lv_goto (tgt := 30) hx hb dX1_above_20 (by decide) ?_
    have hd9 : r24 = cdv 200 (labs (cWh ((v.C c9).2.2.2.1) ((v.C c9).2.2.2.2.1) ((v.C c9).2.2.2.2.2) xa)) ((v.C c9).2.2.2.2.1) := by rw [er24, er22]
    exact W.lret (v := 0) hx hb hr (fun t ht hW => ⟨⟨_, _, rfl, ⟨(by rw [abv, if_pos (by rw [← hd9]; exact (lg_cmp_eq _ _).mp c_16)]), rfl⟩, mk_end hG ht⟩, hS.F ht⟩) hS.2.2 dX1_above_30

set_option maxHeartbeats 4000000 in
set_option maxRecDepth 100000 in
theorem c_H_blw (l : Launch) (D : va_G) (cy : Nat → ClassId) (A : Nat → Prop) (X : State → Prop) (hst : mk_St A X) (hXT : ∀ U : State, X U → TB U) (e0 : Nat) (tk : Nat → Nat) (hXE : ∀ U : State, X U → ES e0 tk A U) (mi : Nat) (hXL : ∀ U : State, X U → EL e0 mi A U) (ax adK adV : Nat → Nat) (hXX : ∀ U : State, X U → TX ax adK adV tk A U) (G : Nat → Option va_E) (G0 : Nat → Option va_E) (Bx : Nat → Prop) (v : EdV) (z : PtV) (LA EA : Nat → Nat) (AD : Nat → Nat → Nat) (PI : Nat → Nat) (c9 : Nat) (xa : Int64) (hP : EDP cy e0 tk G0 Bx G v z LA EA AD PI) (hc9 : c9 < v.nC) : Met l yX1_below [.code yX1_below cX1_below 5 (some .long)] ({ frames := 2, cells := 0, slots := 0, locals := 60 }) (mk_Pre D vwCl (tyL cy) A X G [.ref (AD 0 c9), .long xa]) (va_Ql (fun (r : Int64) (G2 : Nat → Option va_E) => r = blw ((v.C c9).2.2.2.1) ((v.C c9).2.2.2.2.1) ((v.C c9).2.2.2.2.2) xa ∧ G2 = G) (mk_B D vwCl A) A) 0 0 A := by
  refine Met.ofW (cc := cX1_below) (maxL := 5) (ret := (some .long)) (by decide) rfl ?_
  intro p e s m args below meth c s₁ B hml hv
  obtain ⟨rfl, hG, hK, hA, hX⟩ := hv
  have hx := B.exec
  have hb := B.bytes
  have hr := B.returns
  have hlocks := B.notSynchronized
  have hT := hXT s hX
  have hown : s.vm.findClass RX1 = some m.cls := findClass_of_methodNamed B.named
  have hf_X1 : ∀ w ∈ u_ws RX1 TX1 10, w.before ([.ref (AD 0 c9), .long xa] : List Value).toArray s = true := tb_list hT fX1
  have hS : va_S A s.heap s.heap [] := va_S.rf
  have hE := hXE s hX
  have hl := lv_entry ([.ref (AD 0 c9), .long xa]) (n := 5) (Nat.le_of_ble_eq_true rfl)
  rw [lg_entry_eq]
  generalize (lg_sl ([.ref (AD 0 c9), .long xa]) ++ List.replicate (5 - (lg_sl ([.ref (AD 0 c9), .long xa])).length) Slot.unset).toArray = ls at hl ⊢
  have hl : lv_has ls 5 [(0, .ref (AD 0 c9)), (1, .long xa)] := hl
  have hQ := hXX s hX
  refine lv_aload_n hx hb dX1_below_0 rfl (lv_at hl 0 rfl) ?_
  refine lv_lload_n hx hb dX1_below_1 rfl (lv_at hl 1 rfl) ?_
  have k21 : G (AD 0 c9) = some (.inr (2, [.int (nI (c9 + 1)), .int ((v.C c9).1.1), .long ((v.C c9).1.2.1), .ref (LA (6 + c9)), .int ((v.C c9).1.2.2), .int ((v.C c9).2.1), .int ((v.C c9).2.2.1), .long ((v.C c9).2.2.2.1), .long ((v.C c9).2.2.2.2.1), .long ((v.C c9).2.2.2.2.2)])) := hP.elC hc9
  refine va_calll (va_runV (As := [.long xa]) (rest := []) ⟨hx, hb, hml, hown, (fun _ h9 => absurd h9 List.not_mem_nil : ∀ w ∈ ([] : List Cond), w.before _ s = true)⟩ (c_X1_whole l D cy A X hst hXT e0 tk hXE G (AD 0 c9) (LA (6 + c9)) (nI (c9 + 1)) ((v.C c9).1.1) ((v.C c9).1.2.2) ((v.C c9).2.1) ((v.C c9).2.2.1) ((v.C c9).1.2.1) ((v.C c9).2.2.2.1) ((v.C c9).2.2.2.2.1) ((v.C c9).2.2.2.2.2) xa k21) (tb_cw (C := RX1) 1 hT tw_1159 tw_122 tw_1156 tw_1158 tw_50 rfl rfl hq_X1_whole ⟨Nat.le_of_ble_eq_true rfl, Nat.le_of_ble_eq_true rfl⟩) (mk_preC hst hG hK hA hX hS vc_2 k21) rfl rfl hl.1 rfl (lv_room (Nat.le_of_ble_eq_true rfl)) dX1_below_2 ⟨Nat.le_of_ble_eq_true rfl, Nat.le_of_ble_eq_true rfl⟩) hS (fun q _ h => h) (fun q h => h) (fun r22 G23 t H locs ht hvm hw hB hz1 hk1 hS => ?_)
  have hG : mm D vwCl A G23 H := by rw [← ht]; exact hB
  clear hB hz1 hk1 hvm ht
  obtain ⟨er22, hw⟩ := hw
  rw [hw] at hG
  refine lv_aload_n hx hb dX1_below_5 rfl (lv_at hl 0 rfl) ?_
  refine mm_get (v := .long ((v.C c9).2.2.2.2.1)) hx hb hf_X1 (fun _ h9 => h9) hown hK hG k21 rfl 8 (by decide) (tb_use hT tw_509) (fun _ h9 => h9) rfl dX1_below_6 ?_
  refine va_calll (va_runS (As := [.long r22, .long ((v.C c9).2.2.2.2.1)]) (rest := []) ⟨hx, hb, hml, hown, (fun _ h9 => absurd h9 List.not_mem_nil : ∀ w ∈ ([] : List Cond), w.before _ s = true)⟩ (c_cdv l D cy A X hst hXT e0 tk hXE G r22 ((v.C c9).2.2.2.2.1)) (tb_cs 2 hT tw_1162 tw_122 tw_1160 tw_1161 rfl rfl hq_X1_commonDivisor ⟨Nat.le_of_ble_eq_true rfl, Nat.le_of_ble_eq_true rfl⟩) (mk_preS hst hG hK hA hX hS) rfl rfl hl.1 rfl (lv_room (Nat.le_of_ble_eq_true rfl)) dX1_below_9 ⟨Nat.le_of_ble_eq_true rfl, Nat.le_of_ble_eq_true rfl⟩) hS (fun q _ h => h) (fun q h => h) (fun r24 G25 t H locs ht hvm hw hB hz1 hk1 hS => ?_)
  have hG : mm D vwCl A G25 H := by rw [← ht]; exact hB
  clear hB hz1 hk1 hvm ht
  obtain ⟨er24, hw⟩ := hw
  rw [hw] at hG
  refine lv_lstore_n (lv' := [(3, .long r24), (0, .ref (AD 0 c9)), (1, .long xa)]) hx hb dX1_below_12 rfl hl (by decide) rfl (fun ls hl => ?_)
  refine lv_lload_n hx hb dX1_below_13 rfl (lv_at hl 0 rfl) ?_
  refine lv_lconst (v := 0) hx hb dX1_below_14 (by decide) ?_
  refine W.lcmp hx hb dX1_below_15 ?_
  refine lv_if_ne (tgt := 23) hx hb dX1_below_16 (by decide) (fun c_16 => ?_) (fun c_16 => ?_)
  · skip
    refine lv_aload_n hx hb dX1_below_23 rfl (lv_at hl 1 rfl) ?_
    refine mm_get (v := .long ((v.C c9).2.2.2.2.1)) hx hb hf_X1 (fun _ h9 => h9) hown hK hG k21 rfl 8 (by decide) (tb_use hT tw_509) (fun _ h9 => h9) rfl dX1_below_24 ?_
    refine lv_lload_n hx hb dX1_below_27 rfl (lv_at hl 0 rfl) ?_
    refine lv_ldiv hx hb dX1_below_28 (fun z => c_16 ((lg_cmp_eq _ _).mpr z)) ?_
    refine lv_topl (fun x27 ex27 => ?_)
    have hd9 : r24 = cdv 200 (labs (cWh ((v.C c9).2.2.2.1) ((v.C c9).2.2.2.2.1) ((v.C c9).2.2.2.2.2) xa)) ((v.C c9).2.2.2.2.1) := by rw [er24, er22]
    exact W.lret (v := x27) hx hb hr (fun t ht hW => ⟨⟨_, _, rfl, ⟨(by rw [blw, if_neg (fun z => c_16 ((lg_cmp_eq _ _).mpr (by rw [hd9]; exact z))), ex27, hd9]), rfl⟩, mk_end hG ht⟩, hS.F ht⟩) hS.2.2 dX1_below_29
  · skip
    refine lv_lconst (v := 0) hx hb dX1_below_19 (by decide) ?_
    refine lv_goto (tgt := 29) hx hb dX1_below_20 (by decide) ?_
    have hd9 : r24 = cdv 200 (labs (cWh ((v.C c9).2.2.2.1) ((v.C c9).2.2.2.2.1) ((v.C c9).2.2.2.2.2) xa)) ((v.C c9).2.2.2.2.1) := by rw [er24, er22]
    exact W.lret (v := 0) hx hb hr (fun t ht hW => ⟨⟨_, _, rfl, ⟨(by rw [blw, if_pos (by rw [← hd9]; exact (lg_cmp_eq _ _).mp c_16)]), rfl⟩, mk_end hG ht⟩, hS.F ht⟩) hS.2.2 dX1_below_29

set_option maxHeartbeats 4000000 in
set_option maxRecDepth 100000 in
theorem c_H_flr (l : Launch) (D : va_G) (cy : Nat → ClassId) (A : Nat → Prop) (X : State → Prop) (hst : mk_St A X) (hXT : ∀ U : State, X U → TB U) (e0 : Nat) (tk : Nat → Nat) (hXE : ∀ U : State, X U → ES e0 tk A U) (mi : Nat) (hXL : ∀ U : State, X U → EL e0 mi A U) (ax adK adV : Nat → Nat) (hXX : ∀ U : State, X U → TX ax adK adV tk A U) (G : Nat → Option va_E) (G0 : Nat → Option va_E) (Bx : Nat → Prop) (v : EdV) (z : PtV) (LA EA : Nat → Nat) (AD : Nat → Nat → Nat) (PI : Nat → Nat) (c9 : Nat) (xa : Int64) (hP : EDP cy e0 tk G0 Bx G v z LA EA AD PI) (hc9 : c9 < v.nC) : Met l yX1_floor [.code yX1_floor cX1_floor 3 (some .long)] ({ frames := 1, cells := 0, slots := 0, locals := 30 }) (mk_Pre D vwCl (tyL cy) A X G [.ref (AD 0 c9), .long xa]) (va_Ql (fun (r : Int64) (G2 : Nat → Option va_E) => r = flr ((v.C c9).2.2.2.1) ((v.C c9).2.2.2.2.1) ((v.C c9).2.2.2.2.2) xa ∧ G2 = G) (mk_B D vwCl A) A) 0 0 A := by
  refine Met.ofW (cc := cX1_floor) (maxL := 3) (ret := (some .long)) (by decide) rfl ?_
  intro p e s m args below meth c s₁ B hml hv
  obtain ⟨rfl, hG, hK, hA, hX⟩ := hv
  have hx := B.exec
  have hb := B.bytes
  have hr := B.returns
  have hlocks := B.notSynchronized
  have hT := hXT s hX
  have hown : s.vm.findClass RX1 = some m.cls := findClass_of_methodNamed B.named
  have hf_X1 : ∀ w ∈ u_ws RX1 TX1 10, w.before ([.ref (AD 0 c9), .long xa] : List Value).toArray s = true := tb_list hT fX1
  have hS : va_S A s.heap s.heap [] := va_S.rf
  have hE := hXE s hX
  have hl := lv_entry ([.ref (AD 0 c9), .long xa]) (n := 3) (Nat.le_of_ble_eq_true rfl)
  rw [lg_entry_eq]
  generalize (lg_sl ([.ref (AD 0 c9), .long xa]) ++ List.replicate (3 - (lg_sl ([.ref (AD 0 c9), .long xa])).length) Slot.unset).toArray = ls at hl ⊢
  have hl : lv_has ls 3 [(0, .ref (AD 0 c9)), (1, .long xa)] := hl
  have hQ := hXX s hX
  refine lv_aload_n hx hb dX1_floor_0 rfl (lv_at hl 0 rfl) ?_
  have k21 : G (AD 0 c9) = some (.inr (2, [.int (nI (c9 + 1)), .int ((v.C c9).1.1), .long ((v.C c9).1.2.1), .ref (LA (6 + c9)), .int ((v.C c9).1.2.2), .int ((v.C c9).2.1), .int ((v.C c9).2.2.1), .long ((v.C c9).2.2.2.1), .long ((v.C c9).2.2.2.2.1), .long ((v.C c9).2.2.2.2.2)])) := hP.elC hc9
  refine mm_get (v := .long ((v.C c9).2.2.2.2.1)) hx hb hf_X1 (fun _ h9 => h9) hown hK hG k21 rfl 8 (by decide) (tb_use hT tw_509) (fun _ h9 => h9) rfl dX1_floor_1 ?_
  refine lv_lconst (v := 0) hx hb dX1_floor_4 (by decide) ?_
  refine W.lcmp hx hb dX1_floor_5 ?_
  refine lv_if_ne (tgt := 13) hx hb dX1_floor_6 (by decide) (fun c_6 => ?_) (fun c_6 => ?_)
  · skip
    have hov : (v.C c9).2.2.2.2.1 ≠ 0 := fun z => c_6 ((lg_cmp_eq _ _).mpr z)
    refine lv_aload_n hx hb dX1_floor_13 rfl (lv_at hl 0 rfl) ?_
    refine lv_lload_n hx hb dX1_floor_14 rfl (lv_at hl 1 rfl) ?_
    refine va_calll (va_runV (As := [.long xa]) (rest := []) ⟨hx, hb, hml, hown, (fun _ h9 => absurd h9 List.not_mem_nil : ∀ w ∈ ([] : List Cond), w.before _ s = true)⟩ (c_X1_whole l D cy A X hst hXT e0 tk hXE G (AD 0 c9) (LA (6 + c9)) (nI (c9 + 1)) ((v.C c9).1.1) ((v.C c9).1.2.2) ((v.C c9).2.1) ((v.C c9).2.2.1) ((v.C c9).1.2.1) ((v.C c9).2.2.2.1) ((v.C c9).2.2.2.2.1) ((v.C c9).2.2.2.2.2) xa k21) (tb_cw (C := RX1) 1 hT tw_1159 tw_122 tw_1156 tw_1158 tw_50 rfl rfl hq_X1_whole ⟨Nat.le_of_ble_eq_true rfl, Nat.le_of_ble_eq_true rfl⟩) (mk_preC hst hG hK hA hX hS vc_2 k21) rfl rfl hl.1 rfl (lv_room (Nat.le_of_ble_eq_true rfl)) dX1_floor_15 ⟨Nat.le_of_ble_eq_true rfl, Nat.le_of_ble_eq_true rfl⟩) hS (fun q _ h => h) (fun q h => h) (fun r23 G24 t H locs ht hvm hw hB hz1 hk1 hS => ?_)
    have hG : mm D vwCl A G24 H := by rw [← ht]; exact hB
    clear hB hz1 hk1 hvm ht
    obtain ⟨er23, hw⟩ := hw
    rw [hw] at hG
    refine lv_aload_n hx hb dX1_floor_18 rfl (lv_at hl 0 rfl) ?_
    refine mm_get (v := .long ((v.C c9).2.2.2.2.1)) hx hb hf_X1 (fun _ h9 => h9) hown hK hG k21 rfl 8 (by decide) (tb_use hT tw_509) (fun _ h9 => h9) rfl dX1_floor_19 ?_
    refine va_calll (va_runS (As := [.long r23, .long ((v.C c9).2.2.2.2.1)]) (rest := []) ⟨hx, hb, hml, hown, (fun _ h9 => absurd h9 List.not_mem_nil : ∀ w ∈ ([] : List Cond), w.before _ s = true)⟩ (c_fdv l D cy A X hst hXT e0 tk hXE G r23 ((v.C c9).2.2.2.2.1) hov) (tb_cs 2 hT tw_1268 tw_114 tw_1266 tw_1267 rfl rfl hq_J9_floorDiv_f86c9 ⟨Nat.le_of_ble_eq_true rfl, Nat.le_of_ble_eq_true rfl⟩) (mk_preS hst hG hK hA hX hS) rfl rfl hl.1 rfl (lv_room (Nat.le_of_ble_eq_true rfl)) dX1_floor_22 ⟨Nat.le_of_ble_eq_true rfl, Nat.le_of_ble_eq_true rfl⟩) hS (fun q _ h => h) (fun q h => h) (fun r25 G26 t H locs ht hvm hw hB hz1 hk1 hS => ?_)
    have hG : mm D vwCl A G26 H := by rw [← ht]; exact hB
    clear hB hz1 hk1 hvm ht
    obtain ⟨er25, hw⟩ := hw
    rw [hw] at hG
    exact W.lret (v := r25) hx hb hr (fun t ht hW => ⟨⟨_, _, rfl, ⟨(by rw [flr, if_neg (fun z => c_6 ((lg_cmp_eq _ _).mpr z)), er25, er23]), rfl⟩, mk_end hG ht⟩, hS.F ht⟩) hS.2.2 dX1_floor_25
  · skip
    refine lv_lconst (v := 0) hx hb dX1_floor_9 (by decide) ?_
    refine lv_goto (tgt := 25) hx hb dX1_floor_10 (by decide) ?_
    exact W.lret (v := 0) hx hb hr (fun t ht hW => ⟨⟨_, _, rfl, ⟨(by rw [flr, if_pos ((lg_cmp_eq _ _).mp c_6)]), rfl⟩, mk_end hG ht⟩, hS.F ht⟩) hS.2.2 dX1_floor_25

set_option maxHeartbeats 4000000 in
set_option maxRecDepth 100000 in
theorem c_H_rowName (l : Launch) (D : va_G) (cy : Nat → ClassId) (A : Nat → Prop) (X : State → Prop) (hst : mk_St A X) (hXT : ∀ U : State, X U → TB U) (e0 : Nat) (tk : Nat → Nat) (hXE : ∀ U : State, X U → ES e0 tk A U) (mi : Nat) (hXL : ∀ U : State, X U → EL e0 mi A U) (ax adK adV : Nat → Nat) (hXX : ∀ U : State, X U → TX ax adK adV tk A U) (G : Nat → Option va_E) (G0 : Nat → Option va_E) (Bx : Nat → Prop) (v : EdV) (z : PtV) (LA EA : Nat → Nat) (AD : Nat → Nat → Nat) (PI : Nat → Nat) (c9 : Nat) (xa : Int64) (hP : EDP cy e0 tk G0 Bx G v z LA EA AD PI) (hc9 : c9 < v.nC) : Met l yX1_rowName [.code yX1_rowName cX1_rowName 4 (some .long)] ({ frames := 4, cells := 0, slots := 0, locals := 120 }) (mk_Pre D vwCl (tyL cy) A X G [.ref (AD 0 c9), .long xa]) (va_Ql (fun (r : Int64) (G2 : Nat → Option va_E) => r = (match fnR v c9 xa with | none => 0 | some j => (v.R c9 j).2.2.1) ∧ G2 = G) (mk_B D vwCl A) A) 0 0 A := by
  refine Met.ofW (cc := cX1_rowName) (maxL := 4) (ret := (some .long)) (by decide) rfl ?_
  intro p e s m args below meth c s₁ B hml hv
  obtain ⟨rfl, hG, hK, hA, hX⟩ := hv
  have hx := B.exec
  have hb := B.bytes
  have hr := B.returns
  have hlocks := B.notSynchronized
  have hT := hXT s hX
  have hown : s.vm.findClass RX1 = some m.cls := findClass_of_methodNamed B.named
  have hf_X1 : ∀ w ∈ u_ws RX1 TX1 10, w.before ([.ref (AD 0 c9), .long xa] : List Value).toArray s = true := tb_list hT fX1
  have hf_X3 : ∀ w ∈ u_ws RX3 TX3 5, w.before ([.ref (AD 0 c9), .long xa] : List Value).toArray s = true := tb_list hT fX3
  have hS : va_S A s.heap s.heap [] := va_S.rf
  have hE := hXE s hX
  have hl := lv_entry ([.ref (AD 0 c9), .long xa]) (n := 4) (Nat.le_of_ble_eq_true rfl)
  rw [lg_entry_eq]
  generalize (lg_sl ([.ref (AD 0 c9), .long xa]) ++ List.replicate (4 - (lg_sl ([.ref (AD 0 c9), .long xa])).length) Slot.unset).toArray = ls at hl ⊢
  have hl : lv_has ls 4 [(0, .ref (AD 0 c9)), (1, .long xa)] := hl
  have hQ := hXX s hX
  refine lv_aload_n hx hb dX1_rowName_0 rfl (lv_at hl 0 rfl) ?_
  have k21 : G (AD 0 c9) = some (.inr (2, [.int (nI (c9 + 1)), .int ((v.C c9).1.1), .long ((v.C c9).1.2.1), .ref (LA (6 + c9)), .int ((v.C c9).1.2.2), .int ((v.C c9).2.1), .int ((v.C c9).2.2.1), .long ((v.C c9).2.2.2.1), .long ((v.C c9).2.2.2.2.1), .long ((v.C c9).2.2.2.2.2)])) := hP.elC hc9
  refine mm_get (v := .ref (LA (6 + c9))) hx hb hf_X1 (fun _ h9 => h9) hown hK hG k21 rfl 3 (by decide) (tb_use hT tw_497) (fun _ h9 => h9) rfl dX1_rowName_1 ?_
  refine lv_lload_n hx hb dX1_rowName_4 rfl (lv_at hl 1 rfl) ?_
  refine va_callq (va_runSN (As := [.ref (LA (6 + c9)), .long xa]) (rest := []) ⟨hx, hb, hml, hown, (fun _ h9 => absurd h9 List.not_mem_nil : ∀ w ∈ ([] : List Cond), w.before _ s = true)⟩ (c_X13_firstWithNumber l D cy A X hst hXT e0 tk hXE mi hXL G (LA (6 + c9)) (EA (6 + c9)) (v.nR c9) (AD (6 + c9)) (fun j => enF (v.R c9 j) none) (fun j => (v.R c9 j).1) xa (hP.lsR hc9) (by have := (hP.lsR hc9).le; omega) (fun j hj => ⟨(hP.nmR hc9 j hj).1, (hP.nmR hc9 j hj).2.1⟩)) ⟨tb_cn (host := "DescribeText") 2 hT tw_1030 tw_105 tw_1174 rfl rfl hq_X13_firstWithNumber ⟨Nat.le_of_ble_eq_true rfl, Nat.le_of_ble_eq_true rfl⟩, (tb_use hT tw_1029), trivial⟩ (mk_preS hst hG hK hA hX hS) rfl rfl hl.1 rfl (lv_room (Nat.le_of_ble_eq_true rfl)) dX1_rowName_5 ⟨Nat.le_of_ble_eq_true rfl, Nat.le_of_ble_eq_true rfl⟩) hS (fun q _ h => h) (fun q h => h) (fun r22 G23 t H locs ht hvm hw hB hz1 hk1 hS => ?_)
  have hG : mm D vwCl A G23 H := by rw [← ht]; exact hB
  clear hB hz1 hk1 hvm ht
  obtain ⟨er22, hw⟩ := hw
  rw [hw] at hG
  have fr22 : r22 = (fnR v c9 xa).map (AD (6 + c9)) := er22
  rw [fr22]
  obtain ⟨y_hf24, hf24⟩ : ∃ y, fnR v c9 xa = y := ⟨_, rfl⟩
  cases y_hf24 with
  | none =>
    refine W.eq (g2 := F0 m 8 ls [.null]) (by first | rfl | (rw [hf24]; rfl)) ?_
    refine lv_astore_nN (lv' := [(3, .null), (0, .ref (AD 0 c9)), (1, .long xa)]) hx hb dX1_rowName_8 rfl hl (by decide) rfl (fun ls hl => ?_)
    refine lv_aload_nN hx hb dX1_rowName_9 rfl (lv_at hl 0 rfl) ?_
    refine lv_ifnonnullN hx hb dX1_rowName_10 ?_
    refine lv_lconst (v := 0) hx hb dX1_rowName_13 (by decide) ?_
    refine lv_goto (tgt := 21) hx hb dX1_rowName_14 (by decide) ?_
    exact W.lret (v := 0) hx hb hr (fun t ht hW => ⟨⟨_, _, rfl, ⟨(by rw [hf24]), rfl⟩, mk_end hG ht⟩, hS.F ht⟩) hS.2.2 dX1_rowName_21
  | some j25 =>
    have hj26 := fnR_lt hf24
    refine W.eq (g2 := F0 m 8 ls [.ref (AD (6 + c9) j25)]) (by first | rfl | (rw [hf24]; rfl)) ?_
    refine lv_astore_n (lv' := [(3, .ref (AD (6 + c9) j25)), (0, .ref (AD 0 c9)), (1, .long xa)]) hx hb dX1_rowName_8 rfl hl (by decide) rfl (fun ls hl => ?_)
    refine lv_aload_n hx hb dX1_rowName_9 rfl (lv_at hl 0 rfl) ?_
    refine lv_ifnonnull (tgt := 17) hx hb dX1_rowName_10 (by decide) ?_
    refine lv_aload_n hx hb dX1_rowName_17 rfl (lv_at hl 0 rfl) ?_
    have k27 : G (AD (6 + c9) j25) = some (.inr (4, [.int ((v.R c9 j25).1), .int ((v.R c9 j25).2.1), .long ((v.R c9 j25).2.2.1), .int ((v.R c9 j25).2.2.2), .null])) := hP.elR hc9 hj26
    refine mm_getN (v := .long ((v.R c9 j25).2.2.1)) hx hb hf_X3 (fun _ h9 => h9) hown hK hG k27 rfl 2 (by decide) (tb_use hT tw_566) (fun _ h9 => h9) rfl dX1_rowName_18 ?_
    exact W.lret (v := (v.R c9 j25).2.2.1) hx hb hr (fun t ht hW => ⟨⟨_, _, rfl, ⟨(by rw [hf24]), rfl⟩, mk_end hG ht⟩, hS.F ht⟩) hS.2.2 dX1_rowName_21

set_option maxHeartbeats 4000000 in
set_option maxRecDepth 100000 in
theorem c_H_rawFor (l : Launch) (D : va_G) (cy : Nat → ClassId) (A : Nat → Prop) (X : State → Prop) (hst : mk_St A X) (hXT : ∀ U : State, X U → TB U) (e0 : Nat) (tk : Nat → Nat) (hXE : ∀ U : State, X U → ES e0 tk A U) (mi : Nat) (hXL : ∀ U : State, X U → EL e0 mi A U) (ax adK adV : Nat → Nat) (hXX : ∀ U : State, X U → TX ax adK adV tk A U) (G : Nat → Option va_E) (G0 : Nat → Option va_E) (Bx : Nat → Prop) (v : EdV) (z : PtV) (LA EA : Nat → Nat) (AD : Nat → Nat → Nat) (PI : Nat → Nat) (c9 : Nat) (xa : Int64) (hP : EDP cy e0 tk G0 Bx G v z LA EA AD PI) (hc9 : c9 < v.nC) : Met l yX1_rawFor [.code yX1_rawFor cX1_rawFor 9 (some .long)] ({ frames := 1, cells := 0, slots := 0, locals := 30 }) (mk_Pre D vwCl (tyL cy) A X G [.ref (AD 0 c9), .long xa]) (va_Ql (fun (r : Int64) (G2 : Nat → Option va_E) => r = rwF ((v.C c9).2.1) ((v.C c9).1.2.2) ((v.C c9).2.2.2.1) ((v.C c9).2.2.2.2.1) ((v.C c9).2.2.2.2.2) xa ∧ G2 = G) (mk_B D vwCl A) A) 0 0 A := by
  refine Met.ofW (cc := cX1_rawFor) (maxL := 9) (ret := (some .long)) (by decide) rfl ?_
  intro p e s m args below meth c s₁ B hml hv
  obtain ⟨rfl, hG, hK, hA, hX⟩ := hv
  have hx := B.exec
  have hb := B.bytes
  have hr := B.returns
  have hlocks := B.notSynchronized
  have hT := hXT s hX
  have hown : s.vm.findClass RX1 = some m.cls := findClass_of_methodNamed B.named
  have hf_X1 : ∀ w ∈ u_ws RX1 TX1 10, w.before ([.ref (AD 0 c9), .long xa] : List Value).toArray s = true := tb_list hT fX1
  have hS : va_S A s.heap s.heap [] := va_S.rf
  have hE := hXE s hX
  have hl := lv_entry ([.ref (AD 0 c9), .long xa]) (n := 9) (Nat.le_of_ble_eq_true rfl)
  rw [lg_entry_eq]
  generalize (lg_sl ([.ref (AD 0 c9), .long xa]) ++ List.replicate (9 - (lg_sl ([.ref (AD 0 c9), .long xa])).length) Slot.unset).toArray = ls at hl ⊢
  have hl : lv_has ls 9 [(0, .ref (AD 0 c9)), (1, .long xa)] := hl
  have hQ := hXX s hX
  refine lv_aload_n hx hb dX1_rawFor_0 rfl (lv_at hl 0 rfl) ?_
  have k21 : G (AD 0 c9) = some (.inr (2, [.int (nI (c9 + 1)), .int ((v.C c9).1.1), .long ((v.C c9).1.2.1), .ref (LA (6 + c9)), .int ((v.C c9).1.2.2), .int ((v.C c9).2.1), .int ((v.C c9).2.2.1), .long ((v.C c9).2.2.2.1), .long ((v.C c9).2.2.2.2.1), .long ((v.C c9).2.2.2.2.2)])) := hP.elC hc9
  refine mm_get (v := .long ((v.C c9).2.2.2.1)) hx hb hf_X1 (fun _ h9 => h9) hown hK hG k21 rfl 7 (by decide) (tb_use hT tw_507) (fun _ h9 => h9) rfl dX1_rawFor_1 ?_
  refine lv_lconst (v := 0) hx hb dX1_rawFor_4 (by decide) ?_
  refine W.lcmp hx hb dX1_rawFor_5 ?_
  refine lv_if_eq (tgt := 34) hx hb dX1_rawFor_6 (by decide) (fun c_6 => ?_) (fun c_6 => ?_)
  · skip
    refine lv_ldc2 hx hb hown (tb_use hT tw_1193) dX1_rawFor_34 ?_
    exact W.lret (v := (-9223372036854775808)) hx hb hr (fun t ht hW => ⟨⟨_, _, rfl, ⟨(by rw [rwF, if_pos (Or.inl ((lg_cmp_eq _ _).mp c_6))]; rfl), rfl⟩, mk_end hG ht⟩, hS.F ht⟩) hS.2.2 dX1_rawFor_37
  · skip
    refine lv_aload_n hx hb dX1_rawFor_9 rfl (lv_at hl 0 rfl) ?_
    refine mm_get (v := .long ((v.C c9).2.2.2.2.1)) hx hb hf_X1 (fun _ h9 => h9) hown hK hG k21 rfl 8 (by decide) (tb_use hT tw_509) (fun _ h9 => h9) rfl dX1_rawFor_10 ?_
    refine lv_lconst (v := 0) hx hb dX1_rawFor_13 (by decide) ?_
    refine W.lcmp hx hb dX1_rawFor_14 ?_
    refine lv_if_eq (tgt := 34) hx hb dX1_rawFor_15 (by decide) (fun c_15 => ?_) (fun c_15 => ?_)
    · skip
      refine lv_ldc2 hx hb hown (tb_use hT tw_1193) dX1_rawFor_34 ?_
      exact W.lret (v := (-9223372036854775808)) hx hb hr (fun t ht hW => ⟨⟨_, _, rfl, ⟨(by rw [rwF, if_pos (Or.inr (Or.inl ((lg_cmp_eq _ _).mp c_15)))]; rfl), rfl⟩, mk_end hG ht⟩, hS.F ht⟩) hS.2.2 dX1_rawFor_37
    · skip
      refine lv_lload_n hx hb dX1_rawFor_18 rfl (lv_at hl 1 rfl) ?_
      refine lv_ldc2 hx hb hown (tb_use hT tw_1191) dX1_rawFor_19 ?_
      refine W.lcmp hx hb dX1_rawFor_22 ?_
      refine lv_if_lt (tgt := 34) hx hb dX1_rawFor_23 (by decide) (fun c_23 => ?_) (fun c_23 => ?_)
      · skip
        refine lv_ldc2 hx hb hown (tb_use hT tw_1193) dX1_rawFor_34 ?_
        exact W.lret (v := (-9223372036854775808)) hx hb hr (fun t ht hW => ⟨⟨_, _, rfl, ⟨(by rw [rwF, if_pos (Or.inr (Or.inr (Or.inl ((lg_cmp_lt _ _).mp c_23))))]; rfl), rfl⟩, mk_end hG ht⟩, hS.F ht⟩) hS.2.2 dX1_rawFor_37
      · skip
        refine lv_lload_n hx hb dX1_rawFor_26 rfl (lv_at hl 1 rfl) ?_
        refine lv_ldc2 hx hb hown (tb_use hT tw_1192) dX1_rawFor_27 ?_
        refine W.lcmp hx hb dX1_rawFor_30 ?_
        refine lv_if_le (tgt := 38) hx hb dX1_rawFor_31 (by decide) (fun c_31 => ?_) (fun c_31 => ?_)
        · skip
          refine lv_lload_n hx hb dX1_rawFor_38 rfl (lv_at hl 1 rfl) ?_
          refine lv_aload_n hx hb dX1_rawFor_39 rfl (lv_at hl 0 rfl) ?_
          refine mm_get (v := .long ((v.C c9).2.2.2.2.2)) hx hb hf_X1 (fun _ h9 => h9) hown hK hG k21 rfl 9 (by decide) (tb_use hT tw_511) (fun _ h9 => h9) rfl dX1_rawFor_40 ?_
          refine lv_lsub hx hb dX1_rawFor_43 ?_
          refine lv_topl (fun x26 ex26 => ?_)
          refine lv_lstore_n (lv' := [(3, .long x26), (0, .ref (AD 0 c9)), (1, .long xa)]) hx hb dX1_rawFor_44 rfl hl (by decide) rfl (fun ls hl => ?_)
          refine lv_lload_n hx hb dX1_rawFor_45 rfl (lv_at hl 0 rfl) ?_
          refine va_calll (va_runS (As := [.long x26]) (rest := []) ⟨hx, hb, hml, hown, (fun _ h9 => absurd h9 List.not_mem_nil : ∀ w ∈ ([] : List Cond), w.before _ s = true)⟩ (c_labs l D cy A X hst hXT e0 tk hXE G x26) (tb_cs 1 hT tw_1165 tw_114 tw_1163 tw_1164 rfl rfl hq_J9_abs_067f4 ⟨Nat.le_of_ble_eq_true rfl, Nat.le_of_ble_eq_true rfl⟩) (mk_preS hst hG hK hA hX hS) rfl rfl hl.1 rfl (lv_room (Nat.le_of_ble_eq_true rfl)) dX1_rawFor_46 ⟨Nat.le_of_ble_eq_true rfl, Nat.le_of_ble_eq_true rfl⟩) hS (fun q _ h => h) (fun q h => h) (fun r27 G28 t H locs ht hvm hw hB hz1 hk1 hS => ?_)
          have hG : mm D vwCl A G28 H := by rw [← ht]; exact hB
          clear hB hz1 hk1 hvm ht
          obtain ⟨er27, hw⟩ := hw
          rw [hw] at hG
          refine lv_ldc2 hx hb hown (tb_use hT tw_1194) dX1_rawFor_49 ?_
          refine lv_aload_n hx hb dX1_rawFor_52 rfl (lv_at hl 1 rfl) ?_
          refine mm_get (v := .long ((v.C c9).2.2.2.1)) hx hb hf_X1 (fun _ h9 => h9) hown hK hG k21 rfl 7 (by decide) (tb_use hT tw_507) (fun _ h9 => h9) rfl dX1_rawFor_53 ?_
          refine va_calll (va_runS (As := [.long ((v.C c9).2.2.2.1)]) (rest := [.long 4294967296, .long r27]) ⟨hx, hb, hml, hown, (fun _ h9 => absurd h9 List.not_mem_nil : ∀ w ∈ ([] : List Cond), w.before _ s = true)⟩ (c_labs l D cy A X hst hXT e0 tk hXE G ((v.C c9).2.2.2.1)) (tb_cs 1 hT tw_1165 tw_114 tw_1163 tw_1164 rfl rfl hq_J9_abs_067f4 ⟨Nat.le_of_ble_eq_true rfl, Nat.le_of_ble_eq_true rfl⟩) (mk_preS hst hG hK hA hX hS) rfl rfl hl.1 rfl (lv_room (Nat.le_of_ble_eq_true rfl)) dX1_rawFor_56 ⟨Nat.le_of_ble_eq_true rfl, Nat.le_of_ble_eq_true rfl⟩) hS (fun q _ h => h) (fun q h => h) (fun r29 G30 t H locs ht hvm hw hB hz1 hk1 hS => ?_)
          have hG : mm D vwCl A G30 H := by rw [← ht]; exact hB
          clear hB hz1 hk1 hvm ht
          obtain ⟨er29, hw⟩ := hw
          rw [hw] at hG
          refine lv_lmul hx hb dX1_rawFor_59 ?_
          refine lv_aload_n hx hb dX1_rawFor_60 rfl (lv_at hl 1 rfl) ?_
          refine mm_get (v := .long ((v.C c9).2.2.2.2.1)) hx hb hf_X1 (fun _ h9 => h9) hown hK hG k21 rfl 8 (by decide) (tb_use hT tw_509) (fun _ h9 => h9) rfl dX1_rawFor_61 ?_
          refine lv_ldiv hx hb dX1_rawFor_64 (fun z => c_15 ((lg_cmp_eq _ _).mpr z)) ?_
          refine lv_topl (fun x31 ex31 => ?_)
          refine W.lcmp hx hb dX1_rawFor_65 ?_
          refine lv_if_le (tgt := 73) hx hb dX1_rawFor_66 (by decide) (fun c_66 => ?_) (fun c_66 => ?_)
          · skip
            refine lv_lload_n hx hb dX1_rawFor_73 rfl (lv_at hl 0 rfl) ?_
            refine lv_aload_n hx hb dX1_rawFor_74 rfl (lv_at hl 1 rfl) ?_
            refine mm_get (v := .long ((v.C c9).2.2.2.2.1)) hx hb hf_X1 (fun _ h9 => h9) hown hK hG k21 rfl 8 (by decide) (tb_use hT tw_509) (fun _ h9 => h9) rfl dX1_rawFor_75 ?_
            refine lv_lmul hx hb dX1_rawFor_78 ?_
            refine lv_topl (fun x33 ex33 => ?_)
            refine lv_lstore (lv' := [(5, .long x33), (3, .long x26), (0, .ref (AD 0 c9)), (1, .long xa)]) hx hb dX1_rawFor_79 hl (by decide) rfl (fun ls hl => ?_)
            refine lv_lload hx hb dX1_rawFor_81 (lv_at hl 0 rfl) ?_
            refine lv_aload_n hx hb dX1_rawFor_83 rfl (lv_at hl 2 rfl) ?_
            refine mm_get (v := .long ((v.C c9).2.2.2.1)) hx hb hf_X1 (fun _ h9 => h9) hown hK hG k21 rfl 7 (by decide) (tb_use hT tw_507) (fun _ h9 => h9) rfl dX1_rawFor_84 ?_
            refine lv_lrem hx hb dX1_rawFor_87 (fun z => c_6 ((lg_cmp_eq _ _).mpr z)) ?_
            refine lv_topl (fun x34 ex34 => ?_)
            refine lv_lconst (v := 0) hx hb dX1_rawFor_88 (by decide) ?_
            refine W.lcmp hx hb dX1_rawFor_89 ?_
            refine lv_if_eq (tgt := 97) hx hb dX1_rawFor_90 (by decide) (fun c_90 => ?_) (fun c_90 => ?_)
            · skip
              refine lv_lload hx hb dX1_rawFor_97 (lv_at hl 0 rfl) ?_
              refine lv_aload_n hx hb dX1_rawFor_99 rfl (lv_at hl 2 rfl) ?_
              refine mm_get (v := .long ((v.C c9).2.2.2.1)) hx hb hf_X1 (fun _ h9 => h9) hown hK hG k21 rfl 7 (by decide) (tb_use hT tw_507) (fun _ h9 => h9) rfl dX1_rawFor_100 ?_
              refine lv_ldiv hx hb dX1_rawFor_103 (fun z => c_6 ((lg_cmp_eq _ _).mpr z)) ?_
              refine lv_topl (fun x36 ex36 => ?_)
              refine lv_lstore (lv' := [(7, .long x36), (5, .long x33), (3, .long x26), (0, .ref (AD 0 c9)), (1, .long xa)]) hx hb dX1_rawFor_104 hl (by decide) rfl (fun ls hl => ?_)
              refine lv_lload hx hb dX1_rawFor_106 (lv_at hl 0 rfl) ?_
              refine lv_aload_n hx hb dX1_rawFor_108 rfl (lv_at hl 3 rfl) ?_
              refine va_calll (va_runV (As := []) (rest := [.long x36]) ⟨hx, hb, hml, hown, (fun _ h9 => absurd h9 List.not_mem_nil : ∀ w ∈ ([] : List Cond), w.before _ s = true)⟩ (c_X1_lowest l D cy A X hst hXT e0 tk hXE G (AD 0 c9) (LA (6 + c9)) (nI (c9 + 1)) ((v.C c9).1.1) ((v.C c9).1.2.2) ((v.C c9).2.1) ((v.C c9).2.2.1) ((v.C c9).1.2.1) ((v.C c9).2.2.2.1) ((v.C c9).2.2.2.2.1) ((v.C c9).2.2.2.2.2) k21) (tb_cw (C := RX1) 0 hT tw_1198 tw_122 tw_1195 tw_1197 tw_51 rfl rfl hq_X1_lowest ⟨Nat.le_of_ble_eq_true rfl, Nat.le_of_ble_eq_true rfl⟩) (mk_preC hst hG hK hA hX hS vc_2 k21) rfl rfl hl.1 rfl (lv_room (Nat.le_of_ble_eq_true rfl)) dX1_rawFor_109 ⟨Nat.le_of_ble_eq_true rfl, Nat.le_of_ble_eq_true rfl⟩) hS (fun q _ h => h) (fun q h => h) (fun r37 G38 t H locs ht hvm hw hB hz1 hk1 hS => ?_)
              have hG : mm D vwCl A G38 H := by rw [← ht]; exact hB
              clear hB hz1 hk1 hvm ht
              obtain ⟨er37, hw⟩ := hw
              rw [hw] at hG
              refine W.lcmp hx hb dX1_rawFor_112 ?_
              refine lv_if_lt (tgt := 126) hx hb dX1_rawFor_113 (by decide) (fun c_113 => ?_) (fun c_113 => ?_)
              · skip
                refine lv_ldc2 hx hb hown (tb_use hT tw_1193) dX1_rawFor_126 ?_
                refine lv_goto (tgt := 134) hx hb dX1_rawFor_129 (by decide) ?_
                have hn1 : ¬ ((v.C c9).2.2.2.1 = 0 ∨ (v.C c9).2.2.2.2.1 = 0 ∨ xa < -10000000000000000 ∨ 10000000000000000 < xa) := by rintro (z | z | z | z); exact c_6 ((lg_cmp_eq _ _).mpr z); exact c_15 ((lg_cmp_eq _ _).mpr z); exact c_23 ((lg_cmp_lt _ _).mpr z); exact absurd z (Int64.not_lt.mpr ((lg_cmp_le _ _).mp c_31))
                have hq1 : x31 = 4294967296 * labs ((v.C c9).2.2.2.1) / (v.C c9).2.2.2.2.1 := by rw [ex31, er29]
                have hq2 : r27 = labs (xa - (v.C c9).2.2.2.2.2) := by rw [er27, ex26]
                have hn2 : ¬ (4294967296 * labs ((v.C c9).2.2.2.1) / (v.C c9).2.2.2.2.1 < labs (xa - (v.C c9).2.2.2.2.2)) := by rw [← hq1, ← hq2]; exact Int64.not_lt.mpr ((lg_cmp_le _ _).mp c_66)
                have hp1 : x33 = (xa - (v.C c9).2.2.2.2.2) * (v.C c9).2.2.2.2.1 := by rw [ex33, ex26]
                have hr1 : x34 = (xa - (v.C c9).2.2.2.2.2) * (v.C c9).2.2.2.2.1 - (xa - (v.C c9).2.2.2.2.2) * (v.C c9).2.2.2.2.1 / (v.C c9).2.2.2.1 * (v.C c9).2.2.2.1 := by rw [ex34, hp1]
                have hn3 : ¬ ¬ ((xa - (v.C c9).2.2.2.2.2) * (v.C c9).2.2.2.2.1 - (xa - (v.C c9).2.2.2.2.2) * (v.C c9).2.2.2.2.1 / (v.C c9).2.2.2.1 * (v.C c9).2.2.2.1 = 0) := fun z => z (by rw [← hr1]; exact (lg_cmp_eq _ _).mp c_90)
                have hv1 : x36 = (xa - (v.C c9).2.2.2.2.2) * (v.C c9).2.2.2.2.1 / (v.C c9).2.2.2.1 := by rw [ex36, hp1]
                exact W.lret (v := (-9223372036854775808)) hx hb hr (fun t ht hW => ⟨⟨_, _, rfl, ⟨(by rw [rwF, if_neg hn1, if_neg hn2, if_neg hn3, if_pos (Or.inl (by rw [← hv1, ← er37]; exact (lg_cmp_lt _ _).mp c_113))]; rfl), rfl⟩, mk_end hG ht⟩, hS.F ht⟩) hS.2.2 dX1_rawFor_134
              · skip
                refine lv_lload hx hb dX1_rawFor_116 (lv_at hl 0 rfl) ?_
                refine lv_aload_n hx hb dX1_rawFor_118 rfl (lv_at hl 3 rfl) ?_
                refine va_calll (va_runV (As := []) (rest := [.long x36]) ⟨hx, hb, hml, hown, (fun _ h9 => absurd h9 List.not_mem_nil : ∀ w ∈ ([] : List Cond), w.before _ s = true)⟩ (c_X1_highest l D cy A X hst hXT e0 tk hXE G (AD 0 c9) (LA (6 + c9)) (nI (c9 + 1)) ((v.C c9).1.1) ((v.C c9).1.2.2) ((v.C c9).2.1) ((v.C c9).2.2.1) ((v.C c9).1.2.1) ((v.C c9).2.2.2.1) ((v.C c9).2.2.2.2.1) ((v.C c9).2.2.2.2.2) k21) (tb_cw (C := RX1) 0 hT tw_1151 tw_122 tw_1148 tw_1150 tw_49 rfl rfl hq_X1_highest ⟨Nat.le_of_ble_eq_true rfl, Nat.le_of_ble_eq_true rfl⟩) (mk_preC hst hG hK hA hX hS vc_2 k21) rfl rfl hl.1 rfl (lv_room (Nat.le_of_ble_eq_true rfl)) dX1_rawFor_119 ⟨Nat.le_of_ble_eq_true rfl, Nat.le_of_ble_eq_true rfl⟩) hS (fun q _ h => h) (fun q h => h) (fun r40 G41 t H locs ht hvm hw hB hz1 hk1 hS => ?_)
                have hG : mm D vwCl A G41 H := by rw [← ht]; exact hB
                clear hB hz1 hk1 hvm ht
                obtain ⟨er40, hw⟩ := hw
                rw [hw] at hG
                refine W.lcmp hx hb dX1_rawFor_122 ?_
                refine lv_if_le (tgt := 132) hx hb dX1_rawFor_123 (by decide) (fun c_123 => ?_) (fun c_123 => ?_)
                · skip
                  refine lv_lload hx hb dX1_rawFor_132 (lv_at hl 0 rfl) ?_
                  have hn1 : ¬ ((v.C c9).2.2.2.1 = 0 ∨ (v.C c9).2.2.2.2.1 = 0 ∨ xa < -10000000000000000 ∨ 10000000000000000 < xa) := by rintro (z | z | z | z); exact c_6 ((lg_cmp_eq _ _).mpr z); exact c_15 ((lg_cmp_eq _ _).mpr z); exact c_23 ((lg_cmp_lt _ _).mpr z); exact absurd z (Int64.not_lt.mpr ((lg_cmp_le _ _).mp c_31))
                  have hq1 : x31 = 4294967296 * labs ((v.C c9).2.2.2.1) / (v.C c9).2.2.2.2.1 := by rw [ex31, er29]
                  have hq2 : r27 = labs (xa - (v.C c9).2.2.2.2.2) := by rw [er27, ex26]
                  have hn2 : ¬ (4294967296 * labs ((v.C c9).2.2.2.1) / (v.C c9).2.2.2.2.1 < labs (xa - (v.C c9).2.2.2.2.2)) := by rw [← hq1, ← hq2]; exact Int64.not_lt.mpr ((lg_cmp_le _ _).mp c_66)
                  have hp1 : x33 = (xa - (v.C c9).2.2.2.2.2) * (v.C c9).2.2.2.2.1 := by rw [ex33, ex26]
                  have hr1 : x34 = (xa - (v.C c9).2.2.2.2.2) * (v.C c9).2.2.2.2.1 - (xa - (v.C c9).2.2.2.2.2) * (v.C c9).2.2.2.2.1 / (v.C c9).2.2.2.1 * (v.C c9).2.2.2.1 := by rw [ex34, hp1]
                  have hn3 : ¬ ¬ ((xa - (v.C c9).2.2.2.2.2) * (v.C c9).2.2.2.2.1 - (xa - (v.C c9).2.2.2.2.2) * (v.C c9).2.2.2.2.1 / (v.C c9).2.2.2.1 * (v.C c9).2.2.2.1 = 0) := fun z => z (by rw [← hr1]; exact (lg_cmp_eq _ _).mp c_90)
                  have hv1 : x36 = (xa - (v.C c9).2.2.2.2.2) * (v.C c9).2.2.2.2.1 / (v.C c9).2.2.2.1 := by rw [ex36, hp1]
                  exact W.lret (v := x36) hx hb hr (fun t ht hW => ⟨⟨_, _, rfl, ⟨(by rw [rwF, if_neg hn1, if_neg hn2, if_neg hn3, if_neg (by rintro (z | z); exact c_113 ((lg_cmp_lt _ _).mpr (by rw [hv1, er37]; exact z)); exact absurd z (Int64.not_lt.mpr (by rw [← hv1, ← er40]; exact (lg_cmp_le _ _).mp c_123))), hv1]), rfl⟩, mk_end hG ht⟩, hS.F ht⟩) hS.2.2 dX1_rawFor_134
                · skip
                  refine lv_ldc2 hx hb hown (tb_use hT tw_1193) dX1_rawFor_126 ?_
                  refine lv_goto (tgt := 134) hx hb dX1_rawFor_129 (by decide) ?_
                  have hn1 : ¬ ((v.C c9).2.2.2.1 = 0 ∨ (v.C c9).2.2.2.2.1 = 0 ∨ xa < -10000000000000000 ∨ 10000000000000000 < xa) := by rintro (z | z | z | z); exact c_6 ((lg_cmp_eq _ _).mpr z); exact c_15 ((lg_cmp_eq _ _).mpr z); exact c_23 ((lg_cmp_lt _ _).mpr z); exact absurd z (Int64.not_lt.mpr ((lg_cmp_le _ _).mp c_31))
                  have hq1 : x31 = 4294967296 * labs ((v.C c9).2.2.2.1) / (v.C c9).2.2.2.2.1 := by rw [ex31, er29]
                  have hq2 : r27 = labs (xa - (v.C c9).2.2.2.2.2) := by rw [er27, ex26]
                  have hn2 : ¬ (4294967296 * labs ((v.C c9).2.2.2.1) / (v.C c9).2.2.2.2.1 < labs (xa - (v.C c9).2.2.2.2.2)) := by rw [← hq1, ← hq2]; exact Int64.not_lt.mpr ((lg_cmp_le _ _).mp c_66)
                  have hp1 : x33 = (xa - (v.C c9).2.2.2.2.2) * (v.C c9).2.2.2.2.1 := by rw [ex33, ex26]
                  have hr1 : x34 = (xa - (v.C c9).2.2.2.2.2) * (v.C c9).2.2.2.2.1 - (xa - (v.C c9).2.2.2.2.2) * (v.C c9).2.2.2.2.1 / (v.C c9).2.2.2.1 * (v.C c9).2.2.2.1 := by rw [ex34, hp1]
                  have hn3 : ¬ ¬ ((xa - (v.C c9).2.2.2.2.2) * (v.C c9).2.2.2.2.1 - (xa - (v.C c9).2.2.2.2.2) * (v.C c9).2.2.2.2.1 / (v.C c9).2.2.2.1 * (v.C c9).2.2.2.1 = 0) := fun z => z (by rw [← hr1]; exact (lg_cmp_eq _ _).mp c_90)
                  have hv1 : x36 = (xa - (v.C c9).2.2.2.2.2) * (v.C c9).2.2.2.2.1 / (v.C c9).2.2.2.1 := by rw [ex36, hp1]
                  exact W.lret (v := (-9223372036854775808)) hx hb hr (fun t ht hW => ⟨⟨_, _, rfl, ⟨(by rw [rwF, if_neg hn1, if_neg hn2, if_neg hn3, if_pos (Or.inr (by rw [← hv1, ← er40]; exact Int64.not_le.mp (fun z => c_123 ((lg_cmp_le _ _).mpr z))))]; rfl), rfl⟩, mk_end hG ht⟩, hS.F ht⟩) hS.2.2 dX1_rawFor_134
            · skip
              refine lv_ldc2 hx hb hown (tb_use hT tw_1193) dX1_rawFor_93 ?_
              have hn1 : ¬ ((v.C c9).2.2.2.1 = 0 ∨ (v.C c9).2.2.2.2.1 = 0 ∨ xa < -10000000000000000 ∨ 10000000000000000 < xa) := by rintro (z | z | z | z); exact c_6 ((lg_cmp_eq _ _).mpr z); exact c_15 ((lg_cmp_eq _ _).mpr z); exact c_23 ((lg_cmp_lt _ _).mpr z); exact absurd z (Int64.not_lt.mpr ((lg_cmp_le _ _).mp c_31))
              have hq1 : x31 = 4294967296 * labs ((v.C c9).2.2.2.1) / (v.C c9).2.2.2.2.1 := by rw [ex31, er29]
              have hq2 : r27 = labs (xa - (v.C c9).2.2.2.2.2) := by rw [er27, ex26]
              have hn2 : ¬ (4294967296 * labs ((v.C c9).2.2.2.1) / (v.C c9).2.2.2.2.1 < labs (xa - (v.C c9).2.2.2.2.2)) := by rw [← hq1, ← hq2]; exact Int64.not_lt.mpr ((lg_cmp_le _ _).mp c_66)
              have hp1 : x33 = (xa - (v.C c9).2.2.2.2.2) * (v.C c9).2.2.2.2.1 := by rw [ex33, ex26]
              have hr1 : x34 = (xa - (v.C c9).2.2.2.2.2) * (v.C c9).2.2.2.2.1 - (xa - (v.C c9).2.2.2.2.2) * (v.C c9).2.2.2.2.1 / (v.C c9).2.2.2.1 * (v.C c9).2.2.2.1 := by rw [ex34, hp1]
              exact W.lret (v := (-9223372036854775808)) hx hb hr (fun t ht hW => ⟨⟨_, _, rfl, ⟨(by rw [rwF, if_neg hn1, if_neg hn2, if_pos (by rw [← hr1]; exact fun z => c_90 ((lg_cmp_eq _ _).mpr z))]; rfl), rfl⟩, mk_end hG ht⟩, hS.F ht⟩) hS.2.2 dX1_rawFor_96
          · skip
            refine lv_ldc2 hx hb hown (tb_use hT tw_1193) dX1_rawFor_69 ?_
            have hn1 : ¬ ((v.C c9).2.2.2.1 = 0 ∨ (v.C c9).2.2.2.2.1 = 0 ∨ xa < -10000000000000000 ∨ 10000000000000000 < xa) := by rintro (z | z | z | z); exact c_6 ((lg_cmp_eq _ _).mpr z); exact c_15 ((lg_cmp_eq _ _).mpr z); exact c_23 ((lg_cmp_lt _ _).mpr z); exact absurd z (Int64.not_lt.mpr ((lg_cmp_le _ _).mp c_31))
            have hq1 : x31 = 4294967296 * labs ((v.C c9).2.2.2.1) / (v.C c9).2.2.2.2.1 := by rw [ex31, er29]
            have hq2 : r27 = labs (xa - (v.C c9).2.2.2.2.2) := by rw [er27, ex26]
            exact W.lret (v := (-9223372036854775808)) hx hb hr (fun t ht hW => ⟨⟨_, _, rfl, ⟨(by rw [rwF, if_neg hn1, if_pos (by rw [← hq1, ← hq2]; exact Int64.not_le.mp (fun z => c_66 ((lg_cmp_le _ _).mpr z)))]; rfl), rfl⟩, mk_end hG ht⟩, hS.F ht⟩) hS.2.2 dX1_rawFor_72
        · skip
          refine lv_ldc2 hx hb hown (tb_use hT tw_1193) dX1_rawFor_34 ?_
          exact W.lret (v := (-9223372036854775808)) hx hb hr (fun t ht hW => ⟨⟨_, _, rfl, ⟨(by rw [rwF, if_pos (Or.inr (Or.inr (Or.inr (Int64.not_le.mp (fun z => c_31 ((lg_cmp_le _ _).mpr z))))))]; rfl), rfl⟩, mk_end hG ht⟩, hS.F ht⟩) hS.2.2 dX1_rawFor_37

set_option maxHeartbeats 4000000 in
set_option maxRecDepth 100000 in
theorem c_H_rawAt (l : Launch) (D : va_G) (cy : Nat → ClassId) (A : Nat → Prop) (X : State → Prop) (hst : mk_St A X) (hXT : ∀ U : State, X U → TB U) (e0 : Nat) (tk : Nat → Nat) (hXE : ∀ U : State, X U → ES e0 tk A U) (mi : Nat) (hXL : ∀ U : State, X U → EL e0 mi A U) (ax adK adV : Nat → Nat) (hXX : ∀ U : State, X U → TX ax adK adV tk A U) (G : Nat → Option va_E) (G0 : Nat → Option va_E) (Bx : Nat → Prop) (v : EdV) (z : PtV) (LA EA : Nat → Nat) (AD : Nat → Nat → Nat) (PI : Nat → Nat) (c9 : Nat) (wd9 : Nat) (pa : Int32) (to ro ln : Nat) (fo9 : Nat → Int32) (hP : EDP cy e0 tk G0 Bx G v z LA EA AD PI) (hc9 : c9 < v.nC) (hwd : (v.C c9).1.2.2 = nI wd9) (hw4 : wd9 ≤ 4) (hto : G to = some (.inr (7, [.ref ro, .int (nI ln)]))) (hro : G ro = some (.inl (cy 0, 64, .inl fo9))) (hln : ln ≤ 64) : Met l yX1_rawAt [.code yX1_rawAt cX1_rawAt 6 (some .long)] ({ frames := 1, cells := 0, slots := 0, locals := 30 }) (mk_Pre D vwCl (tyL cy) A X G [.ref (AD 0 c9), .ref to, .int pa]) (va_Ql (fun (r : Int64) (G2 : Nat → Option va_E) => r = rwA ((v.C c9).2.1) ((v.C c9).1.2.2) wd9 (fun j => oc_at (nI ln) fo9 (pa + nI j)) ∧ G2 = G) (mk_B D vwCl A) A) 0 0 A := by
  refine Met.ofW (cc := cX1_rawAt) (maxL := 6) (ret := (some .long)) (by decide) rfl ?_
  intro p e s m args below meth c s₁ B hml hv
  obtain ⟨rfl, hG, hK, hA, hX⟩ := hv
  have hx := B.exec
  have hb := B.bytes
  have hr := B.returns
  have hlocks := B.notSynchronized
  have hT := hXT s hX
  have hown : s.vm.findClass RX1 = some m.cls := findClass_of_methodNamed B.named
  have hf_X1 : ∀ w ∈ u_ws RX1 TX1 10, w.before ([.ref (AD 0 c9), .ref to, .int pa] : List Value).toArray s = true := tb_list hT fX1
  have hS : va_S A s.heap s.heap [] := va_S.rf
  have hE := hXE s hX
  have hl := lv_entry ([.ref (AD 0 c9), .ref to, .int pa]) (n := 6) (Nat.le_of_ble_eq_true rfl)
  rw [lg_entry_eq]
  generalize (lg_sl ([.ref (AD 0 c9), .ref to, .int pa]) ++ List.replicate (6 - (lg_sl ([.ref (AD 0 c9), .ref to, .int pa])).length) Slot.unset).toArray = ls at hl ⊢
  have hl : lv_has ls 6 [(0, .ref (AD 0 c9)), (1, .ref to), (2, .int pa)] := hl
  have hQ := hXX s hX
  have hloop : ∀ (n : Nat) (j9 : Nat), (n + j9 = wd9) → ∀ (Gv : Nat → Option va_E), (Gv to = some (.inr (7, [.ref ro, .int (nI ln)]))) → (Gv ro = some (.inl (cy 0, 64, .inl fo9))) → (Gv = G) → ∀ (H : Heap) (locs : List Loc), mm D vwCl A Gv H → va_S A s.heap H locs → ∀ ls : Array Slot, lv_has ls 6 [(0, .ref (AD 0 c9)), (1, .ref to), (2, .int pa), (3, .long (rwL (fun j => oc_at (nI ln) fo9 (pa + nI j)) j9)), (5, .int (nI j9))] → W p l e (headSpec [.code yX1_rawAt cX1_rawAt 6 (some .long)] ({ frames := 1, cells := 0, slots := 0, locals := 30 })).room s m ([.ref (AD 0 c9), .ref to, .int pa] : List Value).toArray below meth c H locs 0 0 (MQ below (va_Ql (fun (r : Int64) (G2 : Nat → Option va_E) => r = rwA ((v.C c9).2.1) ((v.C c9).1.2.2) wd9 (fun j => oc_at (nI ln) fo9 (pa + nI j)) ∧ G2 = G) (mk_B D vwCl A) A) ([.ref (AD 0 c9), .ref to, .int pa] : List Value).toArray s 0 0 A) (F0 m 5 ls []) := by
    intro n
    induction n with
    | zero =>
      intro j9 hjn Gv v_to v_ro hGv H locs hG hS ls hl
      have hG9 := hG
      have hS9 := hS
      have hl9 := hl
      subst hGv
      have hG := hG9
      have hS := hS9
      have hl := hl9
      refine lv_iload hx hb dX1_rawAt_5 (lv_at hl 4 rfl) ?_
      refine lv_aload_n hx hb dX1_rawAt_7 rfl (lv_at hl 0 rfl) ?_
      have k21 : Gv (AD 0 c9) = some (.inr (2, [.int (nI (c9 + 1)), .int ((v.C c9).1.1), .long ((v.C c9).1.2.1), .ref (LA (6 + c9)), .int ((v.C c9).1.2.2), .int ((v.C c9).2.1), .int ((v.C c9).2.2.1), .long ((v.C c9).2.2.2.1), .long ((v.C c9).2.2.2.2.1), .long ((v.C c9).2.2.2.2.2)])) := hP.elC hc9
      refine mm_get (v := .int ((v.C c9).1.2.2)) hx hb hf_X1 (fun _ h9 => h9) hown hK hG k21 rfl 4 (by decide) (tb_use hT tw_500) (fun _ h9 => h9) rfl dX1_rawAt_8 ?_
      refine lv_icmp_ge (tgt := 36) hx hb dX1_rawAt_11 (by decide) (fun c_11 => ?_) (fun c_11 => ?_)
      · skip
        refine lv_aload_n hx hb dX1_rawAt_36 rfl (lv_at hl 0 rfl) ?_
        refine mm_get (v := .int ((v.C c9).2.1)) hx hb hf_X1 (fun _ h9 => h9) hown hK hG k21 rfl 5 (by decide) (tb_use hT tw_503) (fun _ h9 => h9) rfl dX1_rawAt_37 ?_
        refine lv_if_eq (tgt := 66) hx hb dX1_rawAt_40 (by decide) (fun c_40 => ?_) (fun c_40 => ?_)
        · skip
          refine lv_lload_n hx hb dX1_rawAt_66 rfl (lv_at hl 3 rfl) ?_
          have hj9 : j9 = wd9 := by omega
          exact W.lret (v := (rwL (fun j => oc_at (nI ln) fo9 (pa + nI j)) j9)) hx hb hr (fun t ht hW => ⟨⟨_, _, rfl, ⟨(by rw [hj9, rwA, if_pos (Or.inl c_40)]), rfl⟩, mk_end hG ht⟩, hS.F ht⟩) hS.2.2 dX1_rawAt_67
        · skip
          refine lv_lload_n hx hb dX1_rawAt_43 rfl (lv_at hl 3 rfl) ?_
          refine lv_aload_n hx hb dX1_rawAt_44 rfl (lv_at hl 0 rfl) ?_
          refine va_calll (va_runV (As := []) (rest := [.long (rwL (fun j => oc_at (nI ln) fo9 (pa + nI j)) j9)]) ⟨hx, hb, hml, hown, (fun _ h9 => absurd h9 List.not_mem_nil : ∀ w ∈ ([] : List Cond), w.before _ s = true)⟩ (c_X1_highest l D cy A X hst hXT e0 tk hXE Gv (AD 0 c9) (LA (6 + c9)) (nI (c9 + 1)) ((v.C c9).1.1) ((v.C c9).1.2.2) ((v.C c9).2.1) ((v.C c9).2.2.1) ((v.C c9).1.2.1) ((v.C c9).2.2.2.1) ((v.C c9).2.2.2.2.1) ((v.C c9).2.2.2.2.2) k21) (tb_cw (C := RX1) 0 hT tw_1151 tw_122 tw_1148 tw_1150 tw_49 rfl rfl hq_X1_highest ⟨Nat.le_of_ble_eq_true rfl, Nat.le_of_ble_eq_true rfl⟩) (mk_preC hst hG hK hA hX hS vc_2 k21) rfl rfl hl.1 rfl (lv_room (Nat.le_of_ble_eq_true rfl)) dX1_rawAt_45 ⟨Nat.le_of_ble_eq_true rfl, Nat.le_of_ble_eq_true rfl⟩) hS (fun q _ h => h) (fun q h => h) (fun r22 G23 t H locs ht hvm hw hB hz1 hk1 hS => ?_)
          have hG : mm D vwCl A G23 H := by rw [← ht]; exact hB
          clear hB hz1 hk1 hvm ht
          obtain ⟨er22, hw⟩ := hw
          rw [hw] at hG
          refine W.lcmp hx hb dX1_rawAt_48 ?_
          refine lv_if_le (tgt := 66) hx hb dX1_rawAt_49 (by decide) (fun c_49 => ?_) (fun c_49 => ?_)
          · skip
            refine lv_lload_n hx hb dX1_rawAt_66 rfl (lv_at hl 3 rfl) ?_
            have hj9 : j9 = wd9 := by omega
            exact W.lret (v := (rwL (fun j => oc_at (nI ln) fo9 (pa + nI j)) j9)) hx hb hr (fun t ht hW => ⟨⟨_, _, rfl, ⟨(by rw [hj9] at c_49 ⊢; rw [rwA, if_pos (Or.inr (by rw [← er22]; exact (lg_cmp_le _ _).mp c_49))]), rfl⟩, mk_end hG ht⟩, hS.F ht⟩) hS.2.2 dX1_rawAt_67
          · skip
            refine lv_lload_n hx hb dX1_rawAt_52 rfl (lv_at hl 3 rfl) ?_
            refine lv_lconst (v := 1) hx hb dX1_rawAt_53 (by decide) ?_
            refine lv_bipush (v := 8) hx hb dX1_rawAt_54 (by decide) ?_
            refine lv_aload_n hx hb dX1_rawAt_56 rfl (lv_at hl 0 rfl) ?_
            refine mm_get (v := .int ((v.C c9).1.2.2)) hx hb hf_X1 (fun _ h9 => h9) hown hK hG k21 rfl 4 (by decide) (tb_use hT tw_500) (fun _ h9 => h9) rfl dX1_rawAt_57 ?_
            refine lv_imul hx hb dX1_rawAt_60 ?_
            obtain ⟨x25, ex25⟩ : ∃ y, y = (1 : Int64) <<< (((8 * (v.C c9).1.2.2) : Int32).toInt64 &&& 63) := ⟨_, rfl⟩
            refine lv_lshl (v := x25) hx hb dX1_rawAt_61 ex25.symm ?_
            refine lv_lsub hx hb dX1_rawAt_62 ?_
            refine lv_goto (tgt := 67) hx hb dX1_rawAt_63 (by decide) ?_
            have hj9 : j9 = wd9 := by omega
            exact W.lret (v := ((rwL (fun j => oc_at (nI ln) fo9 (pa + nI j)) j9) - x25)) hx hb hr (fun t ht hW => ⟨⟨_, _, rfl, ⟨(by rw [hj9] at c_49 ⊢; rw [rwA, if_neg (by rintro (z | z); exact c_40 z; exact c_49 ((lg_cmp_le _ _).mpr (by rw [er22]; exact z))), ex25]), rfl⟩, mk_end hG ht⟩, hS.F ht⟩) hS.2.2 dX1_rawAt_67
      · skip
        exact absurd (by rw [hwd, show j9 = wd9 by omega]; exact Int32.le_refl _) c_11
    | succ n ih =>
      intro j9 hjn Gv v_to v_ro hGv H locs hG hS ls hl
      have hG9 := hG
      have hS9 := hS
      have hl9 := hl
      subst hGv
      have hG := hG9
      have hS := hS9
      have hl := hl9
      refine lv_iload hx hb dX1_rawAt_5 (lv_at hl 4 rfl) ?_
      refine lv_aload_n hx hb dX1_rawAt_7 rfl (lv_at hl 0 rfl) ?_
      have k26 : Gv (AD 0 c9) = some (.inr (2, [.int (nI (c9 + 1)), .int ((v.C c9).1.1), .long ((v.C c9).1.2.1), .ref (LA (6 + c9)), .int ((v.C c9).1.2.2), .int ((v.C c9).2.1), .int ((v.C c9).2.2.1), .long ((v.C c9).2.2.2.1), .long ((v.C c9).2.2.2.2.1), .long ((v.C c9).2.2.2.2.2)])) := hP.elC hc9
      refine mm_get (v := .int ((v.C c9).1.2.2)) hx hb hf_X1 (fun _ h9 => h9) hown hK hG k26 rfl 4 (by decide) (tb_use hT tw_500) (fun _ h9 => h9) rfl dX1_rawAt_8 ?_
      refine lv_icmp_ge (tgt := 36) hx hb dX1_rawAt_11 (by decide) (fun c_11 => ?_) (fun c_11 => ?_)
      · skip
        exact absurd c_11 (by rw [hwd]; exact nI_ge (by omega) (by omega))
      · skip
        refine lv_lload_n hx hb dX1_rawAt_14 rfl (lv_at hl 3 rfl) ?_
        refine lv_ldc2 hx hb hown (tb_use hT tw_1146) dX1_rawAt_15 ?_
        refine lv_lmul hx hb dX1_rawAt_18 ?_
        refine lv_aload_n hx hb dX1_rawAt_19 rfl (lv_at hl 1 rfl) ?_
        refine lv_iload_n hx hb dX1_rawAt_20 rfl (lv_at hl 2 rfl) ?_
        refine lv_iload hx hb dX1_rawAt_21 (lv_at hl 4 rfl) ?_
        refine lv_iadd hx hb dX1_rawAt_23 ?_
        refine va_calli (va_runV (As := [.int (pa + (nI j9))]) (rest := [.long ((rwL (fun j => oc_at (nI ln) fo9 (pa + nI j)) j9) * 256)]) ⟨hx, hb, hml, hown, (fun _ h9 => absurd h9 List.not_mem_nil : ∀ w ∈ ([] : List Cond), w.before _ s = true)⟩ (c_X6_at l D cy A X hst hXT Gv to ro (nI ln) (pa + (nI j9)) fo9 v_to v_ro) (tb_cw (C := RX6) 1 hT tw_1126 tw_108 tw_1147 tw_1124 tw_1125 rfl rfl hq_X6_at ⟨Nat.le_of_ble_eq_true rfl, Nat.le_of_ble_eq_true rfl⟩) (mk_preC hst hG hK hA hX hS vc_7 v_to) rfl rfl hl.1 rfl (lv_room (Nat.le_of_ble_eq_true rfl)) dX1_rawAt_24 ⟨Nat.le_of_ble_eq_true rfl, Nat.le_of_ble_eq_true rfl⟩) hS (fun q _ h => h) (fun q h => h) (fun r27 G28 t H locs ht hvm hw hB hz1 hk1 hS => ?_)
        have hG : mm D vwCl A G28 H := by rw [← ht]; exact hB
        clear hB hz1 hk1 hvm ht
        obtain ⟨er27, hw⟩ := hw
        rw [hw] at hG
        obtain ⟨x29, ex29⟩ : ∃ y, y = (r27 : Int32).toInt64 := ⟨_, rfl⟩
        refine lv_i2l (v := x29) hx hb dX1_rawAt_27 ex29.symm ?_
        refine lv_ladd hx hb dX1_rawAt_28 ?_
        refine lv_topl (fun x30 ex30 => ?_)
        refine lv_lstore_n (lv' := [(3, .long x30), (0, .ref (AD 0 c9)), (1, .ref to), (2, .int pa), (5, .int (nI j9))]) hx hb dX1_rawAt_29 rfl hl (by decide) rfl (fun ls hl => ?_)
        obtain ⟨x31, ex31⟩ : ∃ y : Int32, y = (nI j9) + 1 := ⟨_, rfl⟩
        refine lv_iinc (v := x31) (lv' := [(5, .int x31), (3, .long x30), (0, .ref (AD 0 c9)), (1, .ref to), (2, .int pa)]) hx hb dX1_rawAt_30 hl (k := 4) rfl (by rw [ex31]; rfl) (by decide) rfl (fun ls hl => ?_)
        refine lv_goto (tgt := 5) hx hb dX1_rawAt_33 (by decide) ?_
        rw [show x31 = nI (j9 + 1) by rw [ex31]; exact (nI_succ j9).symm] at hl
        have hy9 : x30 = rwL (fun j => oc_at (nI ln) fo9 (pa + nI j)) (j9 + 1) := by rw [ex30, rwL, ex29, er27]
        rw [hy9] at hl
        exact ih (j9 + 1) (by omega) Gv v_to v_ro rfl _ _ hG hS ls (lv_sub hl [2, 3, 4, 1, 0] rfl)
  refine lv_lconst (v := 0) hx hb dX1_rawAt_0 (by decide) ?_
  refine lv_lstore_n (lv' := [(3, .long 0), (0, .ref (AD 0 c9)), (1, .ref to), (2, .int pa)]) hx hb dX1_rawAt_1 rfl hl (by decide) rfl (fun ls hl => ?_)
  refine lv_iconst (v := 0) hx hb dX1_rawAt_2 (by decide) ?_
  refine lv_istore (lv' := [(5, .int 0), (3, .long 0), (0, .ref (AD 0 c9)), (1, .ref to), (2, .int pa)]) hx hb dX1_rawAt_3 hl (by decide) rfl (fun ls hl => ?_)
  exact hloop wd9 0 (by omega) G hto hro rfl _ _ hG hS ls (lv_sub hl [2, 3, 4, 1, 0] rfl)
