def cHi (sg wd : Int32) : Int64 := if sg = 0 then (1 : Int64) <<< ((8 * wd : Int32).toInt64 &&& 63) - 1 else (1 : Int64) <<< ((8 * wd - 1 : Int32).toInt64 &&& 63) - 1
def cLo (sg wd : Int32) : Int64 := if sg = 0 then 0 else -((1 : Int64) <<< ((8 * wd - 1 : Int32).toInt64 &&& 63))
def cWh (ti ov pl r : Int64) : Int64 := r * ti + pl * ov
set_option maxHeartbeats 4000000 in
set_option maxRecDepth 100000 in
theorem c_X1_highest (l : Launch) (D : va_G) (cy : Nat → ClassId) (A : Nat → Prop) (X : State → Prop) (hst : mk_St A X) (hXT : ∀ U : State, X U → TB U) (e0 : Nat) (tk : Nat → Nat) (hXE : ∀ U : State, X U → ES e0 tk A U) (G : Nat → Option va_E) (ca rl : Nat) (nu at_ wd sg sc : Int32) (cn ti ov pl : Int64) (h9 : G ca = some (.inr (2, [.int nu, .int at_, .long cn, .ref rl, .int wd, .int sg, .int sc, .long ti, .long ov, .long pl]))) : Met l yX1_highest [.code yX1_highest cX1_highest 1 (some .long)] ({ frames := 0, cells := 0, slots := 0, locals := 0 }) (mk_Pre D vwCl (tyL cy) A X G [.ref ca]) (va_Ql (fun (r : Int64) (G2 : Nat → Option va_E) => r = cHi sg wd ∧ G2 = G) (mk_B D vwCl A) A) 0 0 A := by
  refine Met.ofW (cc := cX1_highest) (maxL := 1) (ret := (some .long)) (by decide) rfl ?_
  intro p e s m args below meth c s₁ B hml hv
  obtain ⟨rfl, hG, hK, hA, hX⟩ := hv
  have hx := B.exec
  have hb := B.bytes
  have hr := B.returns
  have hlocks := B.notSynchronized
  have hT := hXT s hX
  have hown : s.vm.findClass RX1 = some m.cls := findClass_of_methodNamed B.named
  have hf_X1 : ∀ w ∈ u_ws RX1 TX1 10, w.before ([.ref ca] : List Value).toArray s = true := tb_list hT fX1
  have hS : va_S A s.heap s.heap [] := va_S.rf
  have hE := hXE s hX
  have hl := lv_entry ([.ref ca]) (n := 1) (Nat.le_of_ble_eq_true rfl)
  rw [lg_entry_eq]
  generalize (lg_sl ([.ref ca]) ++ List.replicate (1 - (lg_sl ([.ref ca])).length) Slot.unset).toArray = ls at hl ⊢
  have hl : lv_has ls 1 [(0, .ref ca)] := hl
  refine lv_lconst (v := 1) hx hb dX1_highest_0 (by decide) ?_
  refine lv_aload_n hx hb dX1_highest_1 rfl (lv_at hl 0 rfl) ?_
  refine mm_get (v := .int sg) hx hb hf_X1 (fun _ h9 => h9) hown hK hG h9 rfl 5 (by decide) (tb_use hT tw_503) (fun _ h9 => h9) rfl dX1_highest_2 ?_
  refine lv_if_eq (tgt := 20) hx hb dX1_highest_5 (by decide) (fun c_5 => ?_) (fun c_5 => ?_)
  · skip
    refine lv_bipush (v := 8) hx hb dX1_highest_20 (by decide) ?_
    refine lv_aload_n hx hb dX1_highest_22 rfl (lv_at hl 0 rfl) ?_
    refine mm_get (v := .int wd) hx hb hf_X1 (fun _ h9 => h9) hown hK hG h9 rfl 4 (by decide) (tb_use hT tw_500) (fun _ h9 => h9) rfl dX1_highest_23 ?_
    refine lv_imul hx hb dX1_highest_26 ?_
    obtain ⟨x1, ex1⟩ : ∃ y, y = (1 : Int64) <<< (((8 * wd) : Int32).toInt64 &&& 63) := ⟨_, rfl⟩
    refine lv_lshl (v := x1) hx hb dX1_highest_27 ex1.symm ?_
    refine lv_lconst (v := 1) hx hb dX1_highest_28 (by decide) ?_
    refine lv_lsub hx hb dX1_highest_29 ?_
    exact W.lret (v := (x1 - 1)) hx hb hr (fun t ht hW => ⟨⟨_, _, rfl, ⟨(by rw [cHi, if_pos c_5, ex1]), rfl⟩, mk_end hG ht⟩, hS.F ht⟩) hS.2.2 dX1_highest_30
  · skip
    refine lv_bipush (v := 8) hx hb dX1_highest_8 (by decide) ?_
    refine lv_aload_n hx hb dX1_highest_10 rfl (lv_at hl 0 rfl) ?_
    refine mm_get (v := .int wd) hx hb hf_X1 (fun _ h9 => h9) hown hK hG h9 rfl 4 (by decide) (tb_use hT tw_500) (fun _ h9 => h9) rfl dX1_highest_11 ?_
    refine lv_imul hx hb dX1_highest_14 ?_
    refine lv_iconst (v := 1) hx hb dX1_highest_15 (by decide) ?_
    refine lv_isub hx hb dX1_highest_16 ?_
    refine lv_goto (tgt := 27) hx hb dX1_highest_17 (by decide) ?_
    obtain ⟨x2, ex2⟩ : ∃ y, y = (1 : Int64) <<< ((((8 * wd) - 1) : Int32).toInt64 &&& 63) := ⟨_, rfl⟩
    refine lv_lshl (v := x2) hx hb dX1_highest_27 ex2.symm ?_
    refine lv_lconst (v := 1) hx hb dX1_highest_28 (by decide) ?_
    refine lv_lsub hx hb dX1_highest_29 ?_
    exact W.lret (v := (x2 - 1)) hx hb hr (fun t ht hW => ⟨⟨_, _, rfl, ⟨(by rw [cHi, if_neg c_5, ex2]), rfl⟩, mk_end hG ht⟩, hS.F ht⟩) hS.2.2 dX1_highest_30

set_option maxHeartbeats 4000000 in
set_option maxRecDepth 100000 in
theorem c_X1_lowest (l : Launch) (D : va_G) (cy : Nat → ClassId) (A : Nat → Prop) (X : State → Prop) (hst : mk_St A X) (hXT : ∀ U : State, X U → TB U) (e0 : Nat) (tk : Nat → Nat) (hXE : ∀ U : State, X U → ES e0 tk A U) (G : Nat → Option va_E) (ca rl : Nat) (nu at_ wd sg sc : Int32) (cn ti ov pl : Int64) (h9 : G ca = some (.inr (2, [.int nu, .int at_, .long cn, .ref rl, .int wd, .int sg, .int sc, .long ti, .long ov, .long pl]))) : Met l yX1_lowest [.code yX1_lowest cX1_lowest 1 (some .long)] ({ frames := 0, cells := 0, slots := 0, locals := 0 }) (mk_Pre D vwCl (tyL cy) A X G [.ref ca]) (va_Ql (fun (r : Int64) (G2 : Nat → Option va_E) => r = cLo sg wd ∧ G2 = G) (mk_B D vwCl A) A) 0 0 A := by
  refine Met.ofW (cc := cX1_lowest) (maxL := 1) (ret := (some .long)) (by decide) rfl ?_
  intro p e s m args below meth c s₁ B hml hv
  obtain ⟨rfl, hG, hK, hA, hX⟩ := hv
  have hx := B.exec
  have hb := B.bytes
  have hr := B.returns
  have hlocks := B.notSynchronized
  have hT := hXT s hX
  have hown : s.vm.findClass RX1 = some m.cls := findClass_of_methodNamed B.named
  have hf_X1 : ∀ w ∈ u_ws RX1 TX1 10, w.before ([.ref ca] : List Value).toArray s = true := tb_list hT fX1
  have hS : va_S A s.heap s.heap [] := va_S.rf
  have hE := hXE s hX
  have hl := lv_entry ([.ref ca]) (n := 1) (Nat.le_of_ble_eq_true rfl)
  rw [lg_entry_eq]
  generalize (lg_sl ([.ref ca]) ++ List.replicate (1 - (lg_sl ([.ref ca])).length) Slot.unset).toArray = ls at hl ⊢
  have hl : lv_has ls 1 [(0, .ref ca)] := hl
  refine lv_aload_n hx hb dX1_lowest_0 rfl (lv_at hl 0 rfl) ?_
  refine mm_get (v := .int sg) hx hb hf_X1 (fun _ h9 => h9) hown hK hG h9 rfl 5 (by decide) (tb_use hT tw_503) (fun _ h9 => h9) rfl dX1_lowest_1 ?_
  refine lv_if_eq (tgt := 22) hx hb dX1_lowest_4 (by decide) (fun c_4 => ?_) (fun c_4 => ?_)
  · skip
    refine lv_lconst (v := 0) hx hb dX1_lowest_22 (by decide) ?_
    exact W.lret (v := 0) hx hb hr (fun t ht hW => ⟨⟨_, _, rfl, ⟨(by rw [cLo, if_pos c_4]), rfl⟩, mk_end hG ht⟩, hS.F ht⟩) hS.2.2 dX1_lowest_23
  · skip
    refine lv_lconst (v := 1) hx hb dX1_lowest_7 (by decide) ?_
    refine lv_bipush (v := 8) hx hb dX1_lowest_8 (by decide) ?_
    refine lv_aload_n hx hb dX1_lowest_10 rfl (lv_at hl 0 rfl) ?_
    refine mm_get (v := .int wd) hx hb hf_X1 (fun _ h9 => h9) hown hK hG h9 rfl 4 (by decide) (tb_use hT tw_500) (fun _ h9 => h9) rfl dX1_lowest_11 ?_
    refine lv_imul hx hb dX1_lowest_14 ?_
    refine lv_iconst (v := 1) hx hb dX1_lowest_15 (by decide) ?_
    refine lv_isub hx hb dX1_lowest_16 ?_
    obtain ⟨x1, ex1⟩ : ∃ y, y = (1 : Int64) <<< ((((8 * wd) - 1) : Int32).toInt64 &&& 63) := ⟨_, rfl⟩
    refine lv_lshl (v := x1) hx hb dX1_lowest_17 ex1.symm ?_
    refine lv_lneg hx hb dX1_lowest_18 ?_
    refine lv_goto (tgt := 23) hx hb dX1_lowest_19 (by decide) ?_
    exact W.lret (v := (-x1)) hx hb hr (fun t ht hW => ⟨⟨_, _, rfl, ⟨(by rw [cLo, if_neg c_4, ex1]), rfl⟩, mk_end hG ht⟩, hS.F ht⟩) hS.2.2 dX1_lowest_23

set_option maxHeartbeats 4000000 in
set_option maxRecDepth 100000 in
theorem c_X1_whole (l : Launch) (D : va_G) (cy : Nat → ClassId) (A : Nat → Prop) (X : State → Prop) (hst : mk_St A X) (hXT : ∀ U : State, X U → TB U) (e0 : Nat) (tk : Nat → Nat) (hXE : ∀ U : State, X U → ES e0 tk A U) (G : Nat → Option va_E) (ca rl : Nat) (nu at_ wd sg sc : Int32) (cn ti ov pl : Int64) (rw_ : Int64) (h9 : G ca = some (.inr (2, [.int nu, .int at_, .long cn, .ref rl, .int wd, .int sg, .int sc, .long ti, .long ov, .long pl]))) : Met l yX1_whole [.code yX1_whole cX1_whole 3 (some .long)] ({ frames := 0, cells := 0, slots := 0, locals := 0 }) (mk_Pre D vwCl (tyL cy) A X G [.ref ca, .long rw_]) (va_Ql (fun (r : Int64) (G2 : Nat → Option va_E) => r = cWh ti ov pl rw_ ∧ G2 = G) (mk_B D vwCl A) A) 0 0 A := by
  refine Met.ofW (cc := cX1_whole) (maxL := 3) (ret := (some .long)) (by decide) rfl ?_
  intro p e s m args below meth c s₁ B hml hv
  obtain ⟨rfl, hG, hK, hA, hX⟩ := hv
  have hx := B.exec
  have hb := B.bytes
  have hr := B.returns
  have hlocks := B.notSynchronized
  have hT := hXT s hX
  have hown : s.vm.findClass RX1 = some m.cls := findClass_of_methodNamed B.named
  have hf_X1 : ∀ w ∈ u_ws RX1 TX1 10, w.before ([.ref ca, .long rw_] : List Value).toArray s = true := tb_list hT fX1
  have hS : va_S A s.heap s.heap [] := va_S.rf
  have hE := hXE s hX
  have hl := lv_entry ([.ref ca, .long rw_]) (n := 3) (Nat.le_of_ble_eq_true rfl)
  rw [lg_entry_eq]
  generalize (lg_sl ([.ref ca, .long rw_]) ++ List.replicate (3 - (lg_sl ([.ref ca, .long rw_])).length) Slot.unset).toArray = ls at hl ⊢
  have hl : lv_has ls 3 [(0, .ref ca), (1, .long rw_)] := hl
  refine lv_lload_n hx hb dX1_whole_0 rfl (lv_at hl 1 rfl) ?_
  refine lv_aload_n hx hb dX1_whole_1 rfl (lv_at hl 0 rfl) ?_
  refine mm_get (v := .long ti) hx hb hf_X1 (fun _ h9 => h9) hown hK hG h9 rfl 7 (by decide) (tb_use hT tw_507) (fun _ h9 => h9) rfl dX1_whole_2 ?_
  refine lv_lmul hx hb dX1_whole_5 ?_
  refine lv_aload_n hx hb dX1_whole_6 rfl (lv_at hl 0 rfl) ?_
  refine mm_get (v := .long pl) hx hb hf_X1 (fun _ h9 => h9) hown hK hG h9 rfl 9 (by decide) (tb_use hT tw_511) (fun _ h9 => h9) rfl dX1_whole_7 ?_
  refine lv_aload_n hx hb dX1_whole_10 rfl (lv_at hl 0 rfl) ?_
  refine mm_get (v := .long ov) hx hb hf_X1 (fun _ h9 => h9) hown hK hG h9 rfl 8 (by decide) (tb_use hT tw_509) (fun _ h9 => h9) rfl dX1_whole_11 ?_
  refine lv_lmul hx hb dX1_whole_14 ?_
  refine lv_ladd hx hb dX1_whole_15 ?_
  exact W.lret (v := ((rw_ * ti) + (pl * ov))) hx hb hr (fun t ht hW => ⟨⟨_, _, rfl, ⟨rfl, rfl⟩, mk_end hG ht⟩, hS.F ht⟩) hS.2.2 dX1_whole_16

set_option maxHeartbeats 4000000 in
set_option maxRecDepth 100000 in
theorem c_X8_lay (l : Launch) (D : va_G) (cy : Nat → ClassId) (A : Nat → Prop) (X : State → Prop) (hst : mk_St A X) (hXT : ∀ U : State, X U → TB U) (e0 : Nat) (tk : Nat → Nat) (hXE : ∀ U : State, X U → ES e0 tk A U) (G : Nat → Option va_E) (pa : Nat) (nu at_ ca_ kd ea_ z pla siz : Int32) (cn cc_ en raw rem : Int64) (co er_ : Option Nat) (np ns : Int32) (nr : Int64) (h9 : G pa = some (.inr (9, [.int nu, .int at_, .long cn, .long cc_, .int ca_, va_rf co, .int kd, .long en, .int ea_, va_rf er_, .int z, .int pla, .int siz, .long raw, .long rem]))) : Met l yX8_lay [.code yX8_lay cX8_lay 5 none] ({ frames := 0, cells := 0, slots := 0, locals := 0 }) (mk_Pre D vwCl (tyL cy) A X G [.ref pa, .int np, .int ns, .long nr]) (va_Qv (fun (G2 : Nat → Option va_E) => G2 = mm_set G pa (.inr (9, [.int nu, .int at_, .long cn, .long cc_, .int ca_, va_rf co, .int kd, .long en, .int ea_, va_rf er_, .int z, .int np, .int ns, .long nr, .long rem]))) (mk_B D vwCl A) A) 0 0 A := by
  refine Met.ofW (cc := cX8_lay) (maxL := 5) (ret := none) (by decide) rfl ?_
  intro p e s m args below meth c s₁ B hml hv
  obtain ⟨rfl, hG, hK, hA, hX⟩ := hv
  have hx := B.exec
  have hb := B.bytes
  have hr := B.returns
  have hlocks := B.notSynchronized
  have hT := hXT s hX
  have hown : s.vm.findClass RX8 = some m.cls := findClass_of_methodNamed B.named
  have hf_X8 : ∀ w ∈ u_ws RX8 TX8 15, w.before ([.ref pa, .int np, .int ns, .long nr] : List Value).toArray s = true := tb_list hT fX8
  have hS : va_S A s.heap s.heap [] := va_S.rf
  have hE := hXE s hX
  have hl := lv_entry ([.ref pa, .int np, .int ns, .long nr]) (n := 5) (Nat.le_of_ble_eq_true rfl)
  rw [lg_entry_eq]
  generalize (lg_sl ([.ref pa, .int np, .int ns, .long nr]) ++ List.replicate (5 - (lg_sl ([.ref pa, .int np, .int ns, .long nr])).length) Slot.unset).toArray = ls at hl ⊢
  have hl : lv_has ls 5 [(0, .ref pa), (1, .int np), (2, .int ns), (3, .long nr)] := hl
  refine lv_aload_n hx hb dX8_lay_0 rfl (lv_at hl 0 rfl) ?_
  refine lv_iload_n hx hb dX8_lay_1 rfl (lv_at hl 1 rfl) ?_
  refine mm_put (v := .int np) (ty := .int) hx hb hf_X8 (fun _ h9 => h9) tyX8 tyX8_ok nmX8 hown hK hG hS h9 rfl 11 (by decide) (tb_use hT tw_803) (fun _ h9 => h9) rfl (by decide +kernel) rfl rfl (Nat.le_of_ble_eq_true rfl) dX8_lay_2 (fun H locs hG hS => ?_)
  obtain ⟨G1, eG1⟩ : ∃ g, g = mm_set G pa (.inr (9, [.int nu, .int at_, .long cn, .long cc_, .int ca_, va_rf co, .int kd, .long en, .int ea_, va_rf er_, .int z, .int np, .int siz, .long raw, .long rem])) := ⟨_, rfl⟩
  have hG : mm D vwCl A G1 H := by rw [eG1]; exact hG
  have k2 : G1 pa = some (.inr (9, [.int nu, .int at_, .long cn, .long cc_, .int ca_, va_rf co, .int kd, .long en, .int ea_, va_rf er_, .int z, .int np, .int siz, .long raw, .long rem])) := by rw [eG1]; exact mm_set_self
  refine lv_aload_n hx hb dX8_lay_5 rfl (lv_at hl 0 rfl) ?_
  refine lv_iload_n hx hb dX8_lay_6 rfl (lv_at hl 2 rfl) ?_
  refine mm_put (v := .int ns) (ty := .int) hx hb hf_X8 (fun _ h9 => h9) tyX8 tyX8_ok nmX8 hown hK hG hS k2 rfl 12 (by decide) (tb_use hT tw_806) (fun _ h9 => h9) rfl (by decide +kernel) rfl rfl (Nat.le_of_ble_eq_true rfl) dX8_lay_7 (fun H locs hG hS => ?_)
  obtain ⟨G3, eG3⟩ : ∃ g, g = mm_set G1 pa (.inr (9, [.int nu, .int at_, .long cn, .long cc_, .int ca_, va_rf co, .int kd, .long en, .int ea_, va_rf er_, .int z, .int np, .int ns, .long raw, .long rem])) := ⟨_, rfl⟩
  have hG : mm D vwCl A G3 H := by rw [eG3]; exact hG
  have k4 : G3 pa = some (.inr (9, [.int nu, .int at_, .long cn, .long cc_, .int ca_, va_rf co, .int kd, .long en, .int ea_, va_rf er_, .int z, .int np, .int ns, .long raw, .long rem])) := by rw [eG3]; exact mm_set_self
  refine lv_aload_n hx hb dX8_lay_10 rfl (lv_at hl 0 rfl) ?_
  refine lv_lload_n hx hb dX8_lay_11 rfl (lv_at hl 3 rfl) ?_
  refine mm_put (v := .long nr) (ty := .long) hx hb hf_X8 (fun _ h9 => h9) tyX8 tyX8_ok nmX8 hown hK hG hS k4 rfl 13 (by decide) (tb_use hT tw_809) (fun _ h9 => h9) rfl (by decide +kernel) rfl rfl (Nat.le_of_ble_eq_true rfl) dX8_lay_12 (fun H locs hG hS => ?_)
  obtain ⟨G5, eG5⟩ : ∃ g, g = mm_set G3 pa (.inr (9, [.int nu, .int at_, .long cn, .long cc_, .int ca_, va_rf co, .int kd, .long en, .int ea_, va_rf er_, .int z, .int np, .int ns, .long nr, .long rem])) := ⟨_, rfl⟩
  have hG : mm D vwCl A G5 H := by rw [eG5]; exact hG
  have k6 : G5 pa = some (.inr (9, [.int nu, .int at_, .long cn, .long cc_, .int ca_, va_rf co, .int kd, .long en, .int ea_, va_rf er_, .int z, .int np, .int ns, .long nr, .long rem])) := by rw [eG5]; exact mm_set_self
  exact W.vret hx hb hr (fun t ht hW => ⟨⟨_, rfl, (by rw [eG5, eG3, eG1, mm_set_set, mm_set_set]), mk_end hG ht⟩, hS.F ht⟩) hS.2.2 dX8_lay_15
