theorem tk_fld {e0 : Nat} {tk : Nat → Nat} {A : Nat → Prop} {s : State} (hE : ES e0 tk A s) {i : Nat} (hi : i < 35) (j : Nat) (hj : j < 3) : va_OF (tkF.getD j ("", "", "", [])).1 (tkF.getD j ("", "", "", [])).2.1 (tkF.getD j ("", "", "", [])).2.2.1 (.int ((tkF.getD j ("", "", "", [])).2.2.2.getD i 0)) (tk i) A s s.heap := by
  refine (hE.2.1 i hi).2.2 _ ?_
  rcases (show j = 0 ∨ j = 1 ∨ j = 2 by omega) with rfl | rfl | rfl <;> simp [tkF]
def isO (i : Nat) : Bool := decide (25 ≤ i)
def tkT (i : Nat) : Int32 := ([0, 0, 0, 0, 0, 0, 0, 0, 0, 0, 0, 0, 0, 0, 0, 0, 0, 0, 0, 0, 0, 0, 0, 0, 0, 0, 0, 2, 2, 2, 1, 2, 1, 1, 1] : List Int32).getD i 0
def tkL (i : Nat) : Int32 := ([0, 0, 0, 0, 0, 0, 0, 0, 0, 0, 0, 0, 0, 0, 0, 0, 0, 0, 0, 0, 0, 0, 0, 0, 0, 1, 1, 1, 1, 1, 2, 2, 0, 0, 0] : List Int32).getD i 0
def tkO (i : Nat) : Int32 := ([0, 1, 2, 3, 4, 5, 6, 7, 8, 9, 10, 11, 12, 13, 14, 15, 16, 17, 18, 19, 20, 21, 22, 23, 24, 25, 26, 27, 28, 29, 30, 31, 32, 33, 34] : List Int32).getD i 0
theorem isO_ok : ∀ i, i < 35 → (tkT i + tkL i ≤ 0 ↔ isO i = false) := by decide +kernel
theorem tkO_ok : ∀ i, i < 35 → tkO i = nI i := by decide +kernel
/-- a token's method's start: the receiver isn't ours -/
theorem mk_preT {D : va_G} {tys : List (ClassId × FieldType)} {A : Nat → Prop} {X : State → Prop} {G : Nat → Option va_E} {H : Heap} {s : State} {locs : List Loc} {As : List Value} {e0 i : Nat} {tk : Nat → Nat} (hst : mk_St A X) (hG : mm D vwCl A G H) (hK : va_K D vwCl tys s) (hA : ∀ q : Nat, s.heap.size ≤ q → A q) (hX : X s) (hS : va_S A s.heap H locs) (hE : ES e0 tk A s) (hi : i < 35) : PreV s H RX11 (tk i) (mk_Pre D vwCl tys A X G (.ref (tk i) :: As)) As :=
  ⟨mk_blind hst, va_Orecv (hE.2.1 i hi).2.1 hS, mk_at hst hG hK hA hX hS⟩
set_option maxHeartbeats 4000000 in
set_option maxRecDepth 100000 in
theorem c_X11_isOp (l : Launch) (D : va_G) (cy : Nat → ClassId) (A : Nat → Prop) (X : State → Prop) (hst : mk_St A X) (hXT : ∀ U : State, X U → TB U) (e0 : Nat) (tk : Nat → Nat) (hXE : ∀ U : State, X U → ES e0 tk A U) (G : Nat → Option va_E) (ti : Nat) (hti : ti < 35) : Met l yX11_isOp [.code yX11_isOp cX11_isOp 1 (some .boolean)] ({ frames := 0, cells := 0, slots := 0, locals := 0 }) (mk_Pre D vwCl (tyL cy) A X G [.ref (tk ti)]) (va_Qi (fun (r : Int32) (G2 : Nat → Option va_E) => r = b2i (isO ti) ∧ G2 = G) (mk_B D vwCl A) A) 0 0 A := by
  refine Met.ofW (cc := cX11_isOp) (maxL := 1) (ret := (some .boolean)) (by decide) rfl ?_
  intro p e s m args below meth c s₁ B hml hv
  obtain ⟨rfl, hG, hK, hA, hX⟩ := hv
  have hx := B.exec
  have hb := B.bytes
  have hr := B.returns
  have hlocks := B.notSynchronized
  have hT := hXT s hX
  have hown : s.vm.findClass RX11 = some m.cls := findClass_of_methodNamed B.named
  have hS : va_S A s.heap s.heap [] := va_S.rf
  have hE := hXE s hX
  have hl := lv_entry ([.ref (tk ti)]) (n := 1) (Nat.le_of_ble_eq_true rfl)
  rw [lg_entry_eq]
  generalize (lg_sl ([.ref (tk ti)]) ++ List.replicate (1 - (lg_sl ([.ref (tk ti)])).length) Slot.unset).toArray = ls at hl ⊢
  have hl : lv_has ls 1 [(0, .ref (tk ti))] := hl
  refine lv_aload_n hx hb dX11_isOp_0 rfl (lv_at hl 0 rfl) ?_
  refine vk_getf (v := .int (tkT ti)) hx hb (show va_OF _ _ _ (.int (tkT ti)) (tk ti) A s s.heap from tk_fld hE hti 0 (by decide)) hS hown (tb_use hT tw_1925) (fun _ h9 => h9) dX11_isOp_1 ?_
  refine lv_aload_n hx hb dX11_isOp_4 rfl (lv_at hl 0 rfl) ?_
  refine vk_getf (v := .int (tkL ti)) hx hb (show va_OF _ _ _ (.int (tkL ti)) (tk ti) A s s.heap from tk_fld hE hti 1 (by decide)) hS hown (tb_use hT tw_1926) (fun _ h9 => h9) dX11_isOp_5 ?_
  refine lv_iadd hx hb dX11_isOp_8 ?_
  refine lv_if_le (tgt := 16) hx hb dX11_isOp_9 (by decide) (fun c_9 => ?_) (fun c_9 => ?_)
  · skip
    refine lv_iconst (v := 0) hx hb dX11_isOp_16 (by decide) ?_
    exact W.zret (v := 0) hx hb hr rfl (fun t ht hW => ⟨⟨_, _, rfl, ⟨(by rw [(isO_ok ti hti).mp c_9]; rfl), rfl⟩, mk_end hG ht⟩, hS.F ht⟩) hS.2.2 dX11_isOp_17
  · skip
    refine lv_iconst (v := 1) hx hb dX11_isOp_12 (by decide) ?_
    refine lv_goto (tgt := 17) hx hb dX11_isOp_13 (by decide) ?_
    exact W.zret (v := 1) hx hb hr rfl (fun t ht hW => ⟨⟨_, _, rfl, ⟨(by cases hz : isO ti with | false => exact absurd ((isO_ok ti hti).mpr hz) c_9 | true => rfl), rfl⟩, mk_end hG ht⟩, hS.F ht⟩) hS.2.2 dX11_isOp_17

set_option maxHeartbeats 4000000 in
set_option maxRecDepth 100000 in
theorem c_ordinal (l : Launch) (D : va_G) (cy : Nat → ClassId) (A : Nat → Prop) (X : State → Prop) (hst : mk_St A X) (hXT : ∀ U : State, X U → TB U) (e0 : Nat) (tk : Nat → Nat) (hXE : ∀ U : State, X U → ES e0 tk A U) (G : Nat → Option va_E) (ti : Nat) (hti : ti < 35) : Met l yJx29ce0_ordinal_8abf5 [.code yJx29ce0_ordinal_8abf5 cJx29ce0_ordinal_8abf5 1 (some .int)] ({ frames := 0, cells := 0, slots := 0, locals := 0 }) (mk_Pre D vwCl (tyL cy) A X G [.ref (tk ti)]) (va_Qi (fun (r : Int32) (G2 : Nat → Option va_E) => r = nI ti ∧ G2 = G) (mk_B D vwCl A) A) 0 0 A := by
  refine Met.ofW (cc := cJx29ce0_ordinal_8abf5) (maxL := 1) (ret := (some .int)) (by decide) rfl ?_
  intro p e s m args below meth c s₁ B hml hv
  obtain ⟨rfl, hG, hK, hA, hX⟩ := hv
  have hx := B.exec
  have hb := B.bytes
  have hr := B.returns
  have hlocks := B.notSynchronized
  have hT := hXT s hX
  have hown : s.vm.findClass RJx29ce0 = some m.cls := findClass_of_methodNamed B.named
  have hS : va_S A s.heap s.heap [] := va_S.rf
  have hE := hXE s hX
  have hl := lv_entry ([.ref (tk ti)]) (n := 1) (Nat.le_of_ble_eq_true rfl)
  rw [lg_entry_eq]
  generalize (lg_sl ([.ref (tk ti)]) ++ List.replicate (1 - (lg_sl ([.ref (tk ti)])).length) Slot.unset).toArray = ls at hl ⊢
  have hl : lv_has ls 1 [(0, .ref (tk ti))] := hl
  refine lv_aload_n hx hb dJx29ce0_ordinal_8abf5_0 rfl (lv_at hl 0 rfl) ?_
  refine vk_getf (v := .int (tkO ti)) hx hb (show va_OF _ _ _ (.int (tkO ti)) (tk ti) A s s.heap from tk_fld hE hti 2 (by decide)) hS hown (tb_use hT tw_1924) (fun _ h9 => h9) dJx29ce0_ordinal_8abf5_1 ?_
  exact W.iret (v := (tkO ti)) hx hb hr (fun t ht hW => ⟨⟨_, _, rfl, ⟨tkO_ok ti hti, rfl⟩, mk_end hG ht⟩, hS.F ht⟩) hS.2.2 dJx29ce0_ordinal_8abf5_4
