set_option maxHeartbeats 4000000 in
set_option maxRecDepth 100000 in
theorem c_X13_parameterNumbered_0 (l : Launch) (D : va_G) (cy : Nat → ClassId) (A : Nat → Prop) (X : State → Prop) (hst : mk_St A X) (hXT : ∀ U : State, X U → TB U) (G : Nat → Option va_E) (i : Int32)  : Met l yX13_parameterNumbered [.code yX13_parameterNumbered cX13_parameterNumbered 2 (some (.object "DescribeText$Parameter"))] ({ frames := 0, cells := 0, slots := 0, locals := 0 }) (mk_Pre D vwCl (tyL cy) A X G [.null, .int i]) (va_Qq (fun (r : Option Nat) (G2 : Nat → Option va_E) => r = none ∧ G2 = G) (mk_B D vwCl A) A) 0 0 A := by
  refine Met.ofW (cc := cX13_parameterNumbered) (maxL := 2) (ret := (some (.object "DescribeText$Parameter"))) (by decide) rfl ?_
  intro p e s m args below meth c s₁ B hml hv
  obtain ⟨rfl, hG, hK, hA, hX⟩ := hv
  have hx := B.exec
  have hb := B.bytes
  have hr := B.returns
  have hlocks := B.notSynchronized
  have hT := hXT s hX
  have hown : s.vm.findClass RX13 = some m.cls := findClass_of_methodNamed B.named
  have hS : va_S A s.heap s.heap [] := va_S.rf
  have hl := lv_entry ([.null, .int i]) (n := 2) (Nat.le_of_ble_eq_true rfl)
  rw [lg_entry_eq]
  generalize (lg_sl ([.null, .int i]) ++ List.replicate (2 - (lg_sl ([.null, .int i])).length) Slot.unset).toArray = ls at hl ⊢
  have hl : lv_has ls 2 [(0, .null), (1, .int i)] := hl
  refine lv_aload_nN hx hb dX13_parameterNumbered_0 rfl (lv_at hl 0 rfl) ?_
  refine lv_ifnullN (tgt := 20) hx hb dX13_parameterNumbered_1 (by decide) ?_
  refine lv_null hx hb dX13_parameterNumbered_20 ?_
  exact W.aret (v := .null) hx hb hr (Or.inl ⟨_, rfl⟩) (Or.inl rfl) (fun t ht hW => ⟨⟨(none : Option Nat), _, rfl, ⟨rfl, rfl⟩, mk_end hG ht⟩, hS.F ht⟩) hS.2.2 dX13_parameterNumbered_21
