set_option maxHeartbeats 4000000 in
set_option maxRecDepth 100000 in
theorem c_X14_thrown (l : Launch) (D : va_G) (cy : Nat → ClassId) (A : Nat → Prop) (X : State → Prop) (hst : mk_St A X) (hXT : ∀ U : State, X U → TB U) (G : Nat → Option va_E) (o : Nat) (Ar : Nat → Nat) (Iv : Nat → Int32) (F : Nat → Nat → Int32) (L : Nat → Nat → Int64)  (hM : MD cy G o Ar Iv F L)  : Met l yX14_thrown [.code yX14_thrown cX14_thrown 1 (some .int)] ({ frames := 0, cells := 0, slots := 0, locals := 0 }) (mk_Pre D vwCl (tyL cy) A X G [.ref o]) (va_Qi (fun (r : Int32) (G2 : Nat → Option va_E) => r = Iv 38 ∧ G2 = G) (mk_B D vwCl A) A) 0 0 A := by
  refine Met.ofW (cc := cX14_thrown) (maxL := 1) (ret := (some .int)) (by decide) rfl ?_
  intro p e s m args below meth c s₁ B hml hv
  obtain ⟨rfl, hG, hK, hA, hX⟩ := hv
  have hx := B.exec
  have hb := B.bytes
  have hr := B.returns
  have hlocks := B.notSynchronized
  have hT := hXT s hX
  have hown : s.vm.findClass RX14 = some m.cls := findClass_of_methodNamed B.named
  have hf_X14 : ∀ w ∈ u_ws RX14 TX14 76, w.before ([.ref o] : List Value).toArray s = true := tb_list hT fX14
  have hS : va_S A s.heap s.heap [] := va_S.rf
  have hl := lv_entry ([.ref o]) (n := 1) (Nat.le_of_ble_eq_true rfl)
  rw [lg_entry_eq]
  generalize (lg_sl ([.ref o]) ++ List.replicate (1 - (lg_sl ([.ref o])).length) Slot.unset).toArray = ls at hl ⊢
  have hl : lv_has ls 1 [(0, .ref o)] := hl
  refine lv_aload_n hx hb dX14_thrown_0 rfl (lv_at hl 0 rfl) ?_
  refine mm_get (v := .int (Iv 38)) hx hb hf_X14 (fun _ h9 => h9) hown hK hG hM.1 rfl 38 (by decide) (tb_use hT tw_1429) (fun _ h9 => h9) (mfs_g38 _ _) dX14_thrown_1 ?_
  exact W.iret (v := (Iv 38)) hx hb hr (fun t ht hW => ⟨⟨_, _, rfl, ⟨rfl, rfl⟩, mk_end hG ht⟩, hS.F ht⟩) hS.2.2 dX14_thrown_4
