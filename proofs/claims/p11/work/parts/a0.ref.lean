/-! ===== the reference over any text ===== -/
theorem in_of {x y : Int32} {n : Nat} (h1 : ¬ x < 0) (h2 : x < y) (h3 : y ≤ nI n) (hn : n < 2 ^ 31) : ¬ (x < 0 ∨ n ≤ x.toNatClampNeg) := by
  obtain ⟨j, hj, e⟩ := nI_of h1
  have h4 : j < n := (nI_ltI hj hn).mp (by rw [← e]; exact Int32.lt_of_lt_of_le h2 h3)
  rw [e]
  exact nI_in h4 hn
/-- the sign under way, -1 at the end -/
def hrF (sf : Nat → Int32) (a e : Int32) : Int32 := if a < e then sf a.toNatClampNeg else -1

set_option maxHeartbeats 4000000 in
set_option maxRecDepth 100000 in
theorem c_M_here (l : Launch) (D : va_G) (cy : Nat → ClassId) (A : Nat → Prop) (X : State → Prop) (hst : mk_St A X) (hXT : ∀ U : State, X U → TB U) (G : Nat → Option va_E) (o : Nat) (Ar : Nat → Nat) (Iv : Nat → Int32) (F : Nat → Nat → Int32) (L : Nat → Nat → Int64) (sN : Nat) (sf : Nat → Int32) (hM : MD cy G o Ar Iv F L) (hs : G (Ar 47) = some (.inl (cy 1, sN, .inl sf))) (hsN : sN < 2 ^ 31) (hlo : ¬ Iv 50 < 0) (hhi : Iv 49 ≤ nI sN) : Met l yX14_here [.code yX14_here cX14_here 1 (some .int)] ({ frames := 0, cells := 0, slots := 0, locals := 0 }) (mk_Pre D vwCl (tyL cy) A X G [.ref o]) (va_Qi (fun (r : Int32) (G2 : Nat → Option va_E) => r = hrF sf (Iv 50) (Iv 49) ∧ G2 = G) (mk_B D vwCl A) A) 0 0 A := by
  refine Met.ofW (cc := cX14_here) (maxL := 1) (ret := (some .int)) (by decide) rfl ?_
  intro p e s m args below meth c s₁ B hml hv
  obtain ⟨rfl, hG, hK, hA, hX⟩ := hv
  have hx := B.exec
  have hb := B.bytes
  have hr := B.returns
  have hlocks := B.notSynchronized
  have hT := hXT s hX
  have hown : s.vm.findClass RX14 = some m.cls := findClass_of_methodNamed B.named
  have hf_X14 : ∀ w ∈ u_ws RX14 TX14 76, w.before ([.ref o] : List Value).toArray s = true := tb_list hT fX14
  have hS : va_S A s.heap s.heap [] := va_S.rf
  have hl := lv_entry ([.ref o]) (n := 1) (Nat.le_of_ble_eq_true rfl)
  rw [lg_entry_eq]
  generalize (lg_sl ([.ref o]) ++ List.replicate (1 - (lg_sl ([.ref o])).length) Slot.unset).toArray = ls at hl ⊢
  have hl : lv_has ls 1 [(0, .ref o)] := hl
  refine lv_aload_n hx hb dX14_here_0 rfl (lv_at hl 0 rfl) ?_
  refine mm_get (v := .int (Iv 50)) hx hb hf_X14 (fun _ h9 => h9) hown hK hG hM.1 rfl 50 (by decide) (tb_use hT tw_1441) (fun _ h9 => h9) (mfs_g50 _ _) dX14_here_1 ?_
  refine lv_aload_n hx hb dX14_here_4 rfl (lv_at hl 0 rfl) ?_
  refine mm_get (v := .int (Iv 49)) hx hb hf_X14 (fun _ h9 => h9) hown hK hG hM.1 rfl 49 (by decide) (tb_use hT tw_1440) (fun _ h9 => h9) (mfs_g49 _ _) dX14_here_5 ?_
  refine lv_icmp_ge (tgt := 23) hx hb dX14_here_8 (by decide) (fun c_8 => ?_) (fun c_8 => ?_)
  · skip
    refine lv_iconst (v := (-1)) hx hb dX14_here_23 (by decide) ?_
    exact W.iret (v := (-1)) hx hb hr (fun t ht hW => ⟨⟨_, _, rfl, ⟨(by rw [hrF, if_neg (Int32.not_lt.mpr c_8)]), rfl⟩, mk_end hG ht⟩, hS.F ht⟩) hS.2.2 dX14_here_24
  · skip
    refine lv_aload_n hx hb dX14_here_11 rfl (lv_at hl 0 rfl) ?_
    refine mm_get (v := .ref (Ar 47)) hx hb hf_X14 (fun _ h9 => h9) hown hK hG hM.1 rfl 47 (by decide) (tb_use hT tw_1438) (fun _ h9 => h9) (mfs_g47 _ _) dX14_here_12 ?_
    refine lv_aload_n hx hb dX14_here_15 rfl (lv_at hl 0 rfl) ?_
    refine mm_get (v := .int (Iv 50)) hx hb hf_X14 (fun _ h9 => h9) hown hK hG hM.1 rfl 50 (by decide) (tb_use hT tw_1441) (fun _ h9 => h9) (mfs_g50 _ _) dX14_here_16 ?_
    refine mm_iald hx hb hK hG 1 hs rfl (in_of hlo (Int32.not_le.mp c_8) hhi hsN) dX14_here_19 ?_
    refine lv_topi (fun x1 ex1 => ?_)
    refine lv_goto (tgt := 24) hx hb dX14_here_20 (by decide) ?_
    exact W.iret (v := x1) hx hb hr (fun t ht hW => ⟨⟨_, _, rfl, ⟨(by rw [hrF, if_pos (Int32.not_le.mp c_8), ex1]), rfl⟩, mk_end hG ht⟩, hS.F ht⟩) hS.2.2 dX14_here_24

set_option maxHeartbeats 4000000 in
set_option maxRecDepth 100000 in
theorem c_M_isLe (l : Launch) (D : va_G) (cy : Nat → ClassId) (A : Nat → Prop) (X : State → Prop) (hst : mk_St A X) (hXT : ∀ U : State, X U → TB U) (G : Nat → Option va_E) (xa : Int32)  : Met l yX14_isLetter [.code yX14_isLetter cX14_isLetter 1 (some .boolean)] ({ frames := 0, cells := 0, slots := 0, locals := 0 }) (mk_Pre D vwCl (tyL cy) A X G [.int xa]) (va_Qi (fun (r : Int32) (G2 : Nat → Option va_E) => r = b2i (isLe xa) ∧ G2 = G) (mk_B D vwCl A) A) 0 0 A := by
  refine Met.ofW (cc := cX14_isLetter) (maxL := 1) (ret := (some .boolean)) (by decide) rfl ?_
  intro p e s m args below meth c s₁ B hml hv
  obtain ⟨rfl, hG, hK, hA, hX⟩ := hv
  have hx := B.exec
  have hb := B.bytes
  have hr := B.returns
  have hlocks := B.notSynchronized
  have hT := hXT s hX
  have hown : s.vm.findClass RX14 = some m.cls := findClass_of_methodNamed B.named
  have hS : va_S A s.heap s.heap [] := va_S.rf
  have hl := lv_entry ([.int xa]) (n := 1) (Nat.le_of_ble_eq_true rfl)
  rw [lg_entry_eq]
  generalize (lg_sl ([.int xa]) ++ List.replicate (1 - (lg_sl ([.int xa])).length) Slot.unset).toArray = ls at hl ⊢
  have hl : lv_has ls 1 [(0, .int xa)] := hl
  refine lv_iload_n hx hb dX14_isLetter_0 rfl (lv_at hl 0 rfl) ?_
  refine lv_bipush (v := 97) hx hb dX14_isLetter_1 (by decide) ?_
  refine lv_icmp_lt (tgt := 16) hx hb dX14_isLetter_3 (by decide) (fun c_3 => ?_) (fun c_3 => ?_)
  · skip
    refine lv_iconst (v := 0) hx hb dX14_isLetter_16 (by decide) ?_
    exact W.zret (v := 0) hx hb hr rfl (fun t ht hW => ⟨⟨_, _, rfl, ⟨(by rw [show isLe xa = false by unfold isLe; rw [decide_eq_false (Int32.not_le.mpr c_3)]; rfl]; rfl), rfl⟩, mk_end hG ht⟩, hS.F ht⟩) hS.2.2 dX14_isLetter_17
  · skip
    refine lv_iload_n hx hb dX14_isLetter_6 rfl (lv_at hl 0 rfl) ?_
    refine lv_bipush (v := 122) hx hb dX14_isLetter_7 (by decide) ?_
    refine lv_icmp_gt (tgt := 16) hx hb dX14_isLetter_9 (by decide) (fun c_9 => ?_) (fun c_9 => ?_)
    · skip
      refine lv_iconst (v := 0) hx hb dX14_isLetter_16 (by decide) ?_
      exact W.zret (v := 0) hx hb hr rfl (fun t ht hW => ⟨⟨_, _, rfl, ⟨(by rw [show isLe xa = false by unfold isLe; rw [decide_eq_false (Int32.not_le.mpr c_9), Bool.and_false]]; rfl), rfl⟩, mk_end hG ht⟩, hS.F ht⟩) hS.2.2 dX14_isLetter_17
    · skip
      refine lv_iconst (v := 1) hx hb dX14_isLetter_12 (by decide) ?_
      refine lv_goto (tgt := 17) hx hb dX14_isLetter_13 (by decide) ?_
      exact W.zret (v := 1) hx hb hr rfl (fun t ht hW => ⟨⟨_, _, rfl, ⟨(by rw [show isLe xa = true by unfold isLe; rw [decide_eq_true (Int32.not_lt.mp c_3), decide_eq_true (Int32.not_lt.mp c_9)]; rfl]; rfl), rfl⟩, mk_end hG ht⟩, hS.F ht⟩) hS.2.2 dX14_isLetter_17

set_option maxHeartbeats 4000000 in
set_option maxRecDepth 100000 in
theorem c_M_isDi (l : Launch) (D : va_G) (cy : Nat → ClassId) (A : Nat → Prop) (X : State → Prop) (hst : mk_St A X) (hXT : ∀ U : State, X U → TB U) (G : Nat → Option va_E) (xa : Int32)  : Met l yX14_isDigit [.code yX14_isDigit cX14_isDigit 1 (some .boolean)] ({ frames := 0, cells := 0, slots := 0, locals := 0 }) (mk_Pre D vwCl (tyL cy) A X G [.int xa]) (va_Qi (fun (r : Int32) (G2 : Nat → Option va_E) => r = b2i (isDi xa) ∧ G2 = G) (mk_B D vwCl A) A) 0 0 A := by
  refine Met.ofW (cc := cX14_isDigit) (maxL := 1) (ret := (some .boolean)) (by decide) rfl ?_
  intro p e s m args below meth c s₁ B hml hv
  obtain ⟨rfl, hG, hK, hA, hX⟩ := hv
  have hx := B.exec
  have hb := B.bytes
  have hr := B.returns
  have hlocks := B.notSynchronized
  have hT := hXT s hX
  have hown : s.vm.findClass RX14 = some m.cls := findClass_of_methodNamed B.named
  have hS : va_S A s.heap s.heap [] := va_S.rf
  have hl := lv_entry ([.int xa]) (n := 1) (Nat.le_of_ble_eq_true rfl)
  rw [lg_entry_eq]
  generalize (lg_sl ([.int xa]) ++ List.replicate (1 - (lg_sl ([.int xa])).length) Slot.unset).toArray = ls at hl ⊢
  have hl : lv_has ls 1 [(0, .int xa)] := hl
  refine lv_iload_n hx hb dX14_isDigit_0 rfl (lv_at hl 0 rfl) ?_
  refine lv_bipush (v := 48) hx hb dX14_isDigit_1 (by decide) ?_
  refine lv_icmp_lt (tgt := 16) hx hb dX14_isDigit_3 (by decide) (fun c_3 => ?_) (fun c_3 => ?_)
  · skip
    refine lv_iconst (v := 0) hx hb dX14_isDigit_16 (by decide) ?_
    exact W.zret (v := 0) hx hb hr rfl (fun t ht hW => ⟨⟨_, _, rfl, ⟨(by rw [show isDi xa = false by unfold isDi; rw [decide_eq_false (Int32.not_le.mpr c_3)]; rfl]; rfl), rfl⟩, mk_end hG ht⟩, hS.F ht⟩) hS.2.2 dX14_isDigit_17
  · skip
    refine lv_iload_n hx hb dX14_isDigit_6 rfl (lv_at hl 0 rfl) ?_
    refine lv_bipush (v := 57) hx hb dX14_isDigit_7 (by decide) ?_
    refine lv_icmp_gt (tgt := 16) hx hb dX14_isDigit_9 (by decide) (fun c_9 => ?_) (fun c_9 => ?_)
    · skip
      refine lv_iconst (v := 0) hx hb dX14_isDigit_16 (by decide) ?_
      exact W.zret (v := 0) hx hb hr rfl (fun t ht hW => ⟨⟨_, _, rfl, ⟨(by rw [show isDi xa = false by unfold isDi; rw [decide_eq_false (Int32.not_le.mpr c_9), Bool.and_false]]; rfl), rfl⟩, mk_end hG ht⟩, hS.F ht⟩) hS.2.2 dX14_isDigit_17
    · skip
      refine lv_iconst (v := 1) hx hb dX14_isDigit_12 (by decide) ?_
      refine lv_goto (tgt := 17) hx hb dX14_isDigit_13 (by decide) ?_
      exact W.zret (v := 1) hx hb hr rfl (fun t ht hW => ⟨⟨_, _, rfl, ⟨(by rw [show isDi xa = true by unfold isDi; rw [decide_eq_true (Int32.not_lt.mp c_3), decide_eq_true (Int32.not_lt.mp c_9)]; rfl]; rfl), rfl⟩, mk_end hG ht⟩, hS.F ht⟩) hS.2.2 dX14_isDigit_17
