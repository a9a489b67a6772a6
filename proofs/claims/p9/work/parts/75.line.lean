/-- the line behind j octets -/
def lnc (f : Nat → Int32) : Nat → Int32
  | 0 => 1
  | j + 1 => if f j = 10 then lnc f j + 1 else lnc f j
set_option maxHeartbeats 4000000 in
set_option maxRecDepth 100000 in
theorem c_X13_lineAt (l : Launch) (D : va_G) (cy : Nat → ClassId) (A : Nat → Prop) (X : State → Prop) (hst : mk_St A X) (hXT : ∀ U : State, X U → TB U) (e0 : Nat) (tk : Nat → Nat) (hXE : ∀ U : State, X U → ES e0 tk A U) (G : Nat → Option va_E) (o tx rd to se kp : Nat) (hd rg : Option Nat) (kc : Int32) (tn pn : Nat) (ft : Nat → Int32) (h0 : G o = some (.inr (14, [.ref tx, .ref rd, .ref to, .ref se, .ref kp, .int (nI tn), .int kc, va_rf hd, va_rf rg]))) (htx : G tx = some (.inl (cy 0, 2000, .inl ft))) (htn : tn ≤ 2000) (hpn : pn < 100000) : Met l yX13_lineAt [.code yX13_lineAt cX13_lineAt 4 (some .int)] ({ frames := 0, cells := 0, slots := 0, locals := 0 }) (mk_Pre D vwCl (tyL cy) A X G [.ref o, .int (nI pn)]) (va_Qi (fun (r : Int32) (G2 : Nat → Option va_E) => r = lnc ft (min pn tn) ∧ G2 = G) (mk_B D vwCl A) A) 0 0 A := by
  refine Met.ofW (cc := cX13_lineAt) (maxL := 4) (ret := (some .int)) (by decide) rfl ?_
  intro p e s m args below meth c s₁ B hml hv
  obtain ⟨rfl, hG, hK, hA, hX⟩ := hv
  have hx := B.exec
  have hb := B.bytes
  have hr := B.returns
  have hlocks := B.notSynchronized
  have hT := hXT s hX
  have hown : s.vm.findClass RX13 = some m.cls := findClass_of_methodNamed B.named
  have hf_X13 : ∀ w ∈ u_ws RX13 TX13 9, w.before ([.ref o, .int (nI pn)] : List Value).toArray s = true := tb_list hT fX13
  have hS : va_S A s.heap s.heap [] := va_S.rf
  have hE := hXE s hX
  have hl := lv_entry ([.ref o, .int (nI pn)]) (n := 4) (Nat.le_of_ble_eq_true rfl)
  rw [lg_entry_eq]
  generalize (lg_sl ([.ref o, .int (nI pn)]) ++ List.replicate (4 - (lg_sl ([.ref o, .int (nI pn)])).length) Slot.unset).toArray = ls at hl ⊢
  have hl : lv_has ls 4 [(0, .ref o), (1, .int (nI pn))] := hl
  have hloop : ∀ (n : Nat) (j : Nat), (n + j = min pn tn) → ∀ (Gv : Nat → Option va_E), (Gv o = some (.inr (14, [.ref tx, .ref rd, .ref to, .ref se, .ref kp, .int (nI tn), .int kc, va_rf hd, va_rf rg]))) → (Gv tx = some (.inl (cy 0, 2000, .inl ft))) → (Gv = G) → ∀ (H : Heap) (locs : List Loc), mm D vwCl A Gv H → va_S A s.heap H locs → ∀ ls : Array Slot, lv_has ls 4 [(0, .ref o), (1, .int (nI pn)), (2, .int (lnc ft j)), (3, .int (nI j))] → W p l e (headSpec [.code yX13_lineAt cX13_lineAt 4 (some .int)] ({ frames := 0, cells := 0, slots := 0, locals := 0 })).room s m ([.ref o, .int (nI pn)] : List Value).toArray below meth c H locs 0 0 (MQ below (va_Qi (fun (r : Int32) (G2 : Nat → Option va_E) => r = lnc ft (min pn tn) ∧ G2 = G) (mk_B D vwCl A) A) ([.ref o, .int (nI pn)] : List Value).toArray s 0 0 A) (F0 m 4 ls []) := by
    intro n
    induction n with
    | zero =>
      intro j hjn Gv v_o v_tx hGv H locs hG hS ls hl
      have hG9 := hG
      have hS9 := hS
      have hl9 := hl
      subst hGv
      have hG := hG9
      have hS := hS9
      have hl := hl9
      refine lv_iload_n hx hb dX13_lineAt_4 rfl (lv_at hl 3 rfl) ?_
      refine lv_iload_n hx hb dX13_lineAt_5 rfl (lv_at hl 1 rfl) ?_
      refine lv_icmp_ge (tgt := 37) hx hb dX13_lineAt_6 (by decide) (fun c_6 => ?_) (fun c_6 => ?_)
      · skip
        refine lv_iload_n hx hb dX13_lineAt_37 rfl (lv_at hl 2 rfl) ?_
        exact W.iret (v := (lnc ft j)) hx hb hr (fun t ht hW => ⟨⟨_, _, rfl, ⟨(by rw [show j = min pn tn by omega]), rfl⟩, mk_end hG ht⟩, hS.F ht⟩) hS.2.2 dX13_lineAt_38
      · skip
        refine lv_iload_n hx hb dX13_lineAt_9 rfl (lv_at hl 3 rfl) ?_
        refine lv_aload_n hx hb dX13_lineAt_10 rfl (lv_at hl 0 rfl) ?_
        refine mm_get (v := .int (nI tn)) hx hb hf_X13 (fun _ h9 => h9) hown hK hG v_o rfl 5 (by decide) (tb_use hT tw_216) (fun _ h9 => h9) rfl dX13_lineAt_11 ?_
        refine lv_icmp_ge (tgt := 37) hx hb dX13_lineAt_14 (by decide) (fun c_14 => ?_) (fun c_14 => ?_)
        · skip
          refine lv_iload_n hx hb dX13_lineAt_37 rfl (lv_at hl 2 rfl) ?_
          exact W.iret (v := (lnc ft j)) hx hb hr (fun t ht hW => ⟨⟨_, _, rfl, ⟨(by rw [show j = min pn tn by omega]), rfl⟩, mk_end hG ht⟩, hS.F ht⟩) hS.2.2 dX13_lineAt_38
        · skip
          exact absurd (nI_le (by have := nI_lt_of (by omega) (by omega) c_6; omega) (by omega)) c_14
    | succ n ih =>
      intro j hjn Gv v_o v_tx hGv H locs hG hS ls hl
      have hG9 := hG
      have hS9 := hS
      have hl9 := hl
      subst hGv
      have hG := hG9
      have hS := hS9
      have hl := hl9
      refine lv_iload_n hx hb dX13_lineAt_4 rfl (lv_at hl 3 rfl) ?_
      refine lv_iload_n hx hb dX13_lineAt_5 rfl (lv_at hl 1 rfl) ?_
      refine lv_icmp_ge (tgt := 37) hx hb dX13_lineAt_6 (by decide) (fun c_6 => ?_) (fun c_6 => ?_)
      · skip
        exact absurd c_6 (nI_ge (by omega) (by omega))
      · skip
        refine lv_iload_n hx hb dX13_lineAt_9 rfl (lv_at hl 3 rfl) ?_
        refine lv_aload_n hx hb dX13_lineAt_10 rfl (lv_at hl 0 rfl) ?_
        refine mm_get (v := .int (nI tn)) hx hb hf_X13 (fun _ h9 => h9) hown hK hG v_o rfl 5 (by decide) (tb_use hT tw_216) (fun _ h9 => h9) rfl dX13_lineAt_11 ?_
        refine lv_icmp_ge (tgt := 37) hx hb dX13_lineAt_14 (by decide) (fun c_14 => ?_) (fun c_14 => ?_)
        · skip
          exact absurd c_14 (nI_ge (by omega) (by omega))
        · skip
          refine lv_aload_n hx hb dX13_lineAt_17 rfl (lv_at hl 0 rfl) ?_
          refine mm_get (v := .ref tx) hx hb hf_X13 (fun _ h9 => h9) hown hK hG v_o rfl 0 (by decide) (tb_use hT tw_211) (fun _ h9 => h9) rfl dX13_lineAt_18 ?_
          refine lv_iload_n hx hb dX13_lineAt_21 rfl (lv_at hl 3 rfl) ?_
          refine mm_bald hx hb hK hG 0 v_tx rfl (nI_in (c := j) (N := 2000) (by omega) (by decide)) dX13_lineAt_22 ?_
          refine lv_topi (fun x21 ex21 => ?_)
          refine lv_bipush (v := 10) hx hb dX13_lineAt_23 (by decide) ?_
          refine lv_icmp_ne (tgt := 31) hx hb dX13_lineAt_25 (by decide) (fun c_25 => ?_) (fun c_25 => ?_)
          · skip
            obtain ⟨x22, ex22⟩ : ∃ y : Int32, y = (nI j) + 1 := ⟨_, rfl⟩
            refine lv_iinc (v := x22) (lv' := [(3, .int x22), (0, .ref o), (1, .int (nI pn)), (2, .int (lnc ft j))]) hx hb dX13_lineAt_31 hl (k := 3) rfl (by rw [ex22]; rfl) (by decide) rfl (fun ls hl => ?_)
            refine lv_goto (tgt := 4) hx hb dX13_lineAt_34 (by decide) ?_
            rw [show x22 = nI (j + 1) by rw [ex22]; exact (nI_succ j).symm] at hl
            have hf9 : ¬ ft j = 10 := fun z => c_25 (by rw [ex21, nI_clamp (n := j) (by omega)]; exact z)
            rw [show lnc ft j = lnc ft (j + 1) by rw [lnc, if_neg hf9]] at hl
            exact ih (j + 1) (by omega) Gv v_o v_tx rfl _ _ hG hS ls (lv_sub hl [1, 2, 3, 0] rfl)
          · skip
            obtain ⟨x23, ex23⟩ : ∃ y : Int32, y = (lnc ft j) + 1 := ⟨_, rfl⟩
            refine lv_iinc (v := x23) (lv' := [(2, .int x23), (0, .ref o), (1, .int (nI pn)), (3, .int (nI j))]) hx hb dX13_lineAt_28 hl (k := 2) rfl (by rw [ex23]; rfl) (by decide) rfl (fun ls hl => ?_)
            obtain ⟨x24, ex24⟩ : ∃ y : Int32, y = (nI j) + 1 := ⟨_, rfl⟩
            refine lv_iinc (v := x24) (lv' := [(3, .int x24), (2, .int x23), (0, .ref o), (1, .int (nI pn))]) hx hb dX13_lineAt_31 hl (k := 3) rfl (by rw [ex24]; rfl) (by decide) rfl (fun ls hl => ?_)
            refine lv_goto (tgt := 4) hx hb dX13_lineAt_34 (by decide) ?_
            rw [show x24 = nI (j + 1) by rw [ex24]; exact (nI_succ j).symm] at hl
            have hf9 : ft j = 10 := by have z := c_25; rw [ex21, nI_clamp (n := j) (by omega)] at z; exact z
            rw [show x23 = lnc ft (j + 1) by rw [ex23, lnc, if_pos hf9]] at hl
            exact ih (j + 1) (by omega) Gv v_o v_tx rfl _ _ hG hS ls (lv_sub hl [2, 3, 1, 0] rfl)
  refine lv_iconst (v := 1) hx hb dX13_lineAt_0 (by decide) ?_
  refine lv_istore_n (lv' := [(2, .int 1), (0, .ref o), (1, .int (nI pn))]) hx hb dX13_lineAt_1 rfl hl (by decide) rfl (fun ls hl => ?_)
  refine lv_iconst (v := 0) hx hb dX13_lineAt_2 (by decide) ?_
  refine lv_istore_n (lv' := [(3, .int 0), (2, .int 1), (0, .ref o), (1, .int (nI pn))]) hx hb dX13_lineAt_3 rfl hl (by decide) rfl (fun ls hl => ?_)
  exact hloop (min pn tn) 0 (by omega) G h0 htx rfl _ _ hG hS ls (lv_sub hl [2, 3, 1, 0] rfl)
