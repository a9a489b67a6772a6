/-- an octet more for the text, if it is not 0 and there is room -/
def sg_1 (x : Int32) (q : Int32 × (Nat → Int32)) : Int32 × (Nat → Int32) := if x = 0 then q else if 2000 ≤ q.1 then q else (q.1 + 1, upd q.2 q.1.toNatClampNeg (vp_nar .byte x.toInt8.toInt32))
def sg_o (cv : Int32) (k : Int32) : Int32 := (cv.toUInt32 >>> (k.toUInt32 &&& Int32.toUInt32 31)).toInt32 &&& 255
/-- n octets, from shift k down -/
def sg_n (cv : Int32) : Nat → Int32 → Int32 × (Nat → Int32) → Int32 × (Nat → Int32)
  | 0, _, q => q
  | n + 1, k, q => sg_n cv n (k + -8) (sg_1 (sg_o cv k) q)
def sg_k (n : Nat) : Int32 := nI (8 * n) + -8
theorem sg_k_pos : ∀ n, n < 4 → ¬ sg_k (n + 1) < 0 ∧ sg_k (n + 1) + -8 = sg_k n := by decide
theorem sg_k_0 : sg_k 0 < 0 := by decide
theorem sg_inc {x : Int32} (h0 : ¬ x < 0) (h : ¬ (2000 : Int32) ≤ x) : ¬ x + 1 < 0 := by
  obtain ⟨j, hj, rfl⟩ := nI_of h0
  have : j < 2000 := by
    rcases Nat.lt_or_ge j 2000 with q | q
    · exact q
    · exact absurd (nI_le q hj) h
  rw [nI_1]
  exact nI_pos (by omega)
set_option maxHeartbeats 4000000 in
set_option maxRecDepth 100000 in
theorem c_X13_sign (l : Launch) (D : va_G) (cy : Nat → ClassId) (A : Nat → Prop) (X : State → Prop) (hst : mk_St A X) (hXT : ∀ U : State, X U → TB U) (G : Nat → Option va_E) (o tx rd to se kp : Nat) (hd rg : Option Nat) (len kc cv L2 : Int32) (f f2 : Nat → Int32) (h0 : G o = some (.inr (14, [.ref tx, .ref rd, .ref to, .ref se, .ref kp, .int len, .int kc, va_rf hd, va_rf rg]))) (h1 : G tx = some (.inl (cy 0, 2000, .inl f))) (hl0 : ¬ len < 0) (hfin : sg_n cv 4 24 (len, f) = (L2, f2)) : Met l yX13_sign [.code yX13_sign cX13_sign 4 none] ({ frames := 0, cells := 0, slots := 0, locals := 0 }) (mk_Pre D vwCl (tyL cy) A X G [.ref o, .int cv]) (va_Qv (fun (G2 : Nat → Option va_E) => G2 o = some (.inr (14, [.ref tx, .ref rd, .ref to, .ref se, .ref kp, .int L2, .int kc, va_rf hd, va_rf rg])) ∧ G2 tx = some (.inl (cy 0, 2000, .inl f2)) ∧ ¬ L2 < 0 ∧ ∀ (x : Nat) (e : va_E), G x = some e → x ≠ o → x ≠ tx → G2 x = some e) (mk_B D vwCl A) A) 0 0 A := by
  refine Met.ofW (cc := cX13_sign) (maxL := 4) (ret := none) (by decide) rfl ?_
  intro p e s m args below meth c s₁ B hml hv
  obtain ⟨rfl, hG, hK, hA, hX⟩ := hv
  have hx := B.exec
  have hb := B.bytes
  have hr := B.returns
  have hlocks := B.notSynchronized
  have hT := hXT s hX
  have hown : s.vm.findClass RX13 = some m.cls := findClass_of_methodNamed B.named
  have hf_X13 : ∀ w ∈ u_ws RX13 TX13 9, w.before ([.ref o, .int cv] : List Value).toArray s = true := tb_list hT fX13
  have hS : va_S A s.heap s.heap [] := va_S.rf
  have hl := lv_entry ([.ref o, .int cv]) (n := 4) (Nat.le_of_ble_eq_true rfl)
  rw [lg_entry_eq]
  generalize (lg_sl ([.ref o, .int cv]) ++ List.replicate (4 - (lg_sl ([.ref o, .int cv])).length) Slot.unset).toArray = ls at hl ⊢
  have hl : lv_has ls 4 [(0, .ref o), (1, .int cv)] := hl
  have lp : ∀ (n : Nat) (k len : Int32) (f : Nat → Int32), (n ≤ 4) → (k = sg_k n) → (¬ len < 0) → (sg_n cv n k (len, f) = (L2, f2)) → ∀ (Gv : Nat → Option va_E), (Gv o = some (.inr (14, [.ref tx, .ref rd, .ref to, .ref se, .ref kp, .int len, .int kc, va_rf hd, va_rf rg]))) → (Gv tx = some (.inl (cy 0, 2000, .inl f))) → (∀ (x : Nat) (e : va_E), G x = some e → x ≠ o → x ≠ tx → Gv x = some e) → ∀ (H : Heap) (locs : List Loc), mm D vwCl A Gv H → va_S A s.heap H locs → ∀ ls : Array Slot, lv_has ls 4 [(0, .ref o), (1, .int cv), (2, .int k)] → W p l e (headSpec [.code yX13_sign cX13_sign 4 none] ({ frames := 0, cells := 0, slots := 0, locals := 0 })).room s m ([.ref o, .int cv] : List Value).toArray below meth c H locs 0 0 (MQ below (va_Qv (fun (G2 : Nat → Option va_E) => G2 o = some (.inr (14, [.ref tx, .ref rd, .ref to, .ref se, .ref kp, .int L2, .int kc, va_rf hd, va_rf rg])) ∧ G2 tx = some (.inl (cy 0, 2000, .inl f2)) ∧ ¬ L2 < 0 ∧ ∀ (x : Nat) (e : va_E), G x = some e → x ≠ o → x ≠ tx → G2 x = some e) (mk_B D vwCl A) A) ([.ref o, .int cv] : List Value).toArray s 0 0 A) (F0 m 3 ls []) := by
    intro n
    induction n with
    | zero =>
      intro k len f hn hk hl0 hq Gv h0 h1 hfr H locs hG hS ls hl
      refine lv_iload_n hx hb dX13_sign_3 rfl (lv_at hl 2 rfl) ?_
      refine lv_if_lt (tgt := 56) hx hb dX13_sign_4 (by decide) (fun c_4 => ?_) (fun c_4 => ?_)
      · skip
        exact W.vret hx hb hr (fun t ht hW => ⟨⟨_, rfl, (by injection hq with q1 q2; subst q1; subst q2; exact ⟨h0, h1, hl0, hfr⟩), mk_end hG ht⟩, hS.F ht⟩) hS.2.2 dX13_sign_56
      · skip
        exact absurd (by rw [hk]; exact sg_k_0) c_4
    | succ n ih =>
      intro k len f hn hk hl0 hq Gv h0 h1 hfr H locs hG hS ls hl
      refine lv_iload_n hx hb dX13_sign_3 rfl (lv_at hl 2 rfl) ?_
      refine lv_if_lt (tgt := 56) hx hb dX13_sign_4 (by decide) (fun c_4 => ?_) (fun c_4 => ?_)
      · skip
        exact absurd c_4 (by rw [hk]; exact (sg_k_pos n (by omega)).1)
      · skip
        refine lv_iload_n hx hb dX13_sign_7 rfl (lv_at hl 1 rfl) ?_
        refine lv_iload_n hx hb dX13_sign_8 rfl (lv_at hl 2 rfl) ?_
        obtain ⟨x1, ex1⟩ : ∃ y, y = ((cv : Int32).toUInt32 >>> ((k : Int32).toUInt32 &&& Int32.toUInt32 31)).toInt32 := ⟨_, rfl⟩
        refine lv_iushr (v := x1) hx hb dX13_sign_9 ex1.symm ?_
        refine lv_sipush (v := 255) hx hb dX13_sign_10 (by decide) ?_
        refine lv_iand hx hb dX13_sign_13 ?_
        refine lv_topi (fun x2 ex2 => ?_)
        refine lv_istore_n (lv' := [(3, .int x2), (0, .ref o), (1, .int cv), (2, .int k)]) hx hb dX13_sign_14 rfl hl (by decide) rfl (fun ls hl => ?_)
        refine lv_iload_n hx hb dX13_sign_15 rfl (lv_at hl 0 rfl) ?_
        refine lv_if_eq (tgt := 50) hx hb dX13_sign_16 (by decide) (fun c_16 => ?_) (fun c_16 => ?_)
        · skip
          obtain ⟨x3, ex3⟩ : ∃ y : Int32, y = k + (-8) := ⟨_, rfl⟩
          refine lv_iinc (v := x3) (lv' := [(2, .int x3), (3, .int x2), (0, .ref o), (1, .int cv)]) hx hb dX13_sign_50 hl (k := 3) rfl (by rw [ex3]; rfl) (by decide) rfl (fun ls hl => ?_)
          refine lv_goto (tgt := 3) hx hb dX13_sign_53 (by decide) ?_
          have hq2 : sg_n cv n x3 (len, f) = (L2, f2) := by
            rw [← hq]; show _ = sg_n cv n (k + -8) (sg_1 (sg_o cv k) (len, f))
            have e1 : sg_1 (sg_o cv k) (len, f) = (len, f) := by
              unfold sg_1; rw [show sg_o cv k = x2 by unfold sg_o; rw [ex2, ex1]]
              rw [if_pos c_16]
            rw [e1, ex3]
          exact ih x3 len f (by omega) (by rw [ex3, hk]; exact (sg_k_pos n (by omega)).2) hl0 hq2 Gv h0 h1 hfr _ _ hG hS ls (lv_sub hl [2, 3, 0] rfl)
        · skip
          refine lv_aload_n hx hb dX13_sign_19 rfl (lv_at hl 1 rfl) ?_
          refine mm_get (v := .int len) hx hb hf_X13 (fun _ h9 => h9) hown hK hG h0 rfl 5 (by decide) (tb_use hT tw_216) (fun _ h9 => h9) rfl dX13_sign_20 ?_
          refine lv_sipush (v := 2000) hx hb dX13_sign_23 (by decide) ?_
          refine lv_icmp_ge (tgt := 50) hx hb dX13_sign_26 (by decide) (fun c_26 => ?_) (fun c_26 => ?_)
          · skip
            obtain ⟨x4, ex4⟩ : ∃ y : Int32, y = k + (-8) := ⟨_, rfl⟩
            refine lv_iinc (v := x4) (lv' := [(2, .int x4), (3, .int x2), (0, .ref o), (1, .int cv)]) hx hb dX13_sign_50 hl (k := 3) rfl (by rw [ex4]; rfl) (by decide) rfl (fun ls hl => ?_)
            refine lv_goto (tgt := 3) hx hb dX13_sign_53 (by decide) ?_
            have hq2 : sg_n cv n x4 (len, f) = (L2, f2) := by
              rw [← hq]; show _ = sg_n cv n (k + -8) (sg_1 (sg_o cv k) (len, f))
              have e1 : sg_1 (sg_o cv k) (len, f) = (len, f) := by
                unfold sg_1; rw [show sg_o cv k = x2 by unfold sg_o; rw [ex2, ex1]]
                rw [if_neg c_16, if_pos c_26]
              rw [e1, ex4]
            exact ih x4 len f (by omega) (by rw [ex4, hk]; exact (sg_k_pos n (by omega)).2) hl0 hq2 Gv h0 h1 hfr _ _ hG hS ls (lv_sub hl [2, 3, 0] rfl)
          · skip
            refine lv_aload_n hx hb dX13_sign_29 rfl (lv_at hl 1 rfl) ?_
            refine mm_get (v := .ref tx) hx hb hf_X13 (fun _ h9 => h9) hown hK hG h0 rfl 0 (by decide) (tb_use hT tw_211) (fun _ h9 => h9) rfl dX13_sign_30 ?_
            refine lv_aload_n hx hb dX13_sign_33 rfl (lv_at hl 1 rfl) ?_
            refine mm_get (v := .int len) hx hb hf_X13 (fun _ h9 => h9) hown hK hG h0 rfl 5 (by decide) (tb_use hT tw_216) (fun _ h9 => h9) rfl dX13_sign_34 ?_
            refine lv_iload_n hx hb dX13_sign_37 rfl (lv_at hl 0 rfl) ?_
            obtain ⟨x5, ex5⟩ : ∃ y, y = (x2 : Int32).toInt8.toInt32 := ⟨_, rfl⟩
            refine lv_i2b (v := x5) hx hb dX13_sign_38 ex5.symm ?_
            refine mm_bast hx hb hK hG hS 0 h1 rfl (vp_in_ge hl0 c_26 rfl) dX13_sign_39 (fun H locs hG hS => ?_)
            obtain ⟨G6, eG6⟩ : ∃ g, g = mm_set Gv tx (.inl (cy 0, 2000, .inl (upd f len.toNatClampNeg (vp_nar .byte x5)))) := ⟨_, rfl⟩
            have hG : mm D vwCl A G6 H := by rw [eG6]; exact hG
            have k7 : G6 o = some (.inr (14, [.ref tx, .ref rd, .ref to, .ref se, .ref kp, .int len, .int kc, va_rf hd, va_rf rg])) := by rw [eG6]; exact mm_set_of h0 (mm_ne_oa h0 h1)
            have k8 : G6 tx = some (.inl (cy 0, 2000, .inl (upd f len.toNatClampNeg (vp_nar .byte x5)))) := by rw [eG6]; exact mm_set_self
            refine lv_aload_n hx hb dX13_sign_40 rfl (lv_at hl 1 rfl) ?_
            refine lv_dup hx hb dX13_sign_41 rfl ?_
            refine mm_get (v := .int len) hx hb hf_X13 (fun _ h9 => h9) hown hK hG k7 rfl 5 (by decide) (tb_use hT tw_216) (fun _ h9 => h9) rfl dX13_sign_42 ?_
            refine lv_iconst (v := 1) hx hb dX13_sign_45 (by decide) ?_
            refine lv_iadd hx hb dX13_sign_46 ?_
            refine lv_topi (fun x9 ex9 => ?_)
            refine mm_put (v := .int x9) (ty := .int) hx hb hf_X13 (fun _ h9 => h9) tyX13 tyX13_ok nmX13 hown hK hG hS k7 rfl 5 (by decide) (tb_use hT tw_216) (fun _ h9 => h9) rfl (by decide +kernel) rfl rfl (Nat.le_of_ble_eq_true rfl) dX13_sign_47 (fun H locs hG hS => ?_)
            obtain ⟨G10, eG10⟩ : ∃ g, g = mm_set G6 o (.inr (14, [.ref tx, .ref rd, .ref to, .ref se, .ref kp, .int x9, .int kc, va_rf hd, va_rf rg])) := ⟨_, rfl⟩
            have hG : mm D vwCl A G10 H := by rw [eG10]; exact hG
            have k11 : G10 o = some (.inr (14, [.ref tx, .ref rd, .ref to, .ref se, .ref kp, .int x9, .int kc, va_rf hd, va_rf rg])) := by rw [eG10]; exact mm_set_self
            have k12 : G10 tx = some (.inl (cy 0, 2000, .inl (upd f len.toNatClampNeg (vp_nar .byte x5)))) := by rw [eG10]; exact mm_set_of k8 (mm_ne_ao k8 k7)
            have hl2 : ¬ x9 < 0 := by rw [ex9]; exact sg_inc hl0 c_26
            obtain ⟨x13, ex13⟩ : ∃ y : Int32, y = k + (-8) := ⟨_, rfl⟩
            refine lv_iinc (v := x13) (lv' := [(2, .int x13), (3, .int x2), (0, .ref o), (1, .int cv)]) hx hb dX13_sign_50 hl (k := 3) rfl (by rw [ex13]; rfl) (by decide) rfl (fun ls hl => ?_)
            refine lv_goto (tgt := 3) hx hb dX13_sign_53 (by decide) ?_
            have hq2 : sg_n cv n x13 (x9, (upd f len.toNatClampNeg (vp_nar .byte x5))) = (L2, f2) := by
              rw [← hq]; show _ = sg_n cv n (k + -8) (sg_1 (sg_o cv k) (len, f))
              have e1 : sg_1 (sg_o cv k) (len, f) = (x9, (upd f len.toNatClampNeg (vp_nar .byte x5))) := by
                unfold sg_1; rw [show sg_o cv k = x2 by unfold sg_o; rw [ex2, ex1]]
                rw [if_neg c_16, if_neg c_26]
                subst ex5 eG6 ex9 eG10; rfl
              rw [e1, ex13]
            have hfr2 : ∀ (x : Nat) (e : va_E), G x = some e → x ≠ o → x ≠ tx → G10 x = some e := by
              intro x e z n_o n_tx
              have z0 := hfr x e z n_o n_tx
              have z1 : G6 x = some e := by rw [eG6]; exact mm_set_of z0 n_tx
              have z2 : G10 x = some e := by rw [eG10]; exact mm_set_of z1 n_o
              exact z2
            exact ih x13 x9 (upd f len.toNatClampNeg (vp_nar .byte x5)) (by omega) (by rw [ex13, hk]; exact (sg_k_pos n (by omega)).2) hl2 hq2 G10 k11 k12 hfr2 _ _ hG hS ls (lv_sub hl [2, 3, 0] rfl)
  refine lv_bipush (v := 24) hx hb dX13_sign_0 (by decide) ?_
  refine lv_istore_n (lv' := [(2, .int 24), (0, .ref o), (1, .int cv)]) hx hb dX13_sign_2 rfl hl (by decide) rfl (fun ls hl => ?_)
  exact lp 4 24 len f (by omega) (by decide) hl0 hfin G h0 h1 (fun _ _ z _ _ => z) _ _ hG hS ls (lv_sub hl [1, 2, 0] rfl)
