theorem nI16 {h : Nat} (h1 : nI h < 16) (h2 : h ≤ 16) : h < 16 := by
  rcases Nat.lt_or_ge h 16 with z | z
  · exact z
  · have e : h = 16 := by omega
    rw [e] at h1
    exact absurd h1 (by decide)
set_option maxHeartbeats 4000000 in
set_option maxRecDepth 100000 in
theorem c_X4_lay (l : Launch) (D : va_G) (cy : Nat → ClassId) (A : Nat → Prop) (X : State → Prop) (hst : mk_St A X) (hXT : ∀ U : State, X U → TB U) (e0 : Nat) (tk : Nat → Nat) (hXE : ∀ U : State, X U → ES e0 tk A U) (G : Nat → Option va_E) (ja ol pi : Nat) (jat : Int32) (jn : Int64) (hh : Nat) (pf : Nat → Int64) (xw : Int64) (h8 : G ja = some (.inr (5, [.int jat, .long jn, .ref ol, .ref pi, .int (nI hh)]))) (h9 : G pi = some (.inl (cy 2, 16, .inr (.inl pf)))) (hhh : hh ≤ 16) : Met l yX4_lay [.code yX4_lay cX4_lay 3 none] ({ frames := 0, cells := 0, slots := 0, locals := 0 }) (mk_Pre D vwCl (tyL cy) A X G [.ref ja, .long xw]) (va_Qv (fun (G2 : Nat → Option va_E) => G2 ja = some (.inr (5, [.int jat, .long jn, .ref ol, .ref pi, .int (nI (if hh < 16 then hh + 1 else hh))])) ∧ G2 pi = some (.inl (cy 2, 16, .inr (.inl (if hh < 16 then vp_updL pf hh xw else pf)))) ∧ ∀ (x : Nat) (e : va_E), G x = some e → x ≠ ja → x ≠ pi → G2 x = some e) (mk_B D vwCl A) A) 0 0 A := by
  refine Met.ofW (cc := cX4_lay) (maxL := 3) (ret := none) (by decide) rfl ?_
  intro p e s m args below meth c s₁ B hml hv
  obtain ⟨rfl, hG, hK, hA, hX⟩ := hv
  have hx := B.exec
  have hb := B.bytes
  have hr := B.returns
  have hlocks := B.notSynchronized
  have hT := hXT s hX
  have hown : s.vm.findClass RX4 = some m.cls := findClass_of_methodNamed B.named
  have hf_X4 : ∀ w ∈ u_ws RX4 TX4 5, w.before ([.ref ja, .long xw] : List Value).toArray s = true := tb_list hT fX4
  have hS : va_S A s.heap s.heap [] := va_S.rf
  have hE := hXE s hX
  have hl := lv_entry ([.ref ja, .long xw]) (n := 3) (Nat.le_of_ble_eq_true rfl)
  rw [lg_entry_eq]
  generalize (lg_sl ([.ref ja, .long xw]) ++ List.replicate (3 - (lg_sl ([.ref ja, .long xw])).length) Slot.unset).toArray = ls at hl ⊢
  have hl : lv_has ls 3 [(0, .ref ja), (1, .long xw)] := hl
  refine lv_aload_n hx hb dX4_lay_0 rfl (lv_at hl 0 rfl) ?_
  refine mm_get (v := .int (nI hh)) hx hb hf_X4 (fun _ h9 => h9) hown hK hG h8 rfl 4 (by decide) (tb_use hT tw_878) (fun _ h9 => h9) rfl dX4_lay_1 ?_
  refine lv_if_lt (tgt := 39) hx hb dX4_lay_4 (by decide) (fun c_4 => ?_) (fun c_4 => ?_)
  · skip
    exact absurd c_4 (nI_pos (by omega))
  · skip
    refine lv_aload_n hx hb dX4_lay_7 rfl (lv_at hl 0 rfl) ?_
    refine mm_get (v := .int (nI hh)) hx hb hf_X4 (fun _ h9 => h9) hown hK hG h8 rfl 4 (by decide) (tb_use hT tw_878) (fun _ h9 => h9) rfl dX4_lay_8 ?_
    refine lv_aload_n hx hb dX4_lay_11 rfl (lv_at hl 0 rfl) ?_
    refine mm_get (v := .ref pi) hx hb hf_X4 (fun _ h9 => h9) hown hK hG h8 rfl 3 (by decide) (tb_use hT tw_877) (fun _ h9 => h9) rfl dX4_lay_12 ?_
    refine mm_alen (v := 16) hx hb hK hG 2 h9 rfl rfl dX4_lay_15 ?_
    refine lv_icmp_ge (tgt := 39) hx hb dX4_lay_16 (by decide) (fun c_16 => ?_) (fun c_16 => ?_)
    · skip
      have hno : ¬ hh < 16 := fun z => absurd c_16 (nI_ge (b := 16) z (by decide))
      exact W.vret hx hb hr (fun t ht hW => ⟨⟨_, rfl, ⟨(by rw [if_neg hno]; exact h8), (by rw [if_neg hno]; exact h9), fun x e h _ _ => h⟩, mk_end hG ht⟩, hS.F ht⟩) hS.2.2 dX4_lay_39
    · skip
      refine lv_aload_n hx hb dX4_lay_19 rfl (lv_at hl 0 rfl) ?_
      refine mm_get (v := .ref pi) hx hb hf_X4 (fun _ h9 => h9) hown hK hG h8 rfl 3 (by decide) (tb_use hT tw_877) (fun _ h9 => h9) rfl dX4_lay_20 ?_
      refine lv_aload_n hx hb dX4_lay_23 rfl (lv_at hl 0 rfl) ?_
      refine mm_get (v := .int (nI hh)) hx hb hf_X4 (fun _ h9 => h9) hown hK hG h8 rfl 4 (by decide) (tb_use hT tw_878) (fun _ h9 => h9) rfl dX4_lay_24 ?_
      refine lv_lload_n hx hb dX4_lay_27 rfl (lv_at hl 1 rfl) ?_
      refine mm_last hx hb hK hG hS 2 h9 rfl (nI_in (c := hh) (N := 16) (nI16 (Int32.not_le.mp c_16) hhh) (by decide)) dX4_lay_28 (fun H locs hG hS => ?_)
      obtain ⟨G1, eG1⟩ : ∃ g, g = mm_set G pi (.inl (cy 2, 16, .inr (.inl (vp_updL pf (nI hh).toNatClampNeg xw)))) := ⟨_, rfl⟩
      have hG : mm D vwCl A G1 H := by rw [eG1]; exact hG
      have k2 : G1 ja = some (.inr (5, [.int jat, .long jn, .ref ol, .ref pi, .int (nI hh)])) := by rw [eG1]; exact mm_set_of h8 (mm_ne_oa h8 h9)
      have k3 : G1 pi = some (.inl (cy 2, 16, .inr (.inl (vp_updL pf (nI hh).toNatClampNeg xw)))) := by rw [eG1]; exact mm_set_self
      refine lv_aload_n hx hb dX4_lay_29 rfl (lv_at hl 0 rfl) ?_
      refine lv_dup hx hb dX4_lay_30 rfl ?_
      refine mm_get (v := .int (nI hh)) hx hb hf_X4 (fun _ h9 => h9) hown hK hG k2 rfl 4 (by decide) (tb_use hT tw_878) (fun _ h9 => h9) rfl dX4_lay_31 ?_
      refine lv_iconst (v := 1) hx hb dX4_lay_34 (by decide) ?_
      refine lv_iadd hx hb dX4_lay_35 ?_
      rw [← nI_succ hh]
      refine mm_put (v := .int (nI (hh + 1))) (ty := .int) hx hb hf_X4 (fun _ h9 => h9) tyX4 tyX4_ok nmX4 hown hK hG hS k2 rfl 4 (by decide) (tb_use hT tw_878) (fun _ h9 => h9) rfl (by decide +kernel) rfl rfl (Nat.le_of_ble_eq_true rfl) dX4_lay_36 (fun H locs hG hS => ?_)
      obtain ⟨G4, eG4⟩ : ∃ g, g = mm_set G1 ja (.inr (5, [.int jat, .long jn, .ref ol, .ref pi, .int (nI (hh + 1))])) := ⟨_, rfl⟩
      have hG : mm D vwCl A G4 H := by rw [eG4]; exact hG
      have k5 : G4 ja = some (.inr (5, [.int jat, .long jn, .ref ol, .ref pi, .int (nI (hh + 1))])) := by rw [eG4]; exact mm_set_self
      have k6 : G4 pi = some (.inl (cy 2, 16, .inr (.inl (vp_updL pf (nI hh).toNatClampNeg xw)))) := by rw [eG4]; exact mm_set_of k3 (mm_ne_ao k3 k2)
      have hyes : hh < 16 := nI16 (Int32.not_le.mp c_16) hhh
      have hfr : ∀ (x : Nat) (e : va_E), G x = some e → x ≠ ja → x ≠ pi → G4 x = some e := by
        intro x e z0 n_ja n_pi
        have z1 : G1 x = some e := by rw [eG1]; exact mm_set_of z0 n_pi
        have z2 : G4 x = some e := by rw [eG4]; exact mm_set_of z1 n_ja
        exact z2
      exact W.vret hx hb hr (fun t ht hW => ⟨⟨_, rfl, ⟨(by rw [if_pos hyes]; exact k5), (by rw [if_pos hyes]; have z := k6; rw [nI_clamp (n := hh) (by omega)] at z; exact z), hfr⟩, mk_end hG ht⟩, hS.F ht⟩) hS.2.2 dX4_lay_39

set_option maxHeartbeats 4000000 in
set_option maxRecDepth 100000 in
theorem c_X4_lift (l : Launch) (D : va_G) (cy : Nat → ClassId) (A : Nat → Prop) (X : State → Prop) (hst : mk_St A X) (hXT : ∀ U : State, X U → TB U) (e0 : Nat) (tk : Nat → Nat) (hXE : ∀ U : State, X U → ES e0 tk A U) (G : Nat → Option va_E) (ja ol pi : Nat) (jat : Int32) (jn : Int64) (hh : Nat) (pf : Nat → Int64) (h8 : G ja = some (.inr (5, [.int jat, .long jn, .ref ol, .ref pi, .int (nI hh)]))) (h9 : G pi = some (.inl (cy 2, 16, .inr (.inl pf)))) (hhh : hh ≤ 16) : Met l yX4_lift [.code yX4_lift cX4_lift 1 (some .long)] ({ frames := 0, cells := 0, slots := 0, locals := 0 }) (mk_Pre D vwCl (tyL cy) A X G [.ref ja]) (va_Ql (fun (r : Int64) (G2 : Nat → Option va_E) => r = (if hh = 0 then 0 else pf (hh - 1)) ∧ G2 ja = some (.inr (5, [.int jat, .long jn, .ref ol, .ref pi, .int (nI (hh - 1))])) ∧ ∀ (x : Nat) (e : va_E), G x = some e → x ≠ ja → G2 x = some e) (mk_B D vwCl A) A) 0 0 A := by
  refine Met.ofW (cc := cX4_lift) (maxL := 1) (ret := (some .long)) (by decide) rfl ?_
  intro p e s m args below meth c s₁ B hml hv
  obtain ⟨rfl, hG, hK, hA, hX⟩ := hv
  have hx := B.exec
  have hb := B.bytes
  have hr := B.returns
  have hlocks := B.notSynchronized
  have hT := hXT s hX
  have hown : s.vm.findClass RX4 = some m.cls := findClass_of_methodNamed B.named
  have hf_X4 : ∀ w ∈ u_ws RX4 TX4 5, w.before ([.ref ja] : List Value).toArray s = true := tb_list hT fX4
  have hS : va_S A s.heap s.heap [] := va_S.rf
  have hE := hXE s hX
  have hl := lv_entry ([.ref ja]) (n := 1) (Nat.le_of_ble_eq_true rfl)
  rw [lg_entry_eq]
  generalize (lg_sl ([.ref ja]) ++ List.replicate (1 - (lg_sl ([.ref ja])).length) Slot.unset).toArray = ls at hl ⊢
  have hl : lv_has ls 1 [(0, .ref ja)] := hl
  refine lv_aload_n hx hb dX4_lift_0 rfl (lv_at hl 0 rfl) ?_
  refine mm_get (v := .int (nI hh)) hx hb hf_X4 (fun _ h9 => h9) hown hK hG h8 rfl 4 (by decide) (tb_use hT tw_878) (fun _ h9 => h9) rfl dX4_lift_1 ?_
  refine lv_iconst (v := 1) hx hb dX4_lift_4 (by decide) ?_
  refine lv_icmp_lt (tgt := 20) hx hb dX4_lift_5 (by decide) (fun c_5 => ?_) (fun c_5 => ?_)
  · skip
    refine lv_lconst (v := 0) hx hb dX4_lift_20 (by decide) ?_
    have h0 : hh = 0 := by rcases Nat.eq_zero_or_pos hh with z | z; exact z; exact absurd c_5 (Int32.not_lt.mpr (nI_le (a := 1) z (by omega)))
    exact W.lret (v := 0) hx hb hr (fun t ht hW => ⟨⟨_, _, rfl, ⟨(by rw [if_pos h0]), (by rw [h0]; rw [h0] at h8; exact h8), fun x e h _ => h⟩, mk_end hG ht⟩, hS.F ht⟩) hS.2.2 dX4_lift_21
  · skip
    refine lv_aload_n hx hb dX4_lift_8 rfl (lv_at hl 0 rfl) ?_
    refine mm_get (v := .int (nI hh)) hx hb hf_X4 (fun _ h9 => h9) hown hK hG h8 rfl 4 (by decide) (tb_use hT tw_878) (fun _ h9 => h9) rfl dX4_lift_9 ?_
    refine lv_aload_n hx hb dX4_lift_12 rfl (lv_at hl 0 rfl) ?_
    refine mm_get (v := .ref pi) hx hb hf_X4 (fun _ h9 => h9) hown hK hG h8 rfl 3 (by decide) (tb_use hT tw_877) (fun _ h9 => h9) rfl dX4_lift_13 ?_
    refine mm_alen (v := 16) hx hb hK hG 2 h9 rfl rfl dX4_lift_16 ?_
    refine lv_icmp_le (tgt := 22) hx hb dX4_lift_17 (by decide) (fun c_17 => ?_) (fun c_17 => ?_)
    · skip
      refine lv_aload_n hx hb dX4_lift_22 rfl (lv_at hl 0 rfl) ?_
      refine lv_dup hx hb dX4_lift_23 rfl ?_
      refine mm_get (v := .int (nI hh)) hx hb hf_X4 (fun _ h9 => h9) hown hK hG h8 rfl 4 (by decide) (tb_use hT tw_878) (fun _ h9 => h9) rfl dX4_lift_24 ?_
      refine lv_iconst (v := 1) hx hb dX4_lift_27 (by decide) ?_
      refine lv_isub hx hb dX4_lift_28 ?_
      rw [g_pred (show 1 ≤ hh from Nat.pos_of_ne_zero (fun z => c_5 (by rw [z]; decide)))]
      refine mm_put (v := .int (nI (hh - 1))) (ty := .int) hx hb hf_X4 (fun _ h9 => h9) tyX4 tyX4_ok nmX4 hown hK hG hS h8 rfl 4 (by decide) (tb_use hT tw_878) (fun _ h9 => h9) rfl (by decide +kernel) rfl rfl (Nat.le_of_ble_eq_true rfl) dX4_lift_29 (fun H locs hG hS => ?_)
      obtain ⟨G1, eG1⟩ : ∃ g, g = mm_set G ja (.inr (5, [.int jat, .long jn, .ref ol, .ref pi, .int (nI (hh - 1))])) := ⟨_, rfl⟩
      have hG : mm D vwCl A G1 H := by rw [eG1]; exact hG
      have k2 : G1 ja = some (.inr (5, [.int jat, .long jn, .ref ol, .ref pi, .int (nI (hh - 1))])) := by rw [eG1]; exact mm_set_self
      have k3 : G1 pi = some (.inl (cy 2, 16, .inr (.inl pf))) := by rw [eG1]; exact mm_set_of h9 (mm_ne_ao h9 h8)
      refine lv_aload_n hx hb dX4_lift_32 rfl (lv_at hl 0 rfl) ?_
      refine mm_get (v := .ref pi) hx hb hf_X4 (fun _ h9 => h9) hown hK hG k2 rfl 3 (by decide) (tb_use hT tw_877) (fun _ h9 => h9) rfl dX4_lift_33 ?_
      refine lv_aload_n hx hb dX4_lift_36 rfl (lv_at hl 0 rfl) ?_
      refine mm_get (v := .int (nI (hh - 1))) hx hb hf_X4 (fun _ h9 => h9) hown hK hG k2 rfl 4 (by decide) (tb_use hT tw_878) (fun _ h9 => h9) rfl dX4_lift_37 ?_
      refine mm_lald hx hb hK hG 2 k3 rfl (nI_in (c := hh - 1) (N := 16) (by omega) (by decide)) dX4_lift_40 ?_
      refine lv_topl (fun x4 ex4 => ?_)
      have h1 : ¬ hh = 0 := fun z => c_5 (by rw [z]; decide)
      have hfr : ∀ (x : Nat) (e : va_E), G x = some e → x ≠ ja → G1 x = some e := by
        intro x e z0 n_ja
        have z1 : G1 x = some e := by rw [eG1]; exact mm_set_of z0 n_ja
        exact z1
      exact W.lret (v := x4) hx hb hr (fun t ht hW => ⟨⟨_, _, rfl, ⟨(by rw [if_neg h1, ex4, nI_clamp (n := hh - 1) (by omega)]), k2, hfr⟩, mk_end hG ht⟩, hS.F ht⟩) hS.2.2 dX4_lift_41
    · skip
      exact absurd (nI_le (b := 16) hhh (by decide)) c_17
