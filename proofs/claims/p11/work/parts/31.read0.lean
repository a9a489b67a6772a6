set_option maxHeartbeats 4000000 in
set_option maxRecDepth 100000 in
theorem c_X12_add (l : Launch) (D : va_G) (cy : Nat → ClassId) (A : Nat → Prop) (X : State → Prop) (hst : mk_St A X) (hXT : ∀ U : State, X U → TB U) (e0 : Nat) (tk : Nat → Nat) (hXE : ∀ U : State, X U → ES e0 tk A U) (G : Nat → Option va_E) (o ks ss vs : Nat) (n : Int32) (f1 : Nat → Option Nat) (f2 : Nat → Int32) (f3 : Nat → Int64) (ti : Nat) (sv : Int32) (vv : Int64) (h0 : G o = some (.inr (13, [.ref ks, .ref ss, .ref vs, .int n]))) (h1 : G ks = some (.inl (cy 5, 2001, .inr (.inr (.inr (.inr f1)))))) (h2 : G ss = some (.inl (cy 1, 2001, .inl f2))) (h3 : G vs = some (.inl (cy 2, 2001, .inr (.inl f3)))) (hn0 : ¬ n < 0) (hn : n < 2001) (hti : ti < 35) : Met l yX12_add [.code yX12_add cX12_add 5 none] ({ frames := 0, cells := 0, slots := 0, locals := 0 }) (mk_Pre D vwCl (tyL cy) A X G [.ref o, .ref (tk ti), .int sv, .long vv]) (va_Qv (fun (G2 : Nat → Option va_E) => G2 o = some (.inr (13, [.ref ks, .ref ss, .ref vs, .int (n + 1)])) ∧ G2 ks = some (.inl (cy 5, 2001, .inr (.inr (.inr (.inr (va_up f1 n.toNatClampNeg (some (tk ti)))))))) ∧ G2 ss = some (.inl (cy 1, 2001, .inl (upd f2 n.toNatClampNeg sv))) ∧ G2 vs = some (.inl (cy 2, 2001, .inr (.inl (vp_updL f3 n.toNatClampNeg vv)))) ∧ ∀ (x : Nat) (e : va_E), G x = some e → x ≠ o → x ≠ ks → x ≠ ss → x ≠ vs → G2 x = some e) (mk_B D vwCl A) A) 0 0 A := by
  refine Met.ofW (cc := cX12_add) (maxL := 5) (ret := none) (by decide) rfl ?_
  intro p e s m args below meth c s₁ B hml hv
  obtain ⟨rfl, hG, hK, hA, hX⟩ := hv
  have hx := B.exec
  have hb := B.bytes
  have hr := B.returns
  have hlocks := B.notSynchronized
  have hT := hXT s hX
  have hown : s.vm.findClass RX12 = some m.cls := findClass_of_methodNamed B.named
  have hf_X12 : ∀ w ∈ u_ws RX12 TX12 4, w.before ([.ref o, .ref (tk ti), .int sv, .long vv] : List Value).toArray s = true := tb_list hT fX12
  have hS : va_S A s.heap s.heap [] := va_S.rf
  have hE := hXE s hX
  have hl := lv_entry ([.ref o, .ref (tk ti), .int sv, .long vv]) (n := 5) (Nat.le_of_ble_eq_true rfl)
  rw [lg_entry_eq]
  generalize (lg_sl ([.ref o, .ref (tk ti), .int sv, .long vv]) ++ List.replicate (5 - (lg_sl ([.ref o, .ref (tk ti), .int sv, .long vv])).length) Slot.unset).toArray = ls at hl ⊢
  have hl : lv_has ls 5 [(0, .ref o), (1, .ref (tk ti)), (2, .int sv), (3, .long vv)] := hl
  refine lv_aload_n hx hb dX12_add_0 rfl (lv_at hl 0 rfl) ?_
  refine mm_get (v := .int n) hx hb hf_X12 (fun _ h9 => h9) hown hK hG h0 rfl 3 (by decide) (tb_use hT tw_163) (fun _ h9 => h9) rfl dX12_add_1 ?_
  refine lv_aload_n hx hb dX12_add_4 rfl (lv_at hl 0 rfl) ?_
  refine mm_get (v := .ref ks) hx hb hf_X12 (fun _ h9 => h9) hown hK hG h0 rfl 0 (by decide) (tb_use hT tw_160) (fun _ h9 => h9) rfl dX12_add_5 ?_
  refine mm_alen (v := 2001) hx hb hK hG 5 h1 rfl rfl dX12_add_8 ?_
  refine lv_icmp_ge (tgt := 52) hx hb dX12_add_9 (by decide) (fun c_9 => ?_) (fun c_9 => ?_)
  · skip
    exact absurd hn (Int32.not_lt.mpr c_9)
  · skip
    refine lv_aload_n hx hb dX12_add_12 rfl (lv_at hl 0 rfl) ?_
    refine mm_get (v := .ref ks) hx hb hf_X12 (fun _ h9 => h9) hown hK hG h0 rfl 0 (by decide) (tb_use hT tw_160) (fun _ h9 => h9) rfl dX12_add_13 ?_
    refine lv_aload_n hx hb dX12_add_16 rfl (lv_at hl 0 rfl) ?_
    refine mm_get (v := .int n) hx hb hf_X12 (fun _ h9 => h9) hown hK hG h0 rfl 3 (by decide) (tb_use hT tw_163) (fun _ h9 => h9) rfl dX12_add_17 ?_
    refine lv_aload_n hx hb dX12_add_20 rfl (lv_at hl 1 rfl) ?_
    refine mm_aastM hx hb hK hG hS 5 h1 rfl (tk_any hK hE (by first | decide | assumption) hS) (vp_in_lt hn0 hn rfl) dX12_add_21 (fun H locs hG hS => ?_)
    obtain ⟨G1, eG1⟩ : ∃ g, g = mm_set G ks (.inl (cy 5, 2001, .inr (.inr (.inr (.inr (va_up f1 n.toNatClampNeg (some (tk ti)))))))) := ⟨_, rfl⟩
    have hG : mm D vwCl A G1 H := by rw [eG1]; exact hG
    have k2 : G1 o = some (.inr (13, [.ref ks, .ref ss, .ref vs, .int n])) := by rw [eG1]; exact mm_set_of h0 (mm_ne_oa h0 h1)
    have k3 : G1 ks = some (.inl (cy 5, 2001, .inr (.inr (.inr (.inr (va_up f1 n.toNatClampNeg (some (tk ti)))))))) := by rw [eG1]; exact mm_set_self
    have k4 : G1 ss = some (.inl (cy 1, 2001, .inl f2)) := by rw [eG1]; exact mm_set_of h2 (mm_ne_e h2 h1 (fun z => by have z2 := (Prod.mk.inj (Prod.mk.inj (Sum.inl.inj z)).2).2; cases z2))
    have k5 : G1 vs = some (.inl (cy 2, 2001, .inr (.inl f3))) := by rw [eG1]; exact mm_set_of h3 (mm_ne_e h3 h1 (fun z => by have z2 := (Prod.mk.inj (Prod.mk.inj (Sum.inl.inj z)).2).2; cases z2))
    refine lv_aload_n hx hb dX12_add_22 rfl (lv_at hl 0 rfl) ?_
    refine mm_get (v := .ref ss) hx hb hf_X12 (fun _ h9 => h9) hown hK hG k2 rfl 1 (by decide) (tb_use hT tw_161) (fun _ h9 => h9) rfl dX12_add_23 ?_
    refine lv_aload_n hx hb dX12_add_26 rfl (lv_at hl 0 rfl) ?_
    refine mm_get (v := .int n) hx hb hf_X12 (fun _ h9 => h9) hown hK hG k2 rfl 3 (by decide) (tb_use hT tw_163) (fun _ h9 => h9) rfl dX12_add_27 ?_
    refine lv_iload_n hx hb dX12_add_30 rfl (lv_at hl 2 rfl) ?_
    refine mm_iast hx hb hK hG hS 1 k4 rfl (vp_in_lt hn0 hn rfl) dX12_add_31 (fun H locs hG hS => ?_)
    obtain ⟨G6, eG6⟩ : ∃ g, g = mm_set G1 ss (.inl (cy 1, 2001, .inl (upd f2 n.toNatClampNeg sv))) := ⟨_, rfl⟩
    have hG : mm D vwCl A G6 H := by rw [eG6]; exact hG
    have k7 : G6 o = some (.inr (13, [.ref ks, .ref ss, .ref vs, .int n])) := by rw [eG6]; exact mm_set_of k2 (mm_ne_oa k2 k4)
    have k8 : G6 ks = some (.inl (cy 5, 2001, .inr (.inr (.inr (.inr (va_up f1 n.toNatClampNeg (some (tk ti)))))))) := by rw [eG6]; exact mm_set_of k3 (mm_ne_e k3 k4 (fun z => by have z2 := (Prod.mk.inj (Prod.mk.inj (Sum.inl.inj z)).2).2; cases z2))
    have k9 : G6 ss = some (.inl (cy 1, 2001, .inl (upd f2 n.toNatClampNeg sv))) := by rw [eG6]; exact mm_set_self
    have k10 : G6 vs = some (.inl (cy 2, 2001, .inr (.inl f3))) := by rw [eG6]; exact mm_set_of k5 (mm_ne_e k5 k4 (fun z => by have z2 := (Prod.mk.inj (Prod.mk.inj (Sum.inl.inj z)).2).2; cases z2))
    refine lv_aload_n hx hb dX12_add_32 rfl (lv_at hl 0 rfl) ?_
    refine mm_get (v := .ref vs) hx hb hf_X12 (fun _ h9 => h9) hown hK hG k7 rfl 2 (by decide) (tb_use hT tw_162) (fun _ h9 => h9) rfl dX12_add_33 ?_
    refine lv_aload_n hx hb dX12_add_36 rfl (lv_at hl 0 rfl) ?_
    refine mm_get (v := .int n) hx hb hf_X12 (fun _ h9 => h9) hown hK hG k7 rfl 3 (by decide) (tb_use hT tw_163) (fun _ h9 => h9) rfl dX12_add_37 ?_
    refine lv_lload_n hx hb dX12_add_40 rfl (lv_at hl 3 rfl) ?_
    refine mm_last hx hb hK hG hS 2 k10 rfl (vp_in_lt hn0 hn rfl) dX12_add_41 (fun H locs hG hS => ?_)
    obtain ⟨G11, eG11⟩ : ∃ g, g = mm_set G6 vs (.inl (cy 2, 2001, .inr (.inl (vp_updL f3 n.toNatClampNeg vv)))) := ⟨_, rfl⟩
    have hG : mm D vwCl A G11 H := by rw [eG11]; exact hG
    have k12 : G11 o = some (.inr (13, [.ref ks, .ref ss, .ref vs, .int n])) := by rw [eG11]; exact mm_set_of k7 (mm_ne_oa k7 k10)
    have k13 : G11 ks = some (.inl (cy 5, 2001, .inr (.inr (.inr (.inr (va_up f1 n.toNatClampNeg (some (tk ti)))))))) := by rw [eG11]; exact mm_set_of k8 (mm_ne_e k8 k10 (fun z => by have z2 := (Prod.mk.inj (Prod.mk.inj (Sum.inl.inj z)).2).2; cases z2))
    have k14 : G11 ss = some (.inl (cy 1, 2001, .inl (upd f2 n.toNatClampNeg sv))) := by rw [eG11]; exact mm_set_of k9 (mm_ne_e k9 k10 (fun z => by have z2 := (Prod.mk.inj (Prod.mk.inj (Sum.inl.inj z)).2).2; cases z2))
    have k15 : G11 vs = some (.inl (cy 2, 2001, .inr (.inl (vp_updL f3 n.toNatClampNeg vv)))) := by rw [eG11]; exact mm_set_self
    refine lv_aload_n hx hb dX12_add_42 rfl (lv_at hl 0 rfl) ?_
    refine lv_dup hx hb dX12_add_43 rfl ?_
    refine mm_get (v := .int n) hx hb hf_X12 (fun _ h9 => h9) hown hK hG k12 rfl 3 (by decide) (tb_use hT tw_163) (fun _ h9 => h9) rfl dX12_add_44 ?_
    refine lv_iconst (v := 1) hx hb dX12_add_47 (by decide) ?_
    refine lv_iadd hx hb dX12_add_48 ?_
    refine lv_topi (fun x16 ex16 => ?_)
    refine mm_put (v := .int x16) (ty := .int) hx hb hf_X12 (fun _ h9 => h9) tyX12 tyX12_ok nmX12 hown hK hG hS k12 rfl 3 (by decide) (tb_use hT tw_163) (fun _ h9 => h9) rfl (by decide +kernel) rfl rfl (Nat.le_of_ble_eq_true rfl) dX12_add_49 (fun H locs hG hS => ?_)
    obtain ⟨G17, eG17⟩ : ∃ g, g = mm_set G11 o (.inr (13, [.ref ks, .ref ss, .ref vs, .int x16])) := ⟨_, rfl⟩
    have hG : mm D vwCl A G17 H := by rw [eG17]; exact hG
    have k18 : G17 o = some (.inr (13, [.ref ks, .ref ss, .ref vs, .int x16])) := by rw [eG17]; exact mm_set_self
    have k19 : G17 ks = some (.inl (cy 5, 2001, .inr (.inr (.inr (.inr (va_up f1 n.toNatClampNeg (some (tk ti)))))))) := by rw [eG17]; exact mm_set_of k13 (mm_ne_ao k13 k12)
    have k20 : G17 ss = some (.inl (cy 1, 2001, .inl (upd f2 n.toNatClampNeg sv))) := by rw [eG17]; exact mm_set_of k14 (mm_ne_ao k14 k12)
    have k21 : G17 vs = some (.inl (cy 2, 2001, .inr (.inl (vp_updL f3 n.toNatClampNeg vv)))) := by rw [eG17]; exact mm_set_of k15 (mm_ne_ao k15 k12)
    have hfr : ∀ (x : Nat) (e : va_E), G x = some e → x ≠ o → x ≠ ks → x ≠ ss → x ≠ vs → G17 x = some e := by
      intro x e z0 n_o n_ks n_ss n_vs
      have z1 : G1 x = some e := by rw [eG1]; exact mm_set_of z0 n_ks
      have z2 : G6 x = some e := by rw [eG6]; exact mm_set_of z1 n_ss
      have z3 : G11 x = some e := by rw [eG11]; exact mm_set_of z2 n_vs
      have z4 : G17 x = some e := by rw [eG17]; exact mm_set_of z3 n_o
      exact z4
    exact W.vret hx hb hr (fun t ht hW => ⟨⟨_, rfl, ⟨(by rw [k18, ex16]), k19, k20, k21, hfr⟩, mk_end hG ht⟩, hS.F ht⟩) hS.2.2 dX12_add_52
