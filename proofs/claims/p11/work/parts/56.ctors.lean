set_option maxHeartbeats 4000000 in
set_option maxRecDepth 100000 in
theorem c_X1_init (l : Launch) (D : va_G) (cy : Nat → ClassId) (A : Nat → Prop) (X : State → Prop) (hst : mk_St A X) (hXT : ∀ U : State, X U → TB U) (e0 : Nat) (tk : Nat → Nat) (hXE : ∀ U : State, X U → ES e0 tk A U) (G : Nat → Option va_E) (ca : Nat) (nu at_ : Int32) (cn : Int64) (h9 : G ca = some (.inr (2, [.int 0, .int 0, .long 0, .null, .int 0, .int 0, .int 0, .long 0, .long 0, .long 0])))  : Met l yX1_init [.code yX1_init cX1_init 5 none] ({ frames := 4, cells := 1, slots := 3, locals := 120 }) (mk_Pre D vwCl (tyL cy) A X G [.ref ca, .int nu, .int at_, .long cn]) (va_Qv (fun (G2 : Nat → Option va_E) => ∃ rl_ : Nat, G rl_ = none ∧ G2 rl_ = some (.inr (1, [.int 0, .ref e0, .int 0])) ∧ G2 ca = some (.inr (2, [.int nu, .int at_, .long cn, .ref rl_, .int 0, .int 0, .int 0, .long 1, .long 1, .long 0])) ∧ ∀ (x : Nat) (e : va_E), G x = some e → x ≠ ca → G2 x = some e) (mk_B D vwCl A) A) 1 3 A := by
  refine Met.ofW (cc := cX1_init) (maxL := 5) (ret := none) (by decide) rfl ?_
  intro p e s m args below meth c s₁ B hml hv
  obtain ⟨rfl, hG, hK, hA, hX⟩ := hv
  have hx := B.exec
  have hb := B.bytes
  have hr := B.returns
  have hlocks := B.notSynchronized
  have hT := hXT s hX
  have hown : s.vm.findClass RX1 = some m.cls := findClass_of_methodNamed B.named
  have hin : meth.name = "<init>" := (name_of_methodNamed B.named B.method).1
  have hf_Jx4a65c : ∀ w ∈ u_ws RJx4a65c TJx4a65c 3, w.before ([.ref ca, .int nu, .int at_, .long cn] : List Value).toArray s = true := tb_list hT fJx4a65c
  have hf_X1 : ∀ w ∈ u_ws RX1 TX1 10, w.before ([.ref ca, .int nu, .int at_, .long cn] : List Value).toArray s = true := tb_list hT fX1
  have hS : va_S A s.heap s.heap [] := va_S.rf
  have hE := hXE s hX
  have hl := lv_entry ([.ref ca, .int nu, .int at_, .long cn]) (n := 5) (Nat.le_of_ble_eq_true rfl)
  rw [lg_entry_eq]
  generalize (lg_sl ([.ref ca, .int nu, .int at_, .long cn]) ++ List.replicate (5 - (lg_sl ([.ref ca, .int nu, .int at_, .long cn])).length) Slot.unset).toArray = ls at hl ⊢
  have hl : lv_has ls 5 [(0, .ref ca), (1, .int nu), (2, .int at_), (3, .long cn)] := hl
  refine lv_aload_n hx hb dX1_init_0 rfl (lv_at hl 0 rfl) ?_
  refine W.objInit hx hb hown (tb_use hT tw_488) (tb_use hT tw_144) (tb_use hT tw_145) rfl (by rw [hml]; exact hl.1) rfl dX1_init_1 (Nat.le_of_ble_eq_true rfl) (Nat.le_of_ble_eq_true rfl) ?_
  refine W.eq (g2 := F0 m 4 ls []) rfl ?_
  refine lv_aload_n hx hb dX1_init_4 rfl (lv_at hl 0 rfl) ?_
  refine mm_new (ci := 1) (fs := [.int 0, .null, .int 0]) hx hb hf_Jx4a65c (fun _ h9 => h9) tyJx4a65c tyJx4a65c_ok hown (tb_use hT tw_489) (tb_use hT tw_253) (tb_use hT tw_113) hK hG hS hA rfl (fun j hj => by rcases (show j = 0 ∨ j = 1 ∨ j = 2 by omega) with rfl | rfl | rfl <;> rfl) (by exact Nat.le_of_ble_eq_true rfl) (by exact Nat.le_of_ble_eq_true rfl) dX1_init_5 (fun q1 H hn_q1 hG hS => ?_)
  obtain ⟨G2, eG2⟩ : ∃ g, g = mm_set G q1 (.inr (1, [.int 0, .null, .int 0])) := ⟨_, rfl⟩
  have hG : mm D vwCl A G2 H := by rw [eG2]; exact hG
  have k3 : G2 ca = some (.inr (2, [.int 0, .int 0, .long 0, .null, .int 0, .int 0, .int 0, .long 0, .long 0, .long 0])) := by rw [eG2]; exact mm_set_new h9 hn_q1
  have k4 : G2 q1 = some (.inr (1, [.int 0, .null, .int 0])) := by rw [eG2]; exact mm_set_self
  refine lv_dup hx hb dX1_init_8 rfl ?_
  refine va_callv (va_runI (As := []) (rest := [.ref q1, .ref ca]) ⟨hx, hb, hml, hown, (fun _ h9 => absurd h9 List.not_mem_nil : ∀ w ∈ ([] : List Cond), w.before _ s = true)⟩ (c_Jx4a65c_init_da8c8 l D cy A X hst hXT e0 tk hXE G2 q1 k4) (tb_ci 0 hT tw_256 tw_113 tw_490 tw_255 rfl rfl rfl hq_Jx4a65c_init_da8c8 ⟨Nat.le_of_ble_eq_true rfl, Nat.le_of_ble_eq_true rfl⟩) (mk_preS hst hG hK hA hX hS) rfl rfl hl.1 rfl (lv_room (Nat.le_of_ble_eq_true rfl)) dX1_init_9 ⟨Nat.le_of_ble_eq_true rfl, Nat.le_of_ble_eq_true rfl⟩) hS (fun q _ h => h) (fun q h => h) (fun  G5 t H locs ht hvm hw hB hz1 hk1 hS => ?_)
  have hG : mm D vwCl A G5 H := by rw [← ht]; exact hB
  clear hB hz1 hk1 hvm ht
  obtain ⟨h6_1, h6_f⟩ := hw
  have k7 : G5 ca = some (.inr (2, [.int 0, .int 0, .long 0, .null, .int 0, .int 0, .int 0, .long 0, .long 0, .long 0])) := h6_f _ _ k3 (mm_ne_oo k3 k4 (by decide))
  refine mm_putF (v := .ref q1) (ty := .object "java/util/ArrayList") hx hb hf_X1 (fun _ h9 => h9) tyX1 tyX1_ok nmX1 hown hK hG hS k7 rfl 3 (by decide) (tb_use hT tw_497) (fun _ h9 => h9) rfl hin rfl (by decide +kernel) rfl rfl (Nat.le_of_ble_eq_true rfl) dX1_init_12 (fun H locs hG hS => ?_)
  obtain ⟨G8, eG8⟩ : ∃ g, g = mm_set G5 ca (.inr (2, [.int 0, .int 0, .long 0, .ref q1, .int 0, .int 0, .int 0, .long 0, .long 0, .long 0])) := ⟨_, rfl⟩
  have hG : mm D vwCl A G8 H := by rw [eG8]; exact hG
  have k9 : G8 ca = some (.inr (2, [.int 0, .int 0, .long 0, .ref q1, .int 0, .int 0, .int 0, .long 0, .long 0, .long 0])) := by rw [eG8]; exact mm_set_self
  have k10 : G8 q1 = some (.inr (1, [.int 0, .ref e0, .int 0])) := by rw [eG8]; exact mm_set_of h6_1 (mm_ne_oo h6_1 k7 (by decide))
  refine lv_aload_n hx hb dX1_init_15 rfl (lv_at hl 0 rfl) ?_
  refine lv_lconst (v := 1) hx hb dX1_init_16 (by decide) ?_
  refine mm_put (v := .long 1) (ty := .long) hx hb hf_X1 (fun _ h9 => h9) tyX1 tyX1_ok nmX1 hown hK hG hS k9 rfl 7 (by decide) (tb_use hT tw_507) (fun _ h9 => h9) rfl (by decide +kernel) rfl rfl (Nat.le_of_ble_eq_true rfl) dX1_init_17 (fun H locs hG hS => ?_)
  obtain ⟨G11, eG11⟩ : ∃ g, g = mm_set G8 ca (.inr (2, [.int 0, .int 0, .long 0, .ref q1, .int 0, .int 0, .int 0, .long 1, .long 0, .long 0])) := ⟨_, rfl⟩
  have hG : mm D vwCl A G11 H := by rw [eG11]; exact hG
  have k12 : G11 ca = some (.inr (2, [.int 0, .int 0, .long 0, .ref q1, .int 0, .int 0, .int 0, .long 1, .long 0, .long 0])) := by rw [eG11]; exact mm_set_self
  have k13 : G11 q1 = some (.inr (1, [.int 0, .ref e0, .int 0])) := by rw [eG11]; exact mm_set_of k10 (mm_ne_oo k10 k9 (by decide))
  refine lv_aload_n hx hb dX1_init_20 rfl (lv_at hl 0 rfl) ?_
  refine lv_lconst (v := 1) hx hb dX1_init_21 (by decide) ?_
  refine mm_put (v := .long 1) (ty := .long) hx hb hf_X1 (fun _ h9 => h9) tyX1 tyX1_ok nmX1 hown hK hG hS k12 rfl 8 (by decide) (tb_use hT tw_509) (fun _ h9 => h9) rfl (by decide +kernel) rfl rfl (Nat.le_of_ble_eq_true rfl) dX1_init_22 (fun H locs hG hS => ?_)
  obtain ⟨G14, eG14⟩ : ∃ g, g = mm_set G11 ca (.inr (2, [.int 0, .int 0, .long 0, .ref q1, .int 0, .int 0, .int 0, .long 1, .long 1, .long 0])) := ⟨_, rfl⟩
  have hG : mm D vwCl A G14 H := by rw [eG14]; exact hG
  have k15 : G14 ca = some (.inr (2, [.int 0, .int 0, .long 0, .ref q1, .int 0, .int 0, .int 0, .long 1, .long 1, .long 0])) := by rw [eG14]; exact mm_set_self
  have k16 : G14 q1 = some (.inr (1, [.int 0, .ref e0, .int 0])) := by rw [eG14]; exact mm_set_of k13 (mm_ne_oo k13 k12 (by decide))
  refine lv_aload_n hx hb dX1_init_25 rfl (lv_at hl 0 rfl) ?_
  refine lv_iload_n hx hb dX1_init_26 rfl (lv_at hl 1 rfl) ?_
  refine mm_putF (v := .int nu) (ty := .int) hx hb hf_X1 (fun _ h9 => h9) tyX1 tyX1_ok nmX1 hown hK hG hS k15 rfl 0 (by decide) (tb_use hT tw_491) (fun _ h9 => h9) rfl hin rfl (by decide +kernel) rfl rfl (Nat.le_of_ble_eq_true rfl) dX1_init_27 (fun H locs hG hS => ?_)
  obtain ⟨G17, eG17⟩ : ∃ g, g = mm_set G14 ca (.inr (2, [.int nu, .int 0, .long 0, .ref q1, .int 0, .int 0, .int 0, .long 1, .long 1, .long 0])) := ⟨_, rfl⟩
  have hG : mm D vwCl A G17 H := by rw [eG17]; exact hG
  have k18 : G17 ca = some (.inr (2, [.int nu, .int 0, .long 0, .ref q1, .int 0, .int 0, .int 0, .long 1, .long 1, .long 0])) := by rw [eG17]; exact mm_set_self
  have k19 : G17 q1 = some (.inr (1, [.int 0, .ref e0, .int 0])) := by rw [eG17]; exact mm_set_of k16 (mm_ne_oo k16 k15 (by decide))
  refine lv_aload_n hx hb dX1_init_30 rfl (lv_at hl 0 rfl) ?_
  refine lv_iload_n hx hb dX1_init_31 rfl (lv_at hl 2 rfl) ?_
  refine mm_putF (v := .int at_) (ty := .int) hx hb hf_X1 (fun _ h9 => h9) tyX1 tyX1_ok nmX1 hown hK hG hS k18 rfl 1 (by decide) (tb_use hT tw_493) (fun _ h9 => h9) rfl hin rfl (by decide +kernel) rfl rfl (Nat.le_of_ble_eq_true rfl) dX1_init_32 (fun H locs hG hS => ?_)
  obtain ⟨G20, eG20⟩ : ∃ g, g = mm_set G17 ca (.inr (2, [.int nu, .int at_, .long 0, .ref q1, .int 0, .int 0, .int 0, .long 1, .long 1, .long 0])) := ⟨_, rfl⟩
  have hG : mm D vwCl A G20 H := by rw [eG20]; exact hG
  have k21 : G20 ca = some (.inr (2, [.int nu, .int at_, .long 0, .ref q1, .int 0, .int 0, .int 0, .long 1, .long 1, .long 0])) := by rw [eG20]; exact mm_set_self
  have k22 : G20 q1 = some (.inr (1, [.int 0, .ref e0, .int 0])) := by rw [eG20]; exact mm_set_of k19 (mm_ne_oo k19 k18 (by decide))
  refine lv_aload_n hx hb dX1_init_35 rfl (lv_at hl 0 rfl) ?_
  refine lv_lload_n hx hb dX1_init_36 rfl (lv_at hl 3 rfl) ?_
  refine mm_putF (v := .long cn) (ty := .long) hx hb hf_X1 (fun _ h9 => h9) tyX1 tyX1_ok nmX1 hown hK hG hS k21 rfl 2 (by decide) (tb_use hT tw_495) (fun _ h9 => h9) rfl hin rfl (by decide +kernel) rfl rfl (Nat.le_of_ble_eq_true rfl) dX1_init_37 (fun H locs hG hS => ?_)
  obtain ⟨G23, eG23⟩ : ∃ g, g = mm_set G20 ca (.inr (2, [.int nu, .int at_, .long cn, .ref q1, .int 0, .int 0, .int 0, .long 1, .long 1, .long 0])) := ⟨_, rfl⟩
  have hG : mm D vwCl A G23 H := by rw [eG23]; exact hG
  have k24 : G23 ca = some (.inr (2, [.int nu, .int at_, .long cn, .ref q1, .int 0, .int 0, .int 0, .long 1, .long 1, .long 0])) := by rw [eG23]; exact mm_set_self
  have k25 : G23 q1 = some (.inr (1, [.int 0, .ref e0, .int 0])) := by rw [eG23]; exact mm_set_of k22 (mm_ne_oo k22 k21 (by decide))
  have hfr : ∀ (x : Nat) (e : va_E), G x = some e → x ≠ ca → G23 x = some e := by
    intro x e z0 n_ca
    have n_q1 : x ≠ q1 := fun z => by rw [z, hn_q1] at z0; cases z0
    have z1 : G2 x = some e := by rw [eG2]; exact mm_set_of z0 n_q1
    have z2 : G5 x = some e := h6_f x e z1 n_q1
    have z3 : G8 x = some e := by rw [eG8]; exact mm_set_of z2 n_ca
    have z4 : G11 x = some e := by rw [eG11]; exact mm_set_of z3 n_ca
    have z5 : G14 x = some e := by rw [eG14]; exact mm_set_of z4 n_ca
    have z6 : G17 x = some e := by rw [eG17]; exact mm_set_of z5 n_ca
    have z7 : G20 x = some e := by rw [eG20]; exact mm_set_of z6 n_ca
    have z8 : G23 x = some e := by rw [eG23]; exact mm_set_of z7 n_ca
    exact z8
  have fn26 : G q1 = none := by
    have z := hn_q1
    exact z
  exact W.vret hx hb hr (fun t ht hW => ⟨⟨_, rfl, ⟨q1, fn26, k25, k24, hfr⟩, mk_end hG ht⟩, hS.F ht⟩) hS.2.2 dX1_init_40

set_option maxHeartbeats 4000000 in
set_option maxRecDepth 100000 in
theorem c_X5_init (l : Launch) (D : va_G) (cy : Nat → ClassId) (A : Nat → Prop) (X : State → Prop) (hst : mk_St A X) (hXT : ∀ U : State, X U → TB U) (e0 : Nat) (tk : Nat → Nat) (hXE : ∀ U : State, X U → ES e0 tk A U) (G : Nat → Option va_E) (la : Nat) (nu at_ : Int32) (cn : Int64) (h9 : G la = some (.inr (6, [.int 0, .int 0, .long 0, .long 0, .int 0, .null])))  : Met l yX5_init [.code yX5_init cX5_init 5 none] ({ frames := 4, cells := 0, slots := 0, locals := 120 }) (mk_Pre D vwCl (tyL cy) A X G [.ref la, .int nu, .int at_, .long cn]) (va_Qv (fun (G2 : Nat → Option va_E) => G2 la = some (.inr (6, [.int nu, .int at_, .long cn, .long 0, .int 0, .null])) ∧ ∀ (x : Nat) (e : va_E), G x = some e → x ≠ la → G2 x = some e) (mk_B D vwCl A) A) 0 0 A := by
  refine Met.ofW (cc := cX5_init) (maxL := 5) (ret := none) (by decide) rfl ?_
  intro p e s m args below meth c s₁ B hml hv
  obtain ⟨rfl, hG, hK, hA, hX⟩ := hv
  have hx := B.exec
  have hb := B.bytes
  have hr := B.returns
  have hlocks := B.notSynchronized
  have hT := hXT s hX
  have hown : s.vm.findClass RX5 = some m.cls := findClass_of_methodNamed B.named
  have hin : meth.name = "<init>" := (name_of_methodNamed B.named B.method).1
  have hf_X5 : ∀ w ∈ u_ws RX5 TX5 6, w.before ([.ref la, .int nu, .int at_, .long cn] : List Value).toArray s = true := tb_list hT fX5
  have hS : va_S A s.heap s.heap [] := va_S.rf
  have hE := hXE s hX
  have hl := lv_entry ([.ref la, .int nu, .int at_, .long cn]) (n := 5) (Nat.le_of_ble_eq_true rfl)
  rw [lg_entry_eq]
  generalize (lg_sl ([.ref la, .int nu, .int at_, .long cn]) ++ List.replicate (5 - (lg_sl ([.ref la, .int nu, .int at_, .long cn])).length) Slot.unset).toArray = ls at hl ⊢
  have hl : lv_has ls 5 [(0, .ref la), (1, .int nu), (2, .int at_), (3, .long cn)] := hl
  refine lv_aload_n hx hb dX5_init_0 rfl (lv_at hl 0 rfl) ?_
  refine W.objInit hx hb hown (tb_use hT tw_684) (tb_use hT tw_144) (tb_use hT tw_145) rfl (by rw [hml]; exact hl.1) rfl dX5_init_1 (Nat.le_of_ble_eq_true rfl) (Nat.le_of_ble_eq_true rfl) ?_
  refine W.eq (g2 := F0 m 4 ls []) rfl ?_
  refine lv_aload_n hx hb dX5_init_4 rfl (lv_at hl 0 rfl) ?_
  refine lv_iload_n hx hb dX5_init_5 rfl (lv_at hl 1 rfl) ?_
  refine mm_putF (v := .int nu) (ty := .int) hx hb hf_X5 (fun _ h9 => h9) tyX5 tyX5_ok nmX5 hown hK hG hS h9 rfl 0 (by decide) (tb_use hT tw_685) (fun _ h9 => h9) rfl hin rfl (by decide +kernel) rfl rfl (Nat.le_of_ble_eq_true rfl) dX5_init_6 (fun H locs hG hS => ?_)
  obtain ⟨G1, eG1⟩ : ∃ g, g = mm_set G la (.inr (6, [.int nu, .int 0, .long 0, .long 0, .int 0, .null])) := ⟨_, rfl⟩
  have hG : mm D vwCl A G1 H := by rw [eG1]; exact hG
  have k2 : G1 la = some (.inr (6, [.int nu, .int 0, .long 0, .long 0, .int 0, .null])) := by rw [eG1]; exact mm_set_self
  refine lv_aload_n hx hb dX5_init_9 rfl (lv_at hl 0 rfl) ?_
  refine lv_iload_n hx hb dX5_init_10 rfl (lv_at hl 2 rfl) ?_
  refine mm_putF (v := .int at_) (ty := .int) hx hb hf_X5 (fun _ h9 => h9) tyX5 tyX5_ok nmX5 hown hK hG hS k2 rfl 1 (by decide) (tb_use hT tw_687) (fun _ h9 => h9) rfl hin rfl (by decide +kernel) rfl rfl (Nat.le_of_ble_eq_true rfl) dX5_init_11 (fun H locs hG hS => ?_)
  obtain ⟨G3, eG3⟩ : ∃ g, g = mm_set G1 la (.inr (6, [.int nu, .int at_, .long 0, .long 0, .int 0, .null])) := ⟨_, rfl⟩
  have hG : mm D vwCl A G3 H := by rw [eG3]; exact hG
  have k4 : G3 la = some (.inr (6, [.int nu, .int at_, .long 0, .long 0, .int 0, .null])) := by rw [eG3]; exact mm_set_self
  refine lv_aload_n hx hb dX5_init_14 rfl (lv_at hl 0 rfl) ?_
  refine lv_lload_n hx hb dX5_init_15 rfl (lv_at hl 3 rfl) ?_
  refine mm_putF (v := .long cn) (ty := .long) hx hb hf_X5 (fun _ h9 => h9) tyX5 tyX5_ok nmX5 hown hK hG hS k4 rfl 2 (by decide) (tb_use hT tw_689) (fun _ h9 => h9) rfl hin rfl (by decide +kernel) rfl rfl (Nat.le_of_ble_eq_true rfl) dX5_init_16 (fun H locs hG hS => ?_)
  obtain ⟨G5, eG5⟩ : ∃ g, g = mm_set G3 la (.inr (6, [.int nu, .int at_, .long cn, .long 0, .int 0, .null])) := ⟨_, rfl⟩
  have hG : mm D vwCl A G5 H := by rw [eG5]; exact hG
  have k6 : G5 la = some (.inr (6, [.int nu, .int at_, .long cn, .long 0, .int 0, .null])) := by rw [eG5]; exact mm_set_self
  have hfr : ∀ (x : Nat) (e : va_E), G x = some e → x ≠ la → G5 x = some e := by
    intro x e z0 n_la
    have z1 : G1 x = some e := by rw [eG1]; exact mm_set_of z0 n_la
    have z2 : G3 x = some e := by rw [eG3]; exact mm_set_of z1 n_la
    have z3 : G5 x = some e := by rw [eG5]; exact mm_set_of z2 n_la
    exact z3
  exact W.vret hx hb hr (fun t ht hW => ⟨⟨_, rfl, ⟨k6, hfr⟩, mk_end hG ht⟩, hS.F ht⟩) hS.2.2 dX5_init_19

set_option maxHeartbeats 4000000 in
set_option maxRecDepth 100000 in
theorem c_X8_init (l : Launch) (D : va_G) (cy : Nat → ClassId) (A : Nat → Prop) (X : State → Prop) (hst : mk_St A X) (hXT : ∀ U : State, X U → TB U) (e0 : Nat) (tk : Nat → Nat) (hXE : ∀ U : State, X U → ES e0 tk A U) (G : Nat → Option va_E) (pa : Nat) (nu at_ : Int32) (cn : Int64) (h9 : G pa = some (.inr (9, [.int 0, .int 0, .long 0, .long 0, .int 0, .null, .int 0, .long 0, .int 0, .null, .int 0, .int 0, .int 0, .long 0, .long 0])))  : Met l yX8_init [.code yX8_init cX8_init 5 none] ({ frames := 4, cells := 0, slots := 0, locals := 120 }) (mk_Pre D vwCl (tyL cy) A X G [.ref pa, .int nu, .int at_, .long cn]) (va_Qv (fun (G2 : Nat → Option va_E) => G2 pa = some (.inr (9, [.int nu, .int at_, .long cn, .long 0, .int 0, .null, .int 0, .long 0, .int 0, .null, .int 0, .int 0, .int 0, .long 0, .long 0])) ∧ ∀ (x : Nat) (e : va_E), G x = some e → x ≠ pa → G2 x = some e) (mk_B D vwCl A) A) 0 0 A := by
  refine Met.ofW (cc := cX8_init) (maxL := 5) (ret := none) (by decide) rfl ?_
  intro p e s m args below meth c s₁ B hml hv
  obtain ⟨rfl, hG, hK, hA, hX⟩ := hv
  have hx := B.exec
  have hb := B.bytes
  have hr := B.returns
  have hlocks := B.notSynchronized
  have hT := hXT s hX
  have hown : s.vm.findClass RX8 = some m.cls := findClass_of_methodNamed B.named
  have hin : meth.name = "<init>" := (name_of_methodNamed B.named B.method).1
  have hf_X8 : ∀ w ∈ u_ws RX8 TX8 15, w.before ([.ref pa, .int nu, .int at_, .long cn] : List Value).toArray s = true := tb_list hT fX8
  have hS : va_S A s.heap s.heap [] := va_S.rf
  have hE := hXE s hX
  have hl := lv_entry ([.ref pa, .int nu, .int at_, .long cn]) (n := 5) (Nat.le_of_ble_eq_true rfl)
  rw [lg_entry_eq]
  generalize (lg_sl ([.ref pa, .int nu, .int at_, .long cn]) ++ List.replicate (5 - (lg_sl ([.ref pa, .int nu, .int at_, .long cn])).length) Slot.unset).toArray = ls at hl ⊢
  have hl : lv_has ls 5 [(0, .ref pa), (1, .int nu), (2, .int at_), (3, .long cn)] := hl
  refine lv_aload_n hx hb dX8_init_0 rfl (lv_at hl 0 rfl) ?_
  refine W.objInit hx hb hown (tb_use hT tw_769) (tb_use hT tw_144) (tb_use hT tw_145) rfl (by rw [hml]; exact hl.1) rfl dX8_init_1 (Nat.le_of_ble_eq_true rfl) (Nat.le_of_ble_eq_true rfl) ?_
  refine W.eq (g2 := F0 m 4 ls []) rfl ?_
  refine lv_aload_n hx hb dX8_init_4 rfl (lv_at hl 0 rfl) ?_
  refine lv_iconst (v := 0) hx hb dX8_init_5 (by decide) ?_
  refine mm_put (v := .int 0) (ty := .int) hx hb hf_X8 (fun _ h9 => h9) tyX8 tyX8_ok nmX8 hown hK hG hS h9 rfl 6 (by decide) (tb_use hT tw_788) (fun _ h9 => h9) rfl (by decide +kernel) rfl rfl (Nat.le_of_ble_eq_true rfl) dX8_init_6 (fun H locs hG hS => ?_)
  obtain ⟨G1, eG1⟩ : ∃ g, g = mm_set G pa (.inr (9, [.int 0, .int 0, .long 0, .long 0, .int 0, .null, .int 0, .long 0, .int 0, .null, .int 0, .int 0, .int 0, .long 0, .long 0])) := ⟨_, rfl⟩
  have hG : mm D vwCl A G1 H := by rw [eG1]; exact hG
  have k2 : G1 pa = some (.inr (9, [.int 0, .int 0, .long 0, .long 0, .int 0, .null, .int 0, .long 0, .int 0, .null, .int 0, .int 0, .int 0, .long 0, .long 0])) := by rw [eG1]; exact mm_set_self
  refine lv_aload_n hx hb dX8_init_9 rfl (lv_at hl 0 rfl) ?_
  refine lv_iload_n hx hb dX8_init_10 rfl (lv_at hl 1 rfl) ?_
  refine mm_putF (v := .int nu) (ty := .int) hx hb hf_X8 (fun _ h9 => h9) tyX8 tyX8_ok nmX8 hown hK hG hS k2 rfl 0 (by decide) (tb_use hT tw_770) (fun _ h9 => h9) rfl hin rfl (by decide +kernel) rfl rfl (Nat.le_of_ble_eq_true rfl) dX8_init_11 (fun H locs hG hS => ?_)
  obtain ⟨G3, eG3⟩ : ∃ g, g = mm_set G1 pa (.inr (9, [.int nu, .int 0, .long 0, .long 0, .int 0, .null, .int 0, .long 0, .int 0, .null, .int 0, .int 0, .int 0, .long 0, .long 0])) := ⟨_, rfl⟩
  have hG : mm D vwCl A G3 H := by rw [eG3]; exact hG
  have k4 : G3 pa = some (.inr (9, [.int nu, .int 0, .long 0, .long 0, .int 0, .null, .int 0, .long 0, .int 0, .null, .int 0, .int 0, .int 0, .long 0, .long 0])) := by rw [eG3]; exact mm_set_self
  refine lv_aload_n hx hb dX8_init_14 rfl (lv_at hl 0 rfl) ?_
  refine lv_iload_n hx hb dX8_init_15 rfl (lv_at hl 2 rfl) ?_
  refine mm_putF (v := .int at_) (ty := .int) hx hb hf_X8 (fun _ h9 => h9) tyX8 tyX8_ok nmX8 hown hK hG hS k4 rfl 1 (by decide) (tb_use hT tw_773) (fun _ h9 => h9) rfl hin rfl (by decide +kernel) rfl rfl (Nat.le_of_ble_eq_true rfl) dX8_init_16 (fun H locs hG hS => ?_)
  obtain ⟨G5, eG5⟩ : ∃ g, g = mm_set G3 pa (.inr (9, [.int nu, .int at_, .long 0, .long 0, .int 0, .null, .int 0, .long 0, .int 0, .null, .int 0, .int 0, .int 0, .long 0, .long 0])) := ⟨_, rfl⟩
  have hG : mm D vwCl A G5 H := by rw [eG5]; exact hG
  have k6 : G5 pa = some (.inr (9, [.int nu, .int at_, .long 0, .long 0, .int 0, .null, .int 0, .long 0, .int 0, .null, .int 0, .int 0, .int 0, .long 0, .long 0])) := by rw [eG5]; exact mm_set_self
  refine lv_aload_n hx hb dX8_init_19 rfl (lv_at hl 0 rfl) ?_
  refine lv_lload_n hx hb dX8_init_20 rfl (lv_at hl 3 rfl) ?_
  refine mm_putF (v := .long cn) (ty := .long) hx hb hf_X8 (fun _ h9 => h9) tyX8 tyX8_ok nmX8 hown hK hG hS k6 rfl 2 (by decide) (tb_use hT tw_775) (fun _ h9 => h9) rfl hin rfl (by decide +kernel) rfl rfl (Nat.le_of_ble_eq_true rfl) dX8_init_21 (fun H locs hG hS => ?_)
  obtain ⟨G7, eG7⟩ : ∃ g, g = mm_set G5 pa (.inr (9, [.int nu, .int at_, .long cn, .long 0, .int 0, .null, .int 0, .long 0, .int 0, .null, .int 0, .int 0, .int 0, .long 0, .long 0])) := ⟨_, rfl⟩
  have hG : mm D vwCl A G7 H := by rw [eG7]; exact hG
  have k8 : G7 pa = some (.inr (9, [.int nu, .int at_, .long cn, .long 0, .int 0, .null, .int 0, .long 0, .int 0, .null, .int 0, .int 0, .int 0, .long 0, .long 0])) := by rw [eG7]; exact mm_set_self
  have hfr : ∀ (x : Nat) (e : va_E), G x = some e → x ≠ pa → G7 x = some e := by
    intro x e z0 n_pa
    have z1 : G1 x = some e := by rw [eG1]; exact mm_set_of z0 n_pa
    have z2 : G3 x = some e := by rw [eG3]; exact mm_set_of z1 n_pa
    have z3 : G5 x = some e := by rw [eG5]; exact mm_set_of z2 n_pa
    have z4 : G7 x = some e := by rw [eG7]; exact mm_set_of z3 n_pa
    exact z4
  exact W.vret hx hb hr (fun t ht hW => ⟨⟨_, rfl, ⟨k8, hfr⟩, mk_end hG ht⟩, hS.F ht⟩) hS.2.2 dX8_init_24

set_option maxHeartbeats 4000000 in
set_option maxRecDepth 100000 in
theorem c_X10_init (l : Launch) (D : va_G) (cy : Nat → ClassId) (A : Nat → Prop) (X : State → Prop) (hst : mk_St A X) (hXT : ∀ U : State, X U → TB U) (e0 : Nat) (tk : Nat → Nat) (hXE : ∀ U : State, X U → ES e0 tk A U) (G : Nat → Option va_E) (sa : Nat) (nu : Int32) (la : Nat) (at_ : Int32) (cn : Int64) (h9 : G sa = some (.inr (11, [.int 0, .null, .int 0, .long 0, .null, .int 0])))  : Met l yX10_init [.code yX10_init cX10_init 6 none] ({ frames := 4, cells := 1, slots := 3, locals := 120 }) (mk_Pre D vwCl (tyL cy) A X G [.ref sa, .int nu, .ref la, .int at_, .long cn]) (va_Qv (fun (G2 : Nat → Option va_E) => ∃ rl_ : Nat, G rl_ = none ∧ G2 rl_ = some (.inr (1, [.int 0, .ref e0, .int 0])) ∧ G2 sa = some (.inr (11, [.int nu, .ref la, .int at_, .long cn, .ref rl_, .int 0])) ∧ ∀ (x : Nat) (e : va_E), G x = some e → x ≠ sa → G2 x = some e) (mk_B D vwCl A) A) 1 3 A := by
  refine Met.ofW (cc := cX10_init) (maxL := 6) (ret := none) (by decide) rfl ?_
  intro p e s m args below meth c s₁ B hml hv
  obtain ⟨rfl, hG, hK, hA, hX⟩ := hv
  have hx := B.exec
  have hb := B.bytes
  have hr := B.returns
  have hlocks := B.notSynchronized
  have hT := hXT s hX
  have hown : s.vm.findClass RX10 = some m.cls := findClass_of_methodNamed B.named
  have hin : meth.name = "<init>" := (name_of_methodNamed B.named B.method).1
  have hf_Jx4a65c : ∀ w ∈ u_ws RJx4a65c TJx4a65c 3, w.before ([.ref sa, .int nu, .ref la, .int at_, .long cn] : List Value).toArray s = true := tb_list hT fJx4a65c
  have hf_X10 : ∀ w ∈ u_ws RX10 TX10 6, w.before ([.ref sa, .int nu, .ref la, .int at_, .long cn] : List Value).toArray s = true := tb_list hT fX10
  have hS : va_S A s.heap s.heap [] := va_S.rf
  have hE := hXE s hX
  have hl := lv_entry ([.ref sa, .int nu, .ref la, .int at_, .long cn]) (n := 6) (Nat.le_of_ble_eq_true rfl)
  rw [lg_entry_eq]
  generalize (lg_sl ([.ref sa, .int nu, .ref la, .int at_, .long cn]) ++ List.replicate (6 - (lg_sl ([.ref sa, .int nu, .ref la, .int at_, .long cn])).length) Slot.unset).toArray = ls at hl ⊢
  have hl : lv_has ls 6 [(0, .ref sa), (1, .int nu), (2, .ref la), (3, .int at_), (4, .long cn)] := hl
  refine lv_aload_n hx hb dX10_init_0 rfl (lv_at hl 0 rfl) ?_
  refine W.objInit hx hb hown (tb_use hT tw_725) (tb_use hT tw_144) (tb_use hT tw_145) rfl (by rw [hml]; exact hl.1) rfl dX10_init_1 (Nat.le_of_ble_eq_true rfl) (Nat.le_of_ble_eq_true rfl) ?_
  refine W.eq (g2 := F0 m 4 ls []) rfl ?_
  refine lv_aload_n hx hb dX10_init_4 rfl (lv_at hl 0 rfl) ?_
  refine mm_new (ci := 1) (fs := [.int 0, .null, .int 0]) hx hb hf_Jx4a65c (fun _ h9 => h9) tyJx4a65c tyJx4a65c_ok hown (tb_use hT tw_726) (tb_use hT tw_253) (tb_use hT tw_113) hK hG hS hA rfl (fun j hj => by rcases (show j = 0 ∨ j = 1 ∨ j = 2 by omega) with rfl | rfl | rfl <;> rfl) (by exact Nat.le_of_ble_eq_true rfl) (by exact Nat.le_of_ble_eq_true rfl) dX10_init_5 (fun q1 H hn_q1 hG hS => ?_)
  obtain ⟨G2, eG2⟩ : ∃ g, g = mm_set G q1 (.inr (1, [.int 0, .null, .int 0])) := ⟨_, rfl⟩
  have hG : mm D vwCl A G2 H := by rw [eG2]; exact hG
  have k3 : G2 sa = some (.inr (11, [.int 0, .null, .int 0, .long 0, .null, .int 0])) := by rw [eG2]; exact mm_set_new h9 hn_q1
  have k4 : G2 q1 = some (.inr (1, [.int 0, .null, .int 0])) := by rw [eG2]; exact mm_set_self
  refine lv_dup hx hb dX10_init_8 rfl ?_
  refine va_callv (va_runI (As := []) (rest := [.ref q1, .ref sa]) ⟨hx, hb, hml, hown, (fun _ h9 => absurd h9 List.not_mem_nil : ∀ w ∈ ([] : List Cond), w.before _ s = true)⟩ (c_Jx4a65c_init_da8c8 l D cy A X hst hXT e0 tk hXE G2 q1 k4) (tb_ci 0 hT tw_256 tw_113 tw_727 tw_255 rfl rfl rfl hq_Jx4a65c_init_da8c8 ⟨Nat.le_of_ble_eq_true rfl, Nat.le_of_ble_eq_true rfl⟩) (mk_preS hst hG hK hA hX hS) rfl rfl hl.1 rfl (lv_room (Nat.le_of_ble_eq_true rfl)) dX10_init_9 ⟨Nat.le_of_ble_eq_true rfl, Nat.le_of_ble_eq_true rfl⟩) hS (fun q _ h => h) (fun q h => h) (fun  G5 t H locs ht hvm hw hB hz1 hk1 hS => ?_)
  have hG : mm D vwCl A G5 H := by rw [← ht]; exact hB
  clear hB hz1 hk1 hvm ht
  obtain ⟨h6_1, h6_f⟩ := hw
  have k7 : G5 sa = some (.inr (11, [.int 0, .null, .int 0, .long 0, .null, .int 0])) := h6_f _ _ k3 (mm_ne_oo k3 k4 (by decide))
  refine mm_putF (v := .ref q1) (ty := .object "java/util/ArrayList") hx hb hf_X10 (fun _ h9 => h9) tyX10 tyX10_ok nmX10 hown hK hG hS k7 rfl 4 (by decide) (tb_use hT tw_738) (fun _ h9 => h9) rfl hin rfl (by decide +kernel) rfl rfl (Nat.le_of_ble_eq_true rfl) dX10_init_12 (fun H locs hG hS => ?_)
  obtain ⟨G8, eG8⟩ : ∃ g, g = mm_set G5 sa (.inr (11, [.int 0, .null, .int 0, .long 0, .ref q1, .int 0])) := ⟨_, rfl⟩
  have hG : mm D vwCl A G8 H := by rw [eG8]; exact hG
  have k9 : G8 sa = some (.inr (11, [.int 0, .null, .int 0, .long 0, .ref q1, .int 0])) := by rw [eG8]; exact mm_set_self
  have k10 : G8 q1 = some (.inr (1, [.int 0, .ref e0, .int 0])) := by rw [eG8]; exact mm_set_of h6_1 (mm_ne_oo h6_1 k7 (by decide))
  refine lv_aload_n hx hb dX10_init_15 rfl (lv_at hl 0 rfl) ?_
  refine lv_iload_n hx hb dX10_init_16 rfl (lv_at hl 1 rfl) ?_
  refine mm_putF (v := .int nu) (ty := .int) hx hb hf_X10 (fun _ h9 => h9) tyX10 tyX10_ok nmX10 hown hK hG hS k9 rfl 0 (by decide) (tb_use hT tw_728) (fun _ h9 => h9) rfl hin rfl (by decide +kernel) rfl rfl (Nat.le_of_ble_eq_true rfl) dX10_init_17 (fun H locs hG hS => ?_)
  obtain ⟨G11, eG11⟩ : ∃ g, g = mm_set G8 sa (.inr (11, [.int nu, .null, .int 0, .long 0, .ref q1, .int 0])) := ⟨_, rfl⟩
  have hG : mm D vwCl A G11 H := by rw [eG11]; exact hG
  have k12 : G11 sa = some (.inr (11, [.int nu, .null, .int 0, .long 0, .ref q1, .int 0])) := by rw [eG11]; exact mm_set_self
  have k13 : G11 q1 = some (.inr (1, [.int 0, .ref e0, .int 0])) := by rw [eG11]; exact mm_set_of k10 (mm_ne_oo k10 k9 (by decide))
  refine lv_aload_n hx hb dX10_init_20 rfl (lv_at hl 0 rfl) ?_
  refine lv_aload_n hx hb dX10_init_21 rfl (lv_at hl 2 rfl) ?_
  refine mm_putF (v := .ref la) (ty := .object "DescribeText$Layer") hx hb hf_X10 (fun _ h9 => h9) tyX10 tyX10_ok nmX10 hown hK hG hS k12 rfl 1 (by decide) (tb_use hT tw_730) (fun _ h9 => h9) rfl hin rfl (by decide +kernel) rfl rfl (Nat.le_of_ble_eq_true rfl) dX10_init_22 (fun H locs hG hS => ?_)
  obtain ⟨G14, eG14⟩ : ∃ g, g = mm_set G11 sa (.inr (11, [.int nu, .ref la, .int 0, .long 0, .ref q1, .int 0])) := ⟨_, rfl⟩
  have hG : mm D vwCl A G14 H := by rw [eG14]; exact hG
  have k15 : G14 sa = some (.inr (11, [.int nu, .ref la, .int 0, .long 0, .ref q1, .int 0])) := by rw [eG14]; exact mm_set_self
  have k16 : G14 q1 = some (.inr (1, [.int 0, .ref e0, .int 0])) := by rw [eG14]; exact mm_set_of k13 (mm_ne_oo k13 k12 (by decide))
  refine lv_aload_n hx hb dX10_init_25 rfl (lv_at hl 0 rfl) ?_
  refine lv_iload_n hx hb dX10_init_26 rfl (lv_at hl 3 rfl) ?_
  refine mm_putF (v := .int at_) (ty := .int) hx hb hf_X10 (fun _ h9 => h9) tyX10 tyX10_ok nmX10 hown hK hG hS k15 rfl 2 (by decide) (tb_use hT tw_733) (fun _ h9 => h9) rfl hin rfl (by decide +kernel) rfl rfl (Nat.le_of_ble_eq_true rfl) dX10_init_27 (fun H locs hG hS => ?_)
  obtain ⟨G17, eG17⟩ : ∃ g, g = mm_set G14 sa (.inr (11, [.int nu, .ref la, .int at_, .long 0, .ref q1, .int 0])) := ⟨_, rfl⟩
  have hG : mm D vwCl A G17 H := by rw [eG17]; exact hG
  have k18 : G17 sa = some (.inr (11, [.int nu, .ref la, .int at_, .long 0, .ref q1, .int 0])) := by rw [eG17]; exact mm_set_self
  have k19 : G17 q1 = some (.inr (1, [.int 0, .ref e0, .int 0])) := by rw [eG17]; exact mm_set_of k16 (mm_ne_oo k16 k15 (by decide))
  refine lv_aload_n hx hb dX10_init_30 rfl (lv_at hl 0 rfl) ?_
  refine lv_lload hx hb dX10_init_31 (lv_at hl 4 rfl) ?_
  refine mm_putF (v := .long cn) (ty := .long) hx hb hf_X10 (fun _ h9 => h9) tyX10 tyX10_ok nmX10 hown hK hG hS k18 rfl 3 (by decide) (tb_use hT tw_735) (fun _ h9 => h9) rfl hin rfl (by decide +kernel) rfl rfl (Nat.le_of_ble_eq_true rfl) dX10_init_33 (fun H locs hG hS => ?_)
  obtain ⟨G20, eG20⟩ : ∃ g, g = mm_set G17 sa (.inr (11, [.int nu, .ref la, .int at_, .long cn, .ref q1, .int 0])) := ⟨_, rfl⟩
  have hG : mm D vwCl A G20 H := by rw [eG20]; exact hG
  have k21 : G20 sa = some (.inr (11, [.int nu, .ref la, .int at_, .long cn, .ref q1, .int 0])) := by rw [eG20]; exact mm_set_self
  have k22 : G20 q1 = some (.inr (1, [.int 0, .ref e0, .int 0])) := by rw [eG20]; exact mm_set_of k19 (mm_ne_oo k19 k18 (by decide))
  have hfr : ∀ (x : Nat) (e : va_E), G x = some e → x ≠ sa → G20 x = some e := by
    intro x e z0 n_sa
    have n_q1 : x ≠ q1 := fun z => by rw [z, hn_q1] at z0; cases z0
    have z1 : G2 x = some e := by rw [eG2]; exact mm_set_of z0 n_q1
    have z2 : G5 x = some e := h6_f x e z1 n_q1
    have z3 : G8 x = some e := by rw [eG8]; exact mm_set_of z2 n_sa
    have z4 : G11 x = some e := by rw [eG11]; exact mm_set_of z3 n_sa
    have z5 : G14 x = some e := by rw [eG14]; exact mm_set_of z4 n_sa
    have z6 : G17 x = some e := by rw [eG17]; exact mm_set_of z5 n_sa
    have z7 : G20 x = some e := by rw [eG20]; exact mm_set_of z6 n_sa
    exact z7
  have fn23 : G q1 = none := by
    have z := hn_q1
    exact z
  exact W.vret hx hb hr (fun t ht hW => ⟨⟨_, rfl, ⟨q1, fn23, k22, k21, hfr⟩, mk_end hG ht⟩, hS.F ht⟩) hS.2.2 dX10_init_36

set_option maxHeartbeats 4000000 in
set_option maxRecDepth 100000 in
theorem c_X7_init (l : Launch) (D : va_G) (cy : Nat → ClassId) (A : Nat → Prop) (X : State → Prop) (hst : mk_St A X) (hXT : ∀ U : State, X U → TB U) (e0 : Nat) (tk : Nat → Nat) (hXE : ∀ U : State, X U → ES e0 tk A U) (G : Nat → Option va_E) (oa : Nat) (ti : Nat) (h9 : G oa = some (.inr (8, [.null, .long 0, .long 0, .int 0, .null, .long 0, .int 0, .null, .int 0])))  : Met l yX7_init [.code yX7_init cX7_init 2 none] ({ frames := 4, cells := 0, slots := 0, locals := 120 }) (mk_Pre D vwCl (tyL cy) A X G [.ref oa, .ref (tk ti)]) (va_Qv (fun (G2 : Nat → Option va_E) => G2 oa = some (.inr (8, [.ref (tk ti), .long 0, .long 0, .int 0, .null, .long 0, .int 0, .null, .int 0])) ∧ ∀ (x : Nat) (e : va_E), G x = some e → x ≠ oa → G2 x = some e) (mk_B D vwCl A) A) 0 0 A := by
  refine Met.ofW (cc := cX7_init) (maxL := 2) (ret := none) (by decide) rfl ?_
  intro p e s m args below meth c s₁ B hml hv
  obtain ⟨rfl, hG, hK, hA, hX⟩ := hv
  have hx := B.exec
  have hb := B.bytes
  have hr := B.returns
  have hlocks := B.notSynchronized
  have hT := hXT s hX
  have hown : s.vm.findClass RX7 = some m.cls := findClass_of_methodNamed B.named
  have hin : meth.name = "<init>" := (name_of_methodNamed B.named B.method).1
  have hf_X7 : ∀ w ∈ u_ws RX7 TX7 9, w.before ([.ref oa, .ref (tk ti)] : List Value).toArray s = true := tb_list hT fX7
  have hS : va_S A s.heap s.heap [] := va_S.rf
  have hE := hXE s hX
  have hl := lv_entry ([.ref oa, .ref (tk ti)]) (n := 2) (Nat.le_of_ble_eq_true rfl)
  rw [lg_entry_eq]
  generalize (lg_sl ([.ref oa, .ref (tk ti)]) ++ List.replicate (2 - (lg_sl ([.ref oa, .ref (tk ti)])).length) Slot.unset).toArray = ls at hl ⊢
  have hl : lv_has ls 2 [(0, .ref oa), (1, .ref (tk ti))] := hl
  refine lv_aload_n hx hb dX7_init_0 rfl (lv_at hl 0 rfl) ?_
  refine W.objInit hx hb hown (tb_use hT tw_899) (tb_use hT tw_144) (tb_use hT tw_145) rfl (by rw [hml]; exact hl.1) rfl dX7_init_1 (Nat.le_of_ble_eq_true rfl) (Nat.le_of_ble_eq_true rfl) ?_
  refine W.eq (g2 := F0 m 4 ls []) rfl ?_
  refine lv_aload_n hx hb dX7_init_4 rfl (lv_at hl 0 rfl) ?_
  refine lv_aload_n hx hb dX7_init_5 rfl (lv_at hl 1 rfl) ?_
  refine mm_putF (v := .ref (tk ti)) (ty := .object "DescribeText$Token") hx hb hf_X7 (fun _ h9 => h9) tyX7 tyX7_ok nmX7 hown hK hG hS h9 rfl 0 (by decide) (tb_use hT tw_900) (fun _ h9 => h9) rfl hin rfl (by decide +kernel) rfl rfl (Nat.le_of_ble_eq_true rfl) dX7_init_6 (fun H locs hG hS => ?_)
  obtain ⟨G1, eG1⟩ : ∃ g, g = mm_set G oa (.inr (8, [.ref (tk ti), .long 0, .long 0, .int 0, .null, .long 0, .int 0, .null, .int 0])) := ⟨_, rfl⟩
  have hG : mm D vwCl A G1 H := by rw [eG1]; exact hG
  have k2 : G1 oa = some (.inr (8, [.ref (tk ti), .long 0, .long 0, .int 0, .null, .long 0, .int 0, .null, .int 0])) := by rw [eG1]; exact mm_set_self
  have hfr : ∀ (x : Nat) (e : va_E), G x = some e → x ≠ oa → G1 x = some e := by
    intro x e z0 n_oa
    have z1 : G1 x = some e := by rw [eG1]; exact mm_set_of z0 n_oa
    exact z1
  exact W.vret hx hb hr (fun t ht hW => ⟨⟨_, rfl, ⟨k2, hfr⟩, mk_end hG ht⟩, hS.F ht⟩) hS.2.2 dX7_init_9

set_option maxHeartbeats 4000000 in
set_option maxRecDepth 100000 in
theorem c_X4_init (l : Launch) (D : va_G) (cy : Nat → ClassId) (A : Nat → Prop) (X : State → Prop) (hst : mk_St A X) (hXT : ∀ U : State, X U → TB U) (e0 : Nat) (tk : Nat → Nat) (hXE : ∀ U : State, X U → ES e0 tk A U) (G : Nat → Option va_E) (ja : Nat) (at_ : Int32) (cn : Int64) (h9 : G ja = some (.inr (5, [.int 0, .long 0, .null, .null, .int 0])))  : Met l yX4_init [.code yX4_init cX4_init 4 none] ({ frames := 4, cells := 2, slots := 19, locals := 120 }) (mk_Pre D vwCl (tyL cy) A X G [.ref ja, .int at_, .long cn]) (va_Qv (fun (G2 : Nat → Option va_E) => ∃ rl_ pa_ : Nat, G rl_ = none ∧ G pa_ = none ∧ G2 rl_ = some (.inr (1, [.int 0, .ref e0, .int 0])) ∧ G2 pa_ = some (.inl (cy 2, 16, .inr (.inl (fun _ => 0)))) ∧ G2 ja = some (.inr (5, [.int at_, .long cn, .ref rl_, .ref pa_, .int 0])) ∧ ∀ (x : Nat) (e : va_E), G x = some e → x ≠ ja → G2 x = some e) (mk_B D vwCl A) A) 2 19 A := by
  refine Met.ofW (cc := cX4_init) (maxL := 4) (ret := none) (by decide) rfl ?_
  intro p e s m args below meth c s₁ B hml hv
  obtain ⟨rfl, hG, hK, hA, hX⟩ := hv
  have hx := B.exec
  have hb := B.bytes
  have hr := B.returns
  have hlocks := B.notSynchronized
  have hT := hXT s hX
  have hown : s.vm.findClass RX4 = some m.cls := findClass_of_methodNamed B.named
  have hin : meth.name = "<init>" := (name_of_methodNamed B.named B.method).1
  have hf_Jx4a65c : ∀ w ∈ u_ws RJx4a65c TJx4a65c 3, w.before ([.ref ja, .int at_, .long cn] : List Value).toArray s = true := tb_list hT fJx4a65c
  have hf_X4 : ∀ w ∈ u_ws RX4 TX4 5, w.before ([.ref ja, .int at_, .long cn] : List Value).toArray s = true := tb_list hT fX4
  have hS : va_S A s.heap s.heap [] := va_S.rf
  have hE := hXE s hX
  have hl := lv_entry ([.ref ja, .int at_, .long cn]) (n := 4) (Nat.le_of_ble_eq_true rfl)
  rw [lg_entry_eq]
  generalize (lg_sl ([.ref ja, .int at_, .long cn]) ++ List.replicate (4 - (lg_sl ([.ref ja, .int at_, .long cn])).length) Slot.unset).toArray = ls at hl ⊢
  have hl : lv_has ls 4 [(0, .ref ja), (1, .int at_), (2, .long cn)] := hl
  refine lv_aload_n hx hb dX4_init_0 rfl (lv_at hl 0 rfl) ?_
  refine W.objInit hx hb hown (tb_use hT tw_867) (tb_use hT tw_144) (tb_use hT tw_145) rfl (by rw [hml]; exact hl.1) rfl dX4_init_1 (Nat.le_of_ble_eq_true rfl) (Nat.le_of_ble_eq_true rfl) ?_
  refine W.eq (g2 := F0 m 4 ls []) rfl ?_
  refine lv_aload_n hx hb dX4_init_4 rfl (lv_at hl 0 rfl) ?_
  refine mm_new (ci := 1) (fs := [.int 0, .null, .int 0]) hx hb hf_Jx4a65c (fun _ h9 => h9) tyJx4a65c tyJx4a65c_ok hown (tb_use hT tw_868) (tb_use hT tw_253) (tb_use hT tw_113) hK hG hS hA rfl (fun j hj => by rcases (show j = 0 ∨ j = 1 ∨ j = 2 by omega) with rfl | rfl | rfl <;> rfl) (by exact Nat.le_of_ble_eq_true rfl) (by exact Nat.le_of_ble_eq_true rfl) dX4_init_5 (fun q1 H hn_q1 hG hS => ?_)
  obtain ⟨G2, eG2⟩ : ∃ g, g = mm_set G q1 (.inr (1, [.int 0, .null, .int 0])) := ⟨_, rfl⟩
  have hG : mm D vwCl A G2 H := by rw [eG2]; exact hG
  have k3 : G2 ja = some (.inr (5, [.int 0, .long 0, .null, .null, .int 0])) := by rw [eG2]; exact mm_set_new h9 hn_q1
  have k4 : G2 q1 = some (.inr (1, [.int 0, .null, .int 0])) := by rw [eG2]; exact mm_set_self
  refine lv_dup hx hb dX4_init_8 rfl ?_
  refine va_callv (va_runI (As := []) (rest := [.ref q1, .ref ja]) ⟨hx, hb, hml, hown, (fun _ h9 => absurd h9 List.not_mem_nil : ∀ w ∈ ([] : List Cond), w.before _ s = true)⟩ (c_Jx4a65c_init_da8c8 l D cy A X hst hXT e0 tk hXE G2 q1 k4) (tb_ci 0 hT tw_256 tw_113 tw_869 tw_255 rfl rfl rfl hq_Jx4a65c_init_da8c8 ⟨Nat.le_of_ble_eq_true rfl, Nat.le_of_ble_eq_true rfl⟩) (mk_preS hst hG hK hA hX hS) rfl rfl hl.1 rfl (lv_room (Nat.le_of_ble_eq_true rfl)) dX4_init_9 ⟨Nat.le_of_ble_eq_true rfl, Nat.le_of_ble_eq_true rfl⟩) hS (fun q _ h => h) (fun q h => h) (fun  G5 t H locs ht hvm hw hB hz1 hk1 hS => ?_)
  have hG : mm D vwCl A G5 H := by rw [← ht]; exact hB
  clear hB hz1 hk1 hvm ht
  obtain ⟨h6_1, h6_f⟩ := hw
  have k7 : G5 ja = some (.inr (5, [.int 0, .long 0, .null, .null, .int 0])) := h6_f _ _ k3 (mm_ne_oo k3 k4 (by decide))
  refine mm_putF (v := .ref q1) (ty := .object "java/util/ArrayList") hx hb hf_X4 (fun _ h9 => h9) tyX4 tyX4_ok nmX4 hown hK hG hS k7 rfl 2 (by decide) (tb_use hT tw_874) (fun _ h9 => h9) rfl hin rfl (by decide +kernel) rfl rfl (Nat.le_of_ble_eq_true rfl) dX4_init_12 (fun H locs hG hS => ?_)
  obtain ⟨G8, eG8⟩ : ∃ g, g = mm_set G5 ja (.inr (5, [.int 0, .long 0, .ref q1, .null, .int 0])) := ⟨_, rfl⟩
  have hG : mm D vwCl A G8 H := by rw [eG8]; exact hG
  have k9 : G8 ja = some (.inr (5, [.int 0, .long 0, .ref q1, .null, .int 0])) := by rw [eG8]; exact mm_set_self
  have k10 : G8 q1 = some (.inr (1, [.int 0, .ref e0, .int 0])) := by rw [eG8]; exact mm_set_of h6_1 (mm_ne_oo h6_1 k7 (by decide))
  refine lv_aload_n hx hb dX4_init_15 rfl (lv_at hl 0 rfl) ?_
  refine lv_bipush (v := 16) hx hb dX4_init_16 (by decide) ?_
  refine mm_newa (n := 16) (atype := .long) (ty := .long) (N' := 16) (a0 := (16, .inr (.inl (fun _ => 0)))) hx hb (tb_arr hT tw_176) rfl hK hG hS hA 2 rfl (fun cA => rfl) (by decide) (by decide) (by decide) (by exact Nat.le_of_ble_eq_true rfl) (by exact Nat.le_of_ble_eq_true rfl) dX4_init_18 (fun q11 H hn_q11 hG hS => ?_)
  obtain ⟨G12, eG12⟩ : ∃ g, g = mm_set G8 q11 (.inl (cy 2, 16, .inr (.inl (fun _ => 0)))) := ⟨_, rfl⟩
  have hG : mm D vwCl A G12 H := by rw [eG12]; exact hG
  have k13 : G12 ja = some (.inr (5, [.int 0, .long 0, .ref q1, .null, .int 0])) := by rw [eG12]; exact mm_set_new k9 hn_q11
  have k14 : G12 q1 = some (.inr (1, [.int 0, .ref e0, .int 0])) := by rw [eG12]; exact mm_set_new k10 hn_q11
  have k15 : G12 q11 = some (.inl (cy 2, 16, .inr (.inl (fun _ => 0)))) := by rw [eG12]; exact mm_set_self
  refine mm_putF (v := .ref q11) (ty := .array .long) hx hb hf_X4 (fun _ h9 => h9) tyX4 tyX4_ok nmX4 hown hK hG hS k13 rfl 3 (by decide) (tb_use hT tw_877) (fun _ h9 => h9) rfl hin rfl (by decide +kernel) rfl rfl (Nat.le_of_ble_eq_true rfl) dX4_init_20 (fun H locs hG hS => ?_)
  obtain ⟨G16, eG16⟩ : ∃ g, g = mm_set G12 ja (.inr (5, [.int 0, .long 0, .ref q1, .ref q11, .int 0])) := ⟨_, rfl⟩
  have hG : mm D vwCl A G16 H := by rw [eG16]; exact hG
  have k17 : G16 ja = some (.inr (5, [.int 0, .long 0, .ref q1, .ref q11, .int 0])) := by rw [eG16]; exact mm_set_self
  have k18 : G16 q1 = some (.inr (1, [.int 0, .ref e0, .int 0])) := by rw [eG16]; exact mm_set_of k14 (mm_ne_oo k14 k13 (by decide))
  have k19 : G16 q11 = some (.inl (cy 2, 16, .inr (.inl (fun _ => 0)))) := by rw [eG16]; exact mm_set_of k15 (mm_ne_ao k15 k13)
  refine lv_aload_n hx hb dX4_init_23 rfl (lv_at hl 0 rfl) ?_
  refine lv_iload_n hx hb dX4_init_24 rfl (lv_at hl 1 rfl) ?_
  refine mm_putF (v := .int at_) (ty := .int) hx hb hf_X4 (fun _ h9 => h9) tyX4 tyX4_ok nmX4 hown hK hG hS k17 rfl 0 (by decide) (tb_use hT tw_870) (fun _ h9 => h9) rfl hin rfl (by decide +kernel) rfl rfl (Nat.le_of_ble_eq_true rfl) dX4_init_25 (fun H locs hG hS => ?_)
  obtain ⟨G20, eG20⟩ : ∃ g, g = mm_set G16 ja (.inr (5, [.int at_, .long 0, .ref q1, .ref q11, .int 0])) := ⟨_, rfl⟩
  have hG : mm D vwCl A G20 H := by rw [eG20]; exact hG
  have k21 : G20 ja = some (.inr (5, [.int at_, .long 0, .ref q1, .ref q11, .int 0])) := by rw [eG20]; exact mm_set_self
  have k22 : G20 q1 = some (.inr (1, [.int 0, .ref e0, .int 0])) := by rw [eG20]; exact mm_set_of k18 (mm_ne_oo k18 k17 (by decide))
  have k23 : G20 q11 = some (.inl (cy 2, 16, .inr (.inl (fun _ => 0)))) := by rw [eG20]; exact mm_set_of k19 (mm_ne_ao k19 k17)
  refine lv_aload_n hx hb dX4_init_28 rfl (lv_at hl 0 rfl) ?_
  refine lv_lload_n hx hb dX4_init_29 rfl (lv_at hl 2 rfl) ?_
  refine mm_putF (v := .long cn) (ty := .long) hx hb hf_X4 (fun _ h9 => h9) tyX4 tyX4_ok nmX4 hown hK hG hS k21 rfl 1 (by decide) (tb_use hT tw_872) (fun _ h9 => h9) rfl hin rfl (by decide +kernel) rfl rfl (Nat.le_of_ble_eq_true rfl) dX4_init_30 (fun H locs hG hS => ?_)
  obtain ⟨G24, eG24⟩ : ∃ g, g = mm_set G20 ja (.inr (5, [.int at_, .long cn, .ref q1, .ref q11, .int 0])) := ⟨_, rfl⟩
  have hG : mm D vwCl A G24 H := by rw [eG24]; exact hG
  have k25 : G24 ja = some (.inr (5, [.int at_, .long cn, .ref q1, .ref q11, .int 0])) := by rw [eG24]; exact mm_set_self
  have k26 : G24 q1 = some (.inr (1, [.int 0, .ref e0, .int 0])) := by rw [eG24]; exact mm_set_of k22 (mm_ne_oo k22 k21 (by decide))
  have k27 : G24 q11 = some (.inl (cy 2, 16, .inr (.inl (fun _ => 0)))) := by rw [eG24]; exact mm_set_of k23 (mm_ne_ao k23 k21)
  have hfr : ∀ (x : Nat) (e : va_E), G x = some e → x ≠ ja → G24 x = some e := by
    intro x e z0 n_ja
    have n_q1 : x ≠ q1 := fun z => by rw [z, hn_q1] at z0; cases z0
    have z1 : G2 x = some e := by rw [eG2]; exact mm_set_of z0 n_q1
    have z2 : G5 x = some e := h6_f x e z1 n_q1
    have z3 : G8 x = some e := by rw [eG8]; exact mm_set_of z2 n_ja
    have n_q11 : x ≠ q11 := fun z => by rw [z, hn_q11] at z3; cases z3
    have z4 : G12 x = some e := by rw [eG12]; exact mm_set_of z3 n_q11
    have z5 : G16 x = some e := by rw [eG16]; exact mm_set_of z4 n_ja
    have z6 : G20 x = some e := by rw [eG20]; exact mm_set_of z5 n_ja
    have z7 : G24 x = some e := by rw [eG24]; exact mm_set_of z6 n_ja
    exact z7
  have fn28 : G q1 = none := by
    have z := hn_q1
    exact z
  have fn29 : G q11 = none := by
    have z := hn_q11
    rw [eG8] at z; replace z := mm_none z
    replace z : G2 q11 = none := by cases hz : G2 q11 with | none => rfl | some e9 => exact absurd (h6_f _ e9 hz (by intro z9; rw [z9, h6_1] at z; cases z)) (by rw [z]; exact fun w9 => by cases w9)
    rw [eG2] at z; replace z := mm_none z
    exact z
  exact W.vret hx hb hr (fun t ht hW => ⟨⟨_, rfl, ⟨q1, q11, fn28, fn29, k26, k27, k25, hfr⟩, mk_end hG ht⟩, hS.F ht⟩) hS.2.2 dX4_init_33
