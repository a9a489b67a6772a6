theorem g_mul2 (m : Nat) : 2 * nI m = nI (2 * m) := by
  rw [show 2 * m = m + m by omega, ← nI_add m m, Int32.two_mul]
set_option maxHeartbeats 4000000 in
set_option maxRecDepth 100000 in
theorem c_X2_note (l : Launch) (D : va_G) (cy : Nat → ClassId) (A : Nat → Prop) (X : State → Prop) (hst : mk_St A X) (hXT : ∀ U : State, X U → TB U) (e0 : Nat) (tk : Nat → Nat) (hXE : ∀ U : State, X U → ES e0 tk A U) (mi : Nat) (hXL : ∀ U : State, X U → EL e0 mi A U) (G : Nat → Option va_E) (ed : Nat) (lc ly lsv lco lva ljo na : Nat) (wa : Int32) (iu rs : Option Nat) (mm9 cap : Nat) (nv : Nat → Int64) (xw : Int64) (hed : G ed = some (.inr (3, [.ref lc, .ref ly, .ref lsv, .ref lco, .ref lva, .ref ljo, .ref na, .int (nI mm9), va_rf iu, .int wa, va_rf rs]))) (hna : G na = some (.inl (cy 2, cap, .inr (.inl nv)))) (hmc : mm9 ≤ cap) (hcap : cap ≤ 5000) (hm1 : 1 ≤ cap) : Met l yX2_note [.code yX2_note cX2_note 3 none] ({ frames := 4, cells := 1, slots := (2 * mm9), locals := 120 }) (mk_Pre D vwCl (tyL cy) A X G [.ref ed, .long xw]) (va_Qv (fun (G2 : Nat → Option va_E) => (¬ nof (fun j => decide (nv j = xw)) mm9 = 0 ∧ G2 = G) ∨ (nof (fun j => decide (nv j = xw)) mm9 = 0 ∧ ∃ (na2 cap2 : Nat) (nv2 : Nat → Int64), G2 ed = some (.inr (3, [.ref lc, .ref ly, .ref lsv, .ref lco, .ref lva, .ref ljo, .ref na2, .int (nI (mm9 + 1)), va_rf iu, .int wa, va_rf rs])) ∧ G2 na2 = some (.inl (cy 2, cap2, .inr (.inl nv2))) ∧ mm9 + 1 ≤ cap2 ∧ cap2 ≤ 20000 ∧ (∀ j, j < mm9 → nv2 j = nv j) ∧ nv2 mm9 = xw ∧ ((na2 = na ∧ cap2 = cap) ∨ (G na2 = none ∧ cap2 = 2 * mm9)) ∧ ∀ (x : Nat) (e : va_E), G x = some e → x ≠ ed → x ≠ na → G2 x = some e)) (mk_B D vwCl A) A) 1 (2 * mm9) A := by
  refine Met.ofW (cc := cX2_note) (maxL := 3) (ret := none) (by decide) rfl ?_
  intro p e s m args below meth c s₁ B hml hv
  obtain ⟨rfl, hG, hK, hA, hX⟩ := hv
  have hx := B.exec
  have hb := B.bytes
  have hr := B.returns
  have hlocks := B.notSynchronized
  have hT := hXT s hX
  have hown : s.vm.findClass RX2 = some m.cls := findClass_of_methodNamed B.named
  have hf_X2 : ∀ w ∈ u_ws RX2 TX2 11, w.before ([.ref ed, .long xw] : List Value).toArray s = true := tb_list hT fX2
  have hS : va_S A s.heap s.heap [] := va_S.rf
  have hE := hXE s hX
  have hl := lv_entry ([.ref ed, .long xw]) (n := 3) (Nat.le_of_ble_eq_true rfl)
  rw [lg_entry_eq]
  generalize (lg_sl ([.ref ed, .long xw]) ++ List.replicate (3 - (lg_sl ([.ref ed, .long xw])).length) Slot.unset).toArray = ls at hl ⊢
  have hl : lv_has ls 3 [(0, .ref ed), (1, .long xw)] := hl
  refine lv_aload_n hx hb dX2_note_0 rfl (lv_at hl 0 rfl) ?_
  refine lv_lload_n hx hb dX2_note_1 rfl (lv_at hl 1 rfl) ?_
  refine va_calli (va_runV (As := [.long xw]) (rest := []) ⟨hx, hb, hml, hown, (fun _ h9 => absurd h9 List.not_mem_nil : ∀ w ∈ ([] : List Cond), w.before _ s = true)⟩ (c_X2_numberOf l D cy A X hst hXT e0 tk hXE mi hXL G ed lc ly lsv lco lva ljo na wa iu rs mm9 cap nv xw hed hna hmc (by omega)) (tb_cw (C := RX2) 1 hT tw_980 tw_110 tw_977 tw_978 tw_979 rfl rfl (by decide +kernel) ⟨Nat.le_of_ble_eq_true rfl, Nat.le_of_ble_eq_true rfl⟩) (mk_preV hst hG hK hA hX hS (ci := 3) rfl hed) rfl rfl hl.1 rfl (lv_room (Nat.le_of_ble_eq_true rfl)) dX2_note_2 ⟨(by show _ ≤ 1; omega), (by show _ ≤ 2 * mm9; omega)⟩) hS (fun q _ h => h) (fun q h => h) (fun r21 G22 t H1 locs ht hvm hw hB hz1 hk1 hS => ?_)
  have hG : mm D vwCl A G22 H1 := by rw [← ht]; exact hB
  clear hB hz1 hk1 hvm ht
  generalize H1 = H at hG hS ⊢
  obtain ⟨er21, hw⟩ := hw
  rw [hw] at hG
  refine lv_if_eq (tgt := 9) hx hb dX2_note_5 (by decide) (fun c_5 => ?_) (fun c_5 => ?_)
  · skip
    refine lv_aload_n hx hb dX2_note_9 rfl (lv_at hl 0 rfl) ?_
    refine mm_get (v := .int (nI mm9)) hx hb hf_X2 (fun _ h9 => h9) hown hK hG hed rfl 7 (by decide) (tb_use hT tw_295) (fun _ h9 => h9) rfl dX2_note_10 ?_
    refine lv_aload_n hx hb dX2_note_13 rfl (lv_at hl 0 rfl) ?_
    refine mm_get (v := .ref na) hx hb hf_X2 (fun _ h9 => h9) hown hK hG hed rfl 6 (by decide) (tb_use hT tw_294) (fun _ h9 => h9) rfl dX2_note_14 ?_
    refine mm_alen (v := (nI cap)) hx hb hK hG 2 hna rfl rfl dX2_note_17 ?_
    refine lv_icmp_lt (tgt := 38) hx hb dX2_note_18 (by decide) (fun c_18 => ?_) (fun c_18 => ?_)
    · skip
      refine lv_aload_n hx hb dX2_note_38 rfl (lv_at hl 0 rfl) ?_
      refine mm_get (v := .ref na) hx hb hf_X2 (fun _ h9 => h9) hown hK hG hed rfl 6 (by decide) (tb_use hT tw_294) (fun _ h9 => h9) rfl dX2_note_39 ?_
      refine lv_aload_n hx hb dX2_note_42 rfl (lv_at hl 0 rfl) ?_
      refine mm_get (v := .int (nI mm9)) hx hb hf_X2 (fun _ h9 => h9) hown hK hG hed rfl 7 (by decide) (tb_use hT tw_295) (fun _ h9 => h9) rfl dX2_note_43 ?_
      refine lv_lload_n hx hb dX2_note_46 rfl (lv_at hl 1 rfl) ?_
      refine mm_last hx hb hK hG hS 2 hna rfl (nI_in (c := mm9) (by first | (have z := nI_lt_of (a := mm9) (b := cap) (by omega) (by omega) (Int32.not_le.mpr c_18); omega) | omega) (by omega)) dX2_note_47 (fun H locs hG hS => ?_)
      obtain ⟨G23, eG23⟩ : ∃ g, g = mm_set G na (.inl (cy 2, cap, .inr (.inl (vp_updL nv (nI mm9).toNatClampNeg xw)))) := ⟨_, rfl⟩
      have hG : mm D vwCl A G23 H := by rw [eG23]; exact hG
      have k24 : G23 ed = some (.inr (3, [.ref lc, .ref ly, .ref lsv, .ref lco, .ref lva, .ref ljo, .ref na, .int (nI mm9), va_rf iu, .int wa, va_rf rs])) := by rw [eG23]; exact mm_set_of hed (mm_ne_oa hed hna)
      have k25 : G23 na = some (.inl (cy 2, cap, .inr (.inl (vp_updL nv (nI mm9).toNatClampNeg xw)))) := by rw [eG23]; exact mm_set_self
      refine lv_aload_n hx hb dX2_note_48 rfl (lv_at hl 0 rfl) ?_
      refine lv_dup hx hb dX2_note_49 rfl ?_
      refine mm_get (v := .int (nI mm9)) hx hb hf_X2 (fun _ h9 => h9) hown hK hG k24 rfl 7 (by decide) (tb_use hT tw_295) (fun _ h9 => h9) rfl dX2_note_50 ?_
      refine lv_iconst (v := 1) hx hb dX2_note_53 (by decide) ?_
      refine lv_iadd hx hb dX2_note_54 ?_
      rw [← nI_succ mm9]
      refine mm_put (v := .int (nI (mm9 + 1))) (ty := .int) hx hb hf_X2 (fun _ h9 => h9) tyX2 tyX2_ok nmX2 hown hK hG hS k24 rfl 7 (by decide) (tb_use hT tw_295) (fun _ h9 => h9) rfl (by decide +kernel) rfl rfl (Nat.le_of_ble_eq_true rfl) dX2_note_55 (fun H locs hG hS => ?_)
      obtain ⟨G26, eG26⟩ : ∃ g, g = mm_set G23 ed (.inr (3, [.ref lc, .ref ly, .ref lsv, .ref lco, .ref lva, .ref ljo, .ref na, .int (nI (mm9 + 1)), va_rf iu, .int wa, va_rf rs])) := ⟨_, rfl⟩
      have hG : mm D vwCl A G26 H := by rw [eG26]; exact hG
      have k27 : G26 ed = some (.inr (3, [.ref lc, .ref ly, .ref lsv, .ref lco, .ref lva, .ref ljo, .ref na, .int (nI (mm9 + 1)), va_rf iu, .int wa, va_rf rs])) := by rw [eG26]; exact mm_set_self
      have k28 : G26 na = some (.inl (cy 2, cap, .inr (.inl (vp_updL nv (nI mm9).toNatClampNeg xw)))) := by rw [eG26]; exact mm_set_of k25 (mm_ne_ao k25 k24)
      have h00 : nof (fun j => decide (nv j = xw)) mm9 = 0 := by rw [← er21]; exact c_5
      have hfr : ∀ (x : Nat) (e : va_E), G x = some e → x ≠ ed → x ≠ na → G26 x = some e := by
        intro x e z0 n_ed n_na
        have z1 : G23 x = some e := by rw [eG23]; exact mm_set_of z0 n_na
        have z2 : G26 x = some e := by rw [eG26]; exact mm_set_of z1 n_ed
        exact z2
      refine W.widen (k := 1) (n := (2 * mm9)) (by omega) (by omega) ?_
      exact W.vret hx hb hr (fun t ht hW => ⟨⟨_, rfl, Or.inr ⟨h00, na, cap, _, k27, (by have z := k28; rw [nI_clamp (n := mm9) (by omega)] at z; exact z), (by have z := nI_lt_of (a := mm9) (b := cap) (by omega) (by omega) (Int32.not_le.mpr c_18); omega), (by omega), (fun j hj => by simp only [vp_updL]; rw [if_neg (by omega)]), (by simp [vp_updL]), Or.inl ⟨rfl, rfl⟩, hfr⟩, mk_end hG ht⟩, hS.F ht⟩) hS.2.2 dX2_note_58
    · skip
      refine lv_aload_n hx hb dX2_note_21 rfl (lv_at hl 0 rfl) ?_
      refine lv_aload_n hx hb dX2_note_22 rfl (lv_at hl 0 rfl) ?_
      refine mm_get (v := .ref na) hx hb hf_X2 (fun _ h9 => h9) hown hK hG hed rfl 6 (by decide) (tb_use hT tw_294) (fun _ h9 => h9) rfl dX2_note_23 ?_
      refine lv_iconst (v := 2) hx hb dX2_note_26 (by decide) ?_
      refine lv_aload_n hx hb dX2_note_27 rfl (lv_at hl 0 rfl) ?_
      refine mm_get (v := .int (nI mm9)) hx hb hf_X2 (fun _ h9 => h9) hown hK hG hed rfl 7 (by decide) (tb_use hT tw_295) (fun _ h9 => h9) rfl dX2_note_28 ?_
      refine lv_imul hx hb dX2_note_31 ?_
      rw [g_mul2 mm9]
      have hc9 : cap = mm9 := by have z := nI_ge_of (a := mm9) (b := cap) (by omega) (by omega) (Int32.not_lt.mp c_18); omega
      have k_na : G na = some (.inl (cy 2, mm9, .inr (.inl nv))) := by rw [← hc9]; exact hna
      refine va_callq (va_runS (As := [.ref na, .int (nI (2 * mm9))]) (rest := [.ref ed]) ⟨hx, hb, hml, hown, (fun _ h9 => absurd h9 List.not_mem_nil : ∀ w ∈ ([] : List Cond), w.before _ s = true)⟩ (c_J7_copyOfL l D cy A X hst hXT e0 tk hXE mi hXL G na mm9 (2 * mm9) nv k_na (by omega) (by omega)) (tb_cs 2 hT tw_983 tw_125 tw_981 tw_982 rfl rfl (by decide +kernel) ⟨Nat.le_of_ble_eq_true rfl, Nat.le_of_ble_eq_true rfl⟩) (mk_preS hst hG hK hA hX hS) rfl rfl hl.1 rfl (lv_room (Nat.le_of_ble_eq_true rfl)) dX2_note_32 ⟨(by show _ ≤ 1; omega), (by show _ ≤ 2 * mm9; omega)⟩) hS (fun q _ h => h) (fun q h => h) (fun r29 G30 t H1 locs ht hvm hw hB hz1 hk1 hS => ?_)
      have hG : mm D vwCl A G30 H1 := by rw [← ht]; exact hB
      clear hB hz1 hk1 hvm ht
      generalize H1 = H at hG hS ⊢
      obtain ⟨q31, rfl, hn_q31, h32_2, h32_f⟩ := hw
      have ne_na_q31 : na ≠ q31 := mm_ne_new hna hn_q31
      have k33 : G30 ed = some (.inr (3, [.ref lc, .ref ly, .ref lsv, .ref lco, .ref lva, .ref ljo, .ref na, .int (nI mm9), va_rf iu, .int wa, va_rf rs])) := h32_f _ _ hed
      have k34 : G30 na = some (.inl (cy 2, cap, .inr (.inl nv))) := h32_f _ _ hna
      refine mm_put (v := .ref q31) (ty := .array .long) hx hb hf_X2 (fun _ h9 => h9) tyX2 tyX2_ok nmX2 hown hK hG hS k33 rfl 6 (by decide) (tb_use hT tw_294) (fun _ h9 => h9) rfl (by decide +kernel) rfl rfl (Nat.le_of_ble_eq_true rfl) dX2_note_35 (fun H locs hG hS => ?_)
      obtain ⟨G35, eG35⟩ : ∃ g, g = mm_set G30 ed (.inr (3, [.ref lc, .ref ly, .ref lsv, .ref lco, .ref lva, .ref ljo, .ref q31, .int (nI mm9), va_rf iu, .int wa, va_rf rs])) := ⟨_, rfl⟩
      have hG : mm D vwCl A G35 H := by rw [eG35]; exact hG
      have k36 : G35 ed = some (.inr (3, [.ref lc, .ref ly, .ref lsv, .ref lco, .ref lva, .ref ljo, .ref q31, .int (nI mm9), va_rf iu, .int wa, va_rf rs])) := by rw [eG35]; exact mm_set_self
      have k37 : G35 na = some (.inl (cy 2, cap, .inr (.inl nv))) := by rw [eG35]; exact mm_set_of k34 (mm_ne_ao k34 k33)
      have k38 : G35 q31 = some (.inl (cy 2, (2 * mm9), .inr (.inl (va_cpy nv (fun _ => 0) 0 0 mm9)))) := by rw [eG35]; exact mm_set_of h32_2 (mm_ne_ao h32_2 k33)
      refine lv_aload_n hx hb dX2_note_38 rfl (lv_at hl 0 rfl) ?_
      refine mm_get (v := .ref q31) hx hb hf_X2 (fun _ h9 => h9) hown hK hG k36 rfl 6 (by decide) (tb_use hT tw_294) (fun _ h9 => h9) rfl dX2_note_39 ?_
      refine lv_aload_n hx hb dX2_note_42 rfl (lv_at hl 0 rfl) ?_
      refine mm_get (v := .int (nI mm9)) hx hb hf_X2 (fun _ h9 => h9) hown hK hG k36 rfl 7 (by decide) (tb_use hT tw_295) (fun _ h9 => h9) rfl dX2_note_43 ?_
      refine lv_lload_n hx hb dX2_note_46 rfl (lv_at hl 1 rfl) ?_
      refine mm_last hx hb hK hG hS 2 k38 rfl (nI_in (c := mm9) (by first | (have z := nI_lt_of (a := mm9) (b := cap) (by omega) (by omega) (Int32.not_le.mpr c_18); omega) | omega) (by omega)) dX2_note_47 (fun H locs hG hS => ?_)
      obtain ⟨G39, eG39⟩ : ∃ g, g = mm_set G35 q31 (.inl (cy 2, (2 * mm9), .inr (.inl (vp_updL (va_cpy nv (fun _ => 0) 0 0 mm9) (nI mm9).toNatClampNeg xw)))) := ⟨_, rfl⟩
      have hG : mm D vwCl A G39 H := by rw [eG39]; exact hG
      have k40 : G39 ed = some (.inr (3, [.ref lc, .ref ly, .ref lsv, .ref lco, .ref lva, .ref ljo, .ref q31, .int (nI mm9), va_rf iu, .int wa, va_rf rs])) := by rw [eG39]; exact mm_set_of k36 (mm_ne_oa k36 k38)
      have k41 : G39 na = some (.inl (cy 2, cap, .inr (.inl nv))) := by rw [eG39]; exact mm_set_of k37 ne_na_q31
      have k42 : G39 q31 = some (.inl (cy 2, (2 * mm9), .inr (.inl (vp_updL (va_cpy nv (fun _ => 0) 0 0 mm9) (nI mm9).toNatClampNeg xw)))) := by rw [eG39]; exact mm_set_self
      refine lv_aload_n hx hb dX2_note_48 rfl (lv_at hl 0 rfl) ?_
      refine lv_dup hx hb dX2_note_49 rfl ?_
      refine mm_get (v := .int (nI mm9)) hx hb hf_X2 (fun _ h9 => h9) hown hK hG k40 rfl 7 (by decide) (tb_use hT tw_295) (fun _ h9 => h9) rfl dX2_note_50 ?_
      refine lv_iconst (v := 1) hx hb dX2_note_53 (by decide) ?_
      refine lv_iadd hx hb dX2_note_54 ?_
      rw [← nI_succ mm9]
      refine mm_put (v := .int (nI (mm9 + 1))) (ty := .int) hx hb hf_X2 (fun _ h9 => h9) tyX2 tyX2_ok nmX2 hown hK hG hS k40 rfl 7 (by decide) (tb_use hT tw_295) (fun _ h9 => h9) rfl (by decide +kernel) rfl rfl (Nat.le_of_ble_eq_true rfl) dX2_note_55 (fun H locs hG hS => ?_)
      obtain ⟨G43, eG43⟩ : ∃ g, g = mm_set G39 ed (.inr (3, [.ref lc, .ref ly, .ref lsv, .ref lco, .ref lva, .ref ljo, .ref q31, .int (nI (mm9 + 1)), va_rf iu, .int wa, va_rf rs])) := ⟨_, rfl⟩
      have hG : mm D vwCl A G43 H := by rw [eG43]; exact hG
      have k44 : G43 ed = some (.inr (3, [.ref lc, .ref ly, .ref lsv, .ref lco, .ref lva, .ref ljo, .ref q31, .int (nI (mm9 + 1)), va_rf iu, .int wa, va_rf rs])) := by rw [eG43]; exact mm_set_self
      have k45 : G43 na = some (.inl (cy 2, cap, .inr (.inl nv))) := by rw [eG43]; exact mm_set_of k41 (mm_ne_ao k41 k40)
      have k46 : G43 q31 = some (.inl (cy 2, (2 * mm9), .inr (.inl (vp_updL (va_cpy nv (fun _ => 0) 0 0 mm9) (nI mm9).toNatClampNeg xw)))) := by rw [eG43]; exact mm_set_of k42 (mm_ne_ao k42 k40)
      have h00 : nof (fun j => decide (nv j = xw)) mm9 = 0 := by rw [← er21]; exact c_5
      have hfr : ∀ (x : Nat) (e : va_E), G x = some e → x ≠ ed → x ≠ na → G43 x = some e := by
        intro x e z0 n_ed n_na
        have n_q31 : x ≠ q31 := fun z => by rw [z, hn_q31] at z0; cases z0
        have z1 : G30 x = some e := h32_f x e z0
        have z2 : G35 x = some e := by rw [eG35]; exact mm_set_of z1 n_ed
        have z3 : G39 x = some e := by rw [eG39]; exact mm_set_of z2 n_q31
        have z4 : G43 x = some e := by rw [eG43]; exact mm_set_of z3 n_ed
        exact z4
      refine W.widen (k := 1) (n := (2 * mm9)) (by omega) (by omega) ?_
      exact W.vret hx hb hr (fun t ht hW => ⟨⟨_, rfl, Or.inr ⟨h00, q31, 2 * mm9, _, k44, (by have z := k46; rw [nI_clamp (n := mm9) (by omega)] at z; exact z), (by omega), (by omega), (fun j hj => by simp only [vp_updL, va_cpy]; rw [if_neg (by omega), if_pos (by omega)]; congr 1; omega), (by simp [vp_updL]), Or.inr ⟨hn_q31, rfl⟩, hfr⟩, mk_end hG ht⟩, hS.F ht⟩) hS.2.2 dX2_note_58
  · skip
    refine W.widen (k := 1) (n := (2 * mm9)) (by omega) (by omega) ?_
    exact W.vret hx hb hr (fun t ht hW => ⟨⟨_, rfl, Or.inl ⟨by rw [← er21]; exact c_5, rfl⟩, mk_end hG ht⟩, hS.F ht⟩) hS.2.2 dX2_note_8
