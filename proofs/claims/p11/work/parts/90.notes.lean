theorem fndF_cg {p p2 : Nat → Bool} : ∀ {n j : Nat}, (∀ i, j ≤ i → i < j + n → p i = p2 i) → fndF p n j = fndF p2 n j := by
  intro n
  induction n with
  | zero => intro j _; rfl
  | succ n ih =>
    intro j h
    rw [fndF, fndF, h j (Nat.le_refl _) (by omega), ih (fun i h1 h2 => h i (by omega) (by omega))]
theorem nof_cg {p p2 : Nat → Bool} {m : Nat} (h : ∀ i, i < m → p i = p2 i) : nof p m = nof p2 m := by
  rw [nof, nof, fndF_cg (fun i _ h2 => h i (by omega))]
/-- the names of the first n tokens, each once -/
def ntL (K : Nat → Nat) (V : Nat → Int64) : Nat → Nat × (Nat → Int64)
  | 0 => (0, fun _ => 0)
  | n + 1 => if K n = 0 ∧ nof (fun j => decide ((ntL K V n).2 j = V n)) (ntL K V n).1 = 0 then ((ntL K V n).1 + 1, kup (ntL K V n).2 (ntL K V n).1 (V n)) else ntL K V n
theorem ntL_le {K : Nat → Nat} {V : Nat → Int64} : ∀ n, (ntL K V n).1 ≤ n := by
  intro n
  induction n with
  | zero => exact Nat.le_refl _
  | succ n ih =>
    rw [ntL]
    split
    · show (ntL K V n).1 + 1 ≤ n + 1
      omega
    · omega
theorem pow_lt8 {cl : Nat} (h : 8 * 2 ^ cl ≤ 2000) : cl < 8 := by
  rcases Nat.lt_or_ge cl 8 with h1 | h1
  · exact h1
  · have h2 := Nat.pow_le_pow_right (show 0 < 2 by decide) h1
    have h3 : (2 : Nat) ^ 8 = 256 := by decide
    omega
set_option maxHeartbeats 4000000 in
set_option maxRecDepth 100000 in
theorem c_X2_noteR (l : Launch) (D : va_G) (cy : Nat → ClassId) (A : Nat → Prop) (X : State → Prop) (hst : mk_St A X) (hXT : ∀ U : State, X U → TB U) (e0 : Nat) (tk : Nat → Nat) (hXE : ∀ U : State, X U → ES e0 tk A U) (mi : Nat) (hXL : ∀ U : State, X U → EL e0 mi A U) (G : Nat → Option va_E) (ed : Nat) (lc ly lsv lco lva ljo na : Nat) (wa : Int32) (iu rs : Option Nat) (mm9 cap : Nat) (nv : Nat → Int64) (xw : Int64) (hed : G ed = some (.inr (3, [.ref lc, .ref ly, .ref lsv, .ref lco, .ref lva, .ref ljo, .ref na, .int (nI mm9), va_rf iu, .int wa, va_rf rs]))) (hna : G na = some (.inl (cy 2, cap, .inr (.inl nv)))) (hmc : mm9 ≤ cap) (hcap : cap ≤ 5000) (hm1 : 1 ≤ cap) (hno : ¬ nof (fun j => decide (nv j = xw)) mm9 = 0 ∨ mm9 < cap) : Met l yX2_note [.code yX2_note cX2_note 3 none] ({ frames := 4, cells := 0, slots := 0, locals := 120 }) (mk_Pre D vwCl (tyL cy) A X G [.ref ed, .long xw]) (va_Qv (fun (G2 : Nat → Option va_E) => (¬ nof (fun j => decide (nv j = xw)) mm9 = 0 ∧ G2 = G) ∨ (nof (fun j => decide (nv j = xw)) mm9 = 0 ∧ ∃ nv2 : Nat → Int64, G2 ed = some (.inr (3, [.ref lc, .ref ly, .ref lsv, .ref lco, .ref lva, .ref ljo, .ref na, .int (nI (mm9 + 1)), va_rf iu, .int wa, va_rf rs])) ∧ G2 na = some (.inl (cy 2, cap, .inr (.inl nv2))) ∧ (∀ j, j < mm9 → nv2 j = nv j) ∧ nv2 mm9 = xw ∧ ∀ (x : Nat) (e : va_E), G x = some e → x ≠ ed → x ≠ na → G2 x = some e)) (mk_B D vwCl A) A) 0 0 A := by
  refine Met.ofW (cc := cX2_note) (maxL := 3) (ret := none) (by decide) rfl ?_
  intro p e s m args below meth c s₁ B hml hv
  obtain ⟨rfl, hG, hK, hA, hX⟩ := hv
  have hx := B.exec
  have hb := B.bytes
  have hr := B.returns
  have hlocks := B.notSynchronized
  have hT := hXT s hX
  have hown : s.vm.findClass RX2 = some m.cls := findClass_of_methodNamed B.named
  have hf_X2 : ∀ w ∈ u_ws RX2 TX2 11, w.before ([.ref ed, .long xw] : List Value).toArray s = true := tb_list hT fX2
  have hS : va_S A s.heap s.heap [] := va_S.rf
  have hE := hXE s hX
  have hl := lv_entry ([.ref ed, .long xw]) (n := 3) (Nat.le_of_ble_eq_true rfl)
  rw [lg_entry_eq]
  generalize (lg_sl ([.ref ed, .long xw]) ++ List.replicate (3 - (lg_sl ([.ref ed, .long xw])).length) Slot.unset).toArray = ls at hl ⊢
  have hl : lv_has ls 3 [(0, .ref ed), (1, .long xw)] := hl
  refine lv_aload_n hx hb dX2_note_0 rfl (lv_at hl 0 rfl) ?_
  refine lv_lload_n hx hb dX2_note_1 rfl (lv_at hl 1 rfl) ?_
  refine va_calli (va_runV (As := [.long xw]) (rest := []) ⟨hx, hb, hml, hown, (fun _ h9 => absurd h9 List.not_mem_nil : ∀ w ∈ ([] : List Cond), w.before _ s = true)⟩ (c_X2_numberOf l D cy A X hst hXT e0 tk hXE mi hXL G ed lc ly lsv lco lva ljo na wa iu rs mm9 cap nv xw hed hna hmc (by omega)) (tb_cw (C := RX2) 1 hT tw_980 tw_110 tw_977 tw_978 tw_979 rfl rfl hq_X2_numberOf ⟨Nat.le_of_ble_eq_true rfl, Nat.le_of_ble_eq_true rfl⟩) (mk_preC hst hG hK hA hX hS vc_3 hed) rfl rfl hl.1 rfl (lv_room (Nat.le_of_ble_eq_true rfl)) dX2_note_2 ⟨Nat.le_of_ble_eq_true rfl, Nat.le_of_ble_eq_true rfl⟩) hS (fun q _ h => h) (fun q h => h) (fun r21 G22 t H locs ht hvm hw hB hz1 hk1 hS => ?_)
  have hG : mm D vwCl A G22 H := by rw [← ht]; exact hB
  clear hB hz1 hk1 hvm ht
  obtain ⟨er21, hw⟩ := hw
  rw [hw] at hG
  refine lv_if_eq (tgt := 9) hx hb dX2_note_5 (by decide) (fun c_5 => ?_) (fun c_5 => ?_)
  · skip
    refine lv_aload_n hx hb dX2_note_9 rfl (lv_at hl 0 rfl) ?_
    refine mm_get (v := .int (nI mm9)) hx hb hf_X2 (fun _ h9 => h9) hown hK hG hed rfl 7 (by decide) (tb_use hT tw_295) (fun _ h9 => h9) rfl dX2_note_10 ?_
    refine lv_aload_n hx hb dX2_note_13 rfl (lv_at hl 0 rfl) ?_
    refine mm_get (v := .ref na) hx hb hf_X2 (fun _ h9 => h9) hown hK hG hed rfl 6 (by decide) (tb_use hT tw_294) (fun _ h9 => h9) rfl dX2_note_14 ?_
    refine mm_alen (v := (nI cap)) hx hb hK hG 2 hna rfl rfl dX2_note_17 ?_
    refine lv_icmp_lt (tgt := 38) hx hb dX2_note_18 (by decide) (fun c_18 => ?_) (fun c_18 => ?_)
    · skip
      refine lv_aload_n hx hb dX2_note_38 rfl (lv_at hl 0 rfl) ?_
      refine mm_get (v := .ref na) hx hb hf_X2 (fun _ h9 => h9) hown hK hG hed rfl 6 (by decide) (tb_use hT tw_294) (fun _ h9 => h9) rfl dX2_note_39 ?_
      refine lv_aload_n hx hb dX2_note_42 rfl (lv_at hl 0 rfl) ?_
      refine mm_get (v := .int (nI mm9)) hx hb hf_X2 (fun _ h9 => h9) hown hK hG hed rfl 7 (by decide) (tb_use hT tw_295) (fun _ h9 => h9) rfl dX2_note_43 ?_
      refine lv_lload_n hx hb dX2_note_46 rfl (lv_at hl 1 rfl) ?_
      refine mm_last hx hb hK hG hS 2 hna rfl (nI_in (c := mm9) (nI_lt_of (a := mm9) (b := cap) (by omega) (by omega) (Int32.not_le.mpr c_18)) (by omega)) dX2_note_47 (fun H locs hG hS => ?_)
      obtain ⟨G23, eG23⟩ : ∃ g, g = mm_set G na (.inl (cy 2, cap, .inr (.inl (vp_updL nv (nI mm9).toNatClampNeg xw)))) := ⟨_, rfl⟩
      have hG : mm D vwCl A G23 H := by rw [eG23]; exact hG
      have k24 : G23 ed = some (.inr (3, [.ref lc, .ref ly, .ref lsv, .ref lco, .ref lva, .ref ljo, .ref na, .int (nI mm9), va_rf iu, .int wa, va_rf rs])) := by rw [eG23]; exact mm_set_of hed (mm_ne_oa hed hna)
      have k25 : G23 na = some (.inl (cy 2, cap, .inr (.inl (vp_updL nv (nI mm9).toNatClampNeg xw)))) := by rw [eG23]; exact mm_set_self
      refine lv_aload_n hx hb dX2_note_48 rfl (lv_at hl 0 rfl) ?_
      refine lv_dup hx hb dX2_note_49 rfl ?_
      refine mm_get (v := .int (nI mm9)) hx hb hf_X2 (fun _ h9 => h9) hown hK hG k24 rfl 7 (by decide) (tb_use hT tw_295) (fun _ h9 => h9) rfl dX2_note_50 ?_
      refine lv_iconst (v := 1) hx hb dX2_note_53 (by decide) ?_
      refine lv_iadd hx hb dX2_note_54 ?_
      rw [← nI_succ mm9]
      refine mm_put (v := .int (nI (mm9 + 1))) (ty := .int) hx hb hf_X2 (fun _ h9 => h9) tyX2 tyX2_ok nmX2 hown hK hG hS k24 rfl 7 (by decide) (tb_use hT tw_295) (fun _ h9 => h9) rfl (by decide +kernel) rfl rfl (Nat.le_of_ble_eq_true rfl) dX2_note_55 (fun H locs hG hS => ?_)
      obtain ⟨G26, eG26⟩ : ∃ g, g = mm_set G23 ed (.inr (3, [.ref lc, .ref ly, .ref lsv, .ref lco, .ref lva, .ref ljo, .ref na, .int (nI (mm9 + 1)), va_rf iu, .int wa, va_rf rs])) := ⟨_, rfl⟩
      have hG : mm D vwCl A G26 H := by rw [eG26]; exact hG
      have k27 : G26 ed = some (.inr (3, [.ref lc, .ref ly, .ref lsv, .ref lco, .ref lva, .ref ljo, .ref na, .int (nI (mm9 + 1)), va_rf iu, .int wa, va_rf rs])) := by rw [eG26]; exact mm_set_self
      have k28 : G26 na = some (.inl (cy 2, cap, .inr (.inl (vp_updL nv (nI mm9).toNatClampNeg xw)))) := by rw [eG26]; exact mm_set_of k25 (mm_ne_ao k25 k24)
      have h00 : nof (fun j => decide (nv j = xw)) mm9 = 0 := by rw [← er21]; exact c_5
      have hfr : ∀ (x : Nat) (e : va_E), G x = some e → x ≠ ed → x ≠ na → G26 x = some e := by
        intro x e z0 n_ed n_na
        have z1 : G23 x = some e := by rw [eG23]; exact mm_set_of z0 n_na
        have z2 : G26 x = some e := by rw [eG26]; exact mm_set_of z1 n_ed
        exact z2
      exact W.vret hx hb hr (fun t ht hW => ⟨⟨_, rfl, Or.inr ⟨h00, _, k27, (by have z := k28; rw [nI_clamp (n := mm9) (by omega)] at z; exact z), (fun j hj => by simp only [vp_updL]; rw [if_neg (by omega)]), (by simp [vp_updL]), hfr⟩, mk_end hG ht⟩, hS.F ht⟩) hS.2.2 dX2_note_58
    · skip
      exact absurd (nI_lt (hno.resolve_left (fun z => z (by rw [← er21]; exact c_5))) (by omega)) c_18
  · skip
    exact W.vret hx hb hr (fun t ht hW => ⟨⟨_, rfl, Or.inl ⟨by rw [← er21]; exact c_5, rfl⟩, mk_end hG ht⟩, hS.F ht⟩) hS.2.2 dX2_note_8
set_option maxHeartbeats 4000000 in
set_option maxRecDepth 100000 in
theorem c_X2_noteG (l : Launch) (D : va_G) (cy : Nat → ClassId) (A : Nat → Prop) (X : State → Prop) (hst : mk_St A X) (hXT : ∀ U : State, X U → TB U) (e0 : Nat) (tk : Nat → Nat) (hXE : ∀ U : State, X U → ES e0 tk A U) (mi : Nat) (hXL : ∀ U : State, X U → EL e0 mi A U) (G : Nat → Option va_E) (ed : Nat) (lc ly lsv lco lva ljo na : Nat) (wa : Int32) (iu rs : Option Nat) (mm9 cap : Nat) (nv : Nat → Int64) (xw : Int64) (hed : G ed = some (.inr (3, [.ref lc, .ref ly, .ref lsv, .ref lco, .ref lva, .ref ljo, .ref na, .int (nI mm9), va_rf iu, .int wa, va_rf rs]))) (hna : G na = some (.inl (cy 2, cap, .inr (.inl nv)))) (hmc : mm9 ≤ cap) (hcap : cap ≤ 5000) (hm1 : 1 ≤ cap) (hmE : mm9 = cap) (hno : nof (fun j => decide (nv j = xw)) mm9 = 0) : Met l yX2_note [.code yX2_note cX2_note 3 none] ({ frames := 4, cells := 1, slots := (2 * mm9), locals := 120 }) (mk_Pre D vwCl (tyL cy) A X G [.ref ed, .long xw]) (va_Qv (fun (G2 : Nat → Option va_E) => ∃ (na2 : Nat) (nv2 : Nat → Int64), G2 ed = some (.inr (3, [.ref lc, .ref ly, .ref lsv, .ref lco, .ref lva, .ref ljo, .ref na2, .int (nI (mm9 + 1)), va_rf iu, .int wa, va_rf rs])) ∧ G2 na2 = some (.inl (cy 2, (2 * mm9), .inr (.inl nv2))) ∧ (∀ j, j < mm9 → nv2 j = nv j) ∧ nv2 mm9 = xw ∧ G na2 = none ∧ ∀ (x : Nat) (e : va_E), G x = some e → x ≠ ed → G2 x = some e) (mk_B D vwCl A) A) 1 (2 * mm9) A := by
  refine Met.ofW (cc := cX2_note) (maxL := 3) (ret := none) (by decide) rfl ?_
  intro p e s m args below meth c s₁ B hml hv
  obtain ⟨rfl, hG, hK, hA, hX⟩ := hv
  have hx := B.exec
  have hb := B.bytes
  have hr := B.returns
  have hlocks := B.notSynchronized
  have hT := hXT s hX
  have hown : s.vm.findClass RX2 = some m.cls := findClass_of_methodNamed B.named
  have hf_X2 : ∀ w ∈ u_ws RX2 TX2 11, w.before ([.ref ed, .long xw] : List Value).toArray s = true := tb_list hT fX2
  have hS : va_S A s.heap s.heap [] := va_S.rf
  have hE := hXE s hX
  have hl := lv_entry ([.ref ed, .long xw]) (n := 3) (Nat.le_of_ble_eq_true rfl)
  rw [lg_entry_eq]
  generalize (lg_sl ([.ref ed, .long xw]) ++ List.replicate (3 - (lg_sl ([.ref ed, .long xw])).length) Slot.unset).toArray = ls at hl ⊢
  have hl : lv_has ls 3 [(0, .ref ed), (1, .long xw)] := hl
  refine lv_aload_n hx hb dX2_note_0 rfl (lv_at hl 0 rfl) ?_
  refine lv_lload_n hx hb dX2_note_1 rfl (lv_at hl 1 rfl) ?_
  refine va_calli (va_runV (As := [.long xw]) (rest := []) ⟨hx, hb, hml, hown, (fun _ h9 => absurd h9 List.not_mem_nil : ∀ w ∈ ([] : List Cond), w.before _ s = true)⟩ (c_X2_numberOf l D cy A X hst hXT e0 tk hXE mi hXL G ed lc ly lsv lco lva ljo na wa iu rs mm9 cap nv xw hed hna hmc (by omega)) (tb_cw (C := RX2) 1 hT tw_980 tw_110 tw_977 tw_978 tw_979 rfl rfl hq_X2_numberOf ⟨Nat.le_of_ble_eq_true rfl, Nat.le_of_ble_eq_true rfl⟩) (mk_preC hst hG hK hA hX hS vc_3 hed) rfl rfl hl.1 rfl (lv_room (Nat.le_of_ble_eq_true rfl)) dX2_note_2 ⟨(by show _ ≤ 1; omega), (by show _ ≤ 2 * mm9; omega)⟩) hS (fun q _ h => h) (fun q h => h) (fun r21 G22 t H locs ht hvm hw hB hz1 hk1 hS => ?_)
  have hG : mm D vwCl A G22 H := by rw [← ht]; exact hB
  clear hB hz1 hk1 hvm ht
  obtain ⟨er21, hw⟩ := hw
  rw [hw] at hG
  refine lv_if_eq (tgt := 9) hx hb dX2_note_5 (by decide) (fun c_5 => ?_) (fun c_5 => ?_)
  · skip
    refine lv_aload_n hx hb dX2_note_9 rfl (lv_at hl 0 rfl) ?_
    refine mm_get (v := .int (nI mm9)) hx hb hf_X2 (fun _ h9 => h9) hown hK hG hed rfl 7 (by decide) (tb_use hT tw_295) (fun _ h9 => h9) rfl dX2_note_10 ?_
    refine lv_aload_n hx hb dX2_note_13 rfl (lv_at hl 0 rfl) ?_
    refine mm_get (v := .ref na) hx hb hf_X2 (fun _ h9 => h9) hown hK hG hed rfl 6 (by decide) (tb_use hT tw_294) (fun _ h9 => h9) rfl dX2_note_14 ?_
    refine mm_alen (v := (nI cap)) hx hb hK hG 2 hna rfl rfl dX2_note_17 ?_
    refine lv_icmp_lt (tgt := 38) hx hb dX2_note_18 (by decide) (fun c_18 => ?_) (fun c_18 => ?_)
    · skip
      exact absurd c_18 (nI_nlt (by omega) (by omega))
    · skip
      refine lv_aload_n hx hb dX2_note_21 rfl (lv_at hl 0 rfl) ?_
      refine lv_aload_n hx hb dX2_note_22 rfl (lv_at hl 0 rfl) ?_
      refine mm_get (v := .ref na) hx hb hf_X2 (fun _ h9 => h9) hown hK hG hed rfl 6 (by decide) (tb_use hT tw_294) (fun _ h9 => h9) rfl dX2_note_23 ?_
      refine lv_iconst (v := 2) hx hb dX2_note_26 (by decide) ?_
      refine lv_aload_n hx hb dX2_note_27 rfl (lv_at hl 0 rfl) ?_
      refine mm_get (v := .int (nI mm9)) hx hb hf_X2 (fun _ h9 => h9) hown hK hG hed rfl 7 (by decide) (tb_use hT tw_295) (fun _ h9 => h9) rfl dX2_note_28 ?_
      refine lv_imul hx hb dX2_note_31 ?_
      rw [g_mul2 mm9]
      have hc9 : cap = mm9 := by have z := nI_ge_of (a := mm9) (b := cap) (by omega) (by omega) (Int32.not_lt.mp c_18); omega
      have k_na : G na = some (.inl (cy 2, mm9, .inr (.inl nv))) := by rw [← hc9]; exact hna
      refine va_callq (va_runS (As := [.ref na, .int (nI (2 * mm9))]) (rest := [.ref ed]) ⟨hx, hb, hml, hown, (fun _ h9 => absurd h9 List.not_mem_nil : ∀ w ∈ ([] : List Cond), w.before _ s = true)⟩ (c_J7_copyOfL l D cy A X hst hXT e0 tk hXE mi hXL G na mm9 (2 * mm9) nv k_na (by omega) (by omega)) (tb_cs 2 hT tw_983 tw_125 tw_981 tw_982 rfl rfl hq_J7_copyOf_c38d5 ⟨Nat.le_of_ble_eq_true rfl, Nat.le_of_ble_eq_true rfl⟩) (mk_preS hst hG hK hA hX hS) rfl rfl hl.1 rfl (lv_room (Nat.le_of_ble_eq_true rfl)) dX2_note_32 ⟨(by show _ ≤ 1; omega), (by show _ ≤ 2 * mm9; omega)⟩) hS (fun q _ h => h) (fun q h => h) (fun r23 G24 t H locs ht hvm hw hB hz1 hk1 hS => ?_)
      have hG : mm D vwCl A G24 H := by rw [← ht]; exact hB
      clear hB hz1 hk1 hvm ht
      obtain ⟨q25, rfl, hn_q25, h26_2, h26_f⟩ := hw
      have ne_na_q25 : na ≠ q25 := mm_ne_new hna hn_q25
      have k27 : G24 ed = some (.inr (3, [.ref lc, .ref ly, .ref lsv, .ref lco, .ref lva, .ref ljo, .ref na, .int (nI mm9), va_rf iu, .int wa, va_rf rs])) := h26_f _ _ hed
      have k28 : G24 na = some (.inl (cy 2, cap, .inr (.inl nv))) := h26_f _ _ hna
      refine mm_put (v := .ref q25) (ty := .array .long) hx hb hf_X2 (fun _ h9 => h9) tyX2 tyX2_ok nmX2 hown hK hG hS k27 rfl 6 (by decide) (tb_use hT tw_294) (fun _ h9 => h9) rfl (by decide +kernel) rfl rfl (Nat.le_of_ble_eq_true rfl) dX2_note_35 (fun H locs hG hS => ?_)
      obtain ⟨G29, eG29⟩ : ∃ g, g = mm_set G24 ed (.inr (3, [.ref lc, .ref ly, .ref lsv, .ref lco, .ref lva, .ref ljo, .ref q25, .int (nI mm9), va_rf iu, .int wa, va_rf rs])) := ⟨_, rfl⟩
      have hG : mm D vwCl A G29 H := by rw [eG29]; exact hG
      have k30 : G29 ed = some (.inr (3, [.ref lc, .ref ly, .ref lsv, .ref lco, .ref lva, .ref ljo, .ref q25, .int (nI mm9), va_rf iu, .int wa, va_rf rs])) := by rw [eG29]; exact mm_set_self
      have k31 : G29 na = some (.inl (cy 2, cap, .inr (.inl nv))) := by rw [eG29]; exact mm_set_of k28 (mm_ne_ao k28 k27)
      have k32 : G29 q25 = some (.inl (cy 2, (2 * mm9), .inr (.inl (va_cpy nv (fun _ => 0) 0 0 mm9)))) := by rw [eG29]; exact mm_set_of h26_2 (mm_ne_ao h26_2 k27)
      refine lv_aload_n hx hb dX2_note_38 rfl (lv_at hl 0 rfl) ?_
      refine mm_get (v := .ref q25) hx hb hf_X2 (fun _ h9 => h9) hown hK hG k30 rfl 6 (by decide) (tb_use hT tw_294) (fun _ h9 => h9) rfl dX2_note_39 ?_
      refine lv_aload_n hx hb dX2_note_42 rfl (lv_at hl 0 rfl) ?_
      refine mm_get (v := .int (nI mm9)) hx hb hf_X2 (fun _ h9 => h9) hown hK hG k30 rfl 7 (by decide) (tb_use hT tw_295) (fun _ h9 => h9) rfl dX2_note_43 ?_
      refine lv_lload_n hx hb dX2_note_46 rfl (lv_at hl 1 rfl) ?_
      refine mm_last hx hb hK hG hS 2 k32 rfl (nI_in (c := mm9) (by omega) (by omega)) dX2_note_47 (fun H locs hG hS => ?_)
      obtain ⟨G33, eG33⟩ : ∃ g, g = mm_set G29 q25 (.inl (cy 2, (2 * mm9), .inr (.inl (vp_updL (va_cpy nv (fun _ => 0) 0 0 mm9) (nI mm9).toNatClampNeg xw)))) := ⟨_, rfl⟩
      have hG : mm D vwCl A G33 H := by rw [eG33]; exact hG
      have k34 : G33 ed = some (.inr (3, [.ref lc, .ref ly, .ref lsv, .ref lco, .ref lva, .ref ljo, .ref q25, .int (nI mm9), va_rf iu, .int wa, va_rf rs])) := by rw [eG33]; exact mm_set_of k30 (mm_ne_oa k30 k32)
      have k35 : G33 na = some (.inl (cy 2, cap, .inr (.inl nv))) := by rw [eG33]; exact mm_set_of k31 ne_na_q25
      have k36 : G33 q25 = some (.inl (cy 2, (2 * mm9), .inr (.inl (vp_updL (va_cpy nv (fun _ => 0) 0 0 mm9) (nI mm9).toNatClampNeg xw)))) := by rw [eG33]; exact mm_set_self
      refine lv_aload_n hx hb dX2_note_48 rfl (lv_at hl 0 rfl) ?_
      refine lv_dup hx hb dX2_note_49 rfl ?_
      refine mm_get (v := .int (nI mm9)) hx hb hf_X2 (fun _ h9 => h9) hown hK hG k34 rfl 7 (by decide) (tb_use hT tw_295) (fun _ h9 => h9) rfl dX2_note_50 ?_
      refine lv_iconst (v := 1) hx hb dX2_note_53 (by decide) ?_
      refine lv_iadd hx hb dX2_note_54 ?_
      rw [← nI_succ mm9]
      refine mm_put (v := .int (nI (mm9 + 1))) (ty := .int) hx hb hf_X2 (fun _ h9 => h9) tyX2 tyX2_ok nmX2 hown hK hG hS k34 rfl 7 (by decide) (tb_use hT tw_295) (fun _ h9 => h9) rfl (by decide +kernel) rfl rfl (Nat.le_of_ble_eq_true rfl) dX2_note_55 (fun H locs hG hS => ?_)
      obtain ⟨G37, eG37⟩ : ∃ g, g = mm_set G33 ed (.inr (3, [.ref lc, .ref ly, .ref lsv, .ref lco, .ref lva, .ref ljo, .ref q25, .int (nI (mm9 + 1)), va_rf iu, .int wa, va_rf rs])) := ⟨_, rfl⟩
      have hG : mm D vwCl A G37 H := by rw [eG37]; exact hG
      have k38 : G37 ed = some (.inr (3, [.ref lc, .ref ly, .ref lsv, .ref lco, .ref lva, .ref ljo, .ref q25, .int (nI (mm9 + 1)), va_rf iu, .int wa, va_rf rs])) := by rw [eG37]; exact mm_set_self
      have k39 : G37 na = some (.inl (cy 2, cap, .inr (.inl nv))) := by rw [eG37]; exact mm_set_of k35 (mm_ne_ao k35 k34)
      have k40 : G37 q25 = some (.inl (cy 2, (2 * mm9), .inr (.inl (vp_updL (va_cpy nv (fun _ => 0) 0 0 mm9) (nI mm9).toNatClampNeg xw)))) := by rw [eG37]; exact mm_set_of k36 (mm_ne_ao k36 k34)
      have hfr : ∀ (x : Nat) (e : va_E), G x = some e → x ≠ ed → G37 x = some e := by
        intro x e z0 n_ed
        have n_q25 : x ≠ q25 := fun z => by rw [z, hn_q25] at z0; cases z0
        have z1 : G24 x = some e := h26_f x e z0
        have z2 : G29 x = some e := by rw [eG29]; exact mm_set_of z1 n_ed
        have z3 : G33 x = some e := by rw [eG33]; exact mm_set_of z2 n_q25
        have z4 : G37 x = some e := by rw [eG37]; exact mm_set_of z3 n_ed
        exact z4
      refine W.widen (k := 1) (n := (2 * mm9)) (by omega) (by omega) ?_
      exact W.vret hx hb hr (fun t ht hW => ⟨⟨_, rfl, ⟨q25, _, k38, (by have z := k40; rw [nI_clamp (n := mm9) (by omega)] at z; exact z), (fun j hj => by simp only [vp_updL, va_cpy]; rw [if_neg (by omega), if_pos (by omega)]; congr 1; omega), (by simp [vp_updL]), hn_q25, hfr⟩, mk_end hG ht⟩, hS.F ht⟩) hS.2.2 dX2_note_58
  · skip
    exact absurd (by rw [er21]; exact hno) c_5
set_option maxHeartbeats 4000000 in
set_option maxRecDepth 100000 in
theorem c_X9_noteNames (l : Launch) (D : va_G) (cy : Nat → ClassId) (A : Nat → Prop) (X : State → Prop) (hst : mk_St A X) (hXT : ∀ U : State, X U → TB U) (e0 : Nat) (tk : Nat → Nat) (hXE : ∀ U : State, X U → ES e0 tk A U) (mi : Nat) (hXL : ∀ U : State, X U → EL e0 mi A U) (G : Nat → Option va_E) (o ow ed : Nat) (q : Nat × Int32) (k ks ss vs tn : Nat) (K : Nat → Nat) (S : Nat → Int32) (V : Nat → Int64) (f1 : Nat → Option Nat) (f2 : Nat → Int32) (f3 : Nat → Int64) (lc ly lsv lco lva ljo na0 : Nat) (wa : Int32) (iu rs : Option Nat) (nv0 : Nat → Int64) (h0 : G o = some (.inr (10, [.ref k, .ref ow, .ref ed, .int (nI q.1), .int q.2]))) (q1 : G k = some (.inr (13, [.ref ks, .ref ss, .ref vs, .int (nI tn)]))) (q2 : G ks = some (.inl (cy 5, 2001, .inr (.inr (.inr (.inr f1)))))) (q3 : G ss = some (.inl (cy 1, 2001, .inl f2))) (q4 : G vs = some (.inl (cy 2, 2001, .inr (.inl f3)))) (hTP : TKP tk tn K S V f1 f2 f3) (hed : G ed = some (.inr (3, [.ref lc, .ref ly, .ref lsv, .ref lco, .ref lva, .ref ljo, .ref na0, .int 0, va_rf iu, .int wa, va_rf rs]))) (hna : G na0 = some (.inl (cy 2, 8, .inr (.inl nv0)))) : Met l yX9_noteNames [.code yX9_noteNames cX9_noteNames 2 none] ({ frames := 5, cells := 8, slots := 4080, locals := 150 }) (mk_Pre D vwCl (tyL cy) A X G [.ref o]) (va_Qv (fun (G2 : Nat → Option va_E) => ∃ (na2 cap2 : Nat) (nv2 : Nat → Int64), G2 ed = some (.inr (3, [.ref lc, .ref ly, .ref lsv, .ref lco, .ref lva, .ref ljo, .ref na2, .int (nI (ntL K V (if q.2 < 0 then tn else 0)).1), va_rf iu, .int wa, va_rf rs])) ∧ G2 na2 = some (.inl (cy 2, cap2, .inr (.inl nv2))) ∧ (ntL K V (if q.2 < 0 then tn else 0)).1 ≤ cap2 ∧ cap2 ≤ 2048 ∧ (∀ i, i < (ntL K V (if q.2 < 0 then tn else 0)).1 → nv2 i = (ntL K V (if q.2 < 0 then tn else 0)).2 i) ∧ (na2 = na0 ∨ G na2 = none) ∧ (∃ e, G2 na0 = some e) ∧ ∀ (x : Nat) (e : va_E), G x = some e → x ≠ ed → x ≠ na0 → G2 x = some e) (mk_B D vwCl A) A) 8 4080 A := by
  refine Met.ofW (cc := cX9_noteNames) (maxL := 2) (ret := none) (by decide) rfl ?_
  intro p e s m args below meth c s₁ B hml hv
  obtain ⟨rfl, hG, hK, hA, hX⟩ := hv
  have hx := B.exec
  have hb := B.bytes
  have hr := B.returns
  have hlocks := B.notSynchronized
  have hT := hXT s hX
  have hown : s.vm.findClass RX9 = some m.cls := findClass_of_methodNamed B.named
  have hf_X9 : ∀ w ∈ u_ws RX9 TX9 5, w.before ([.ref o] : List Value).toArray s = true := tb_list hT fX9
  have hf_X12 : ∀ w ∈ u_ws RX12 TX12 4, w.before ([.ref o] : List Value).toArray s = true := tb_list hT fX12
  have hS : va_S A s.heap s.heap [] := va_S.rf
  have hE := hXE s hX
  have hl := lv_entry ([.ref o]) (n := 2) (Nat.le_of_ble_eq_true rfl)
  rw [lg_entry_eq]
  generalize (lg_sl ([.ref o]) ++ List.replicate (2 - (lg_sl ([.ref o])).length) Slot.unset).toArray = ls at hl ⊢
  have hl : lv_has ls 2 [(0, .ref o)] := hl
  have htn := hTP.1
  have hne0 : na0 ≠ ed := mm_ne_ao hna hed
  have hloop : ∀ (n : Nat) (j9 mm9 cap cl na : Nat) (nv : Nat → Int64), (n + j9 = tn) → (¬ q.2 < 0 → j9 = 0) → (mm9 = (ntL K V j9).1) → (∀ i, i < mm9 → nv i = (ntL K V j9).2 i) → (cap = 8 * 2 ^ cl) → (cl ≤ 8) → (mm9 ≤ cap) → ∀ (Gv : Nat → Option va_E), (Gv o = some (.inr (10, [.ref k, .ref ow, .ref ed, .int (nI q.1), .int q.2]))) → (Gv k = some (.inr (13, [.ref ks, .ref ss, .ref vs, .int (nI tn)]))) → (Gv ks = some (.inl (cy 5, 2001, .inr (.inr (.inr (.inr f1)))))) → (Gv ss = some (.inl (cy 1, 2001, .inl f2))) → (Gv vs = some (.inl (cy 2, 2001, .inr (.inl f3)))) → (Gv ed = some (.inr (3, [.ref lc, .ref ly, .ref lsv, .ref lco, .ref lva, .ref ljo, .ref na, .int (nI mm9), va_rf iu, .int wa, va_rf rs]))) → (Gv na = some (.inl (cy 2, cap, .inr (.inl nv)))) → (na = na0 ∨ G na = none) → (∃ e, Gv na0 = some e) → (∀ (x : Nat) (e : va_E), G x = some e → x ≠ ed → x ≠ na0 → Gv x = some e) → ∀ (H : Heap) (locs : List Loc), mm D vwCl A Gv H → va_S A s.heap H locs → ∀ ls : Array Slot, lv_has ls 2 [(0, .ref o), (1, .int (nI j9))] → W p l e (headSpec [.code yX9_noteNames cX9_noteNames 2 none] ({ frames := 5, cells := 8, slots := 4080, locals := 150 })).room s m ([.ref o] : List Value).toArray below meth c H locs cl (2 * cap - 16) (MQ below (va_Qv (fun (G2 : Nat → Option va_E) => ∃ (na2 cap2 : Nat) (nv2 : Nat → Int64), G2 ed = some (.inr (3, [.ref lc, .ref ly, .ref lsv, .ref lco, .ref lva, .ref ljo, .ref na2, .int (nI (ntL K V (if q.2 < 0 then tn else 0)).1), va_rf iu, .int wa, va_rf rs])) ∧ G2 na2 = some (.inl (cy 2, cap2, .inr (.inl nv2))) ∧ (ntL K V (if q.2 < 0 then tn else 0)).1 ≤ cap2 ∧ cap2 ≤ 2048 ∧ (∀ i, i < (ntL K V (if q.2 < 0 then tn else 0)).1 → nv2 i = (ntL K V (if q.2 < 0 then tn else 0)).2 i) ∧ (na2 = na0 ∨ G na2 = none) ∧ (∃ e, G2 na0 = some e) ∧ ∀ (x : Nat) (e : va_E), G x = some e → x ≠ ed → x ≠ na0 → G2 x = some e) (mk_B D vwCl A) A) ([.ref o] : List Value).toArray s 8 4080 A) (F0 m 2 ls []) := by
    intro n
    induction n with
    | zero =>
      intro j9 mm9 cap cl na nv hjn hj0 hmn hnv hcp hc8 hmc Gv v_o v_k v_ks v_ss v_vs v_ed v_na hnaN hn0 hfr H locs hG hS ls hl
      have hml9 := ntL_le (K := K) (V := V) j9
      have h1c : 8 ≤ cap := by have := Nat.two_pow_pos cl; omega
      have hcb : cap ≤ 2048 := by have := Nat.pow_le_pow_right (show 0 < 2 by decide) hc8; have h77 : (2 : Nat) ^ 8 = 256 := (by decide); omega
      refine lv_iload_n hx hb dX9_noteNames_2 rfl (lv_at hl 1 rfl) ?_
      refine lv_aload_n hx hb dX9_noteNames_3 rfl (lv_at hl 0 rfl) ?_
      refine mm_get (v := .ref k) hx hb hf_X9 (fun _ h9 => h9) hown hK hG v_o rfl 0 (by decide) (tb_use hT tw_177) (fun _ h9 => h9) rfl dX9_noteNames_4 ?_
      refine mm_getN (v := .int (nI tn)) hx hb hf_X12 (fun _ h9 => h9) hown hK hG v_k rfl 3 (by decide) (tb_use hT tw_164) (fun _ h9 => h9) rfl dX9_noteNames_7 ?_
      refine lv_icmp_ge (tgt := 55) hx hb dX9_noteNames_10 (by decide) (fun c_10 => ?_) (fun c_10 => ?_)
      · skip
        have hNT : (if q.2 < 0 then tn else 0) = j9 := by split; omega; rename_i hz; rw [hj0 hz]
        have hcb : cap ≤ 2048 := by have := Nat.pow_le_pow_right (show 0 < 2 by decide) hc8; have h77 : (2 : Nat) ^ 8 = 256 := (by decide); omega
        refine W.widen (k := 8) (n := 4080) (by omega) (by have := Nat.pow_le_pow_right (show 0 < 2 by decide) hc8; have h77 : (2 : Nat) ^ 8 = 256 := (by decide); omega) ?_
        exact W.vret hx hb hr (fun t ht hW => ⟨⟨_, rfl, (by rw [hNT, ← hmn]; exact ⟨na, cap, nv, v_ed, v_na, hmc, hcb, hnv, hnaN, hn0, hfr⟩), mk_end hG ht⟩, hS.F ht⟩) hS.2.2 dX9_noteNames_55
      · skip
        exact absurd (by rw [show j9 = tn by omega]; exact Int32.le_refl _) c_10
    | succ n ih =>
      intro j9 mm9 cap cl na nv hjn hj0 hmn hnv hcp hc8 hmc Gv v_o v_k v_ks v_ss v_vs v_ed v_na hnaN hn0 hfr H locs hG hS ls hl
      have hml9 := ntL_le (K := K) (V := V) j9
      have h1c : 8 ≤ cap := by have := Nat.two_pow_pos cl; omega
      have hcb : cap ≤ 2048 := by have := Nat.pow_le_pow_right (show 0 < 2 by decide) hc8; have h77 : (2 : Nat) ^ 8 = 256 := (by decide); omega
      refine lv_iload_n hx hb dX9_noteNames_2 rfl (lv_at hl 1 rfl) ?_
      refine lv_aload_n hx hb dX9_noteNames_3 rfl (lv_at hl 0 rfl) ?_
      refine mm_get (v := .ref k) hx hb hf_X9 (fun _ h9 => h9) hown hK hG v_o rfl 0 (by decide) (tb_use hT tw_177) (fun _ h9 => h9) rfl dX9_noteNames_4 ?_
      refine mm_getN (v := .int (nI tn)) hx hb hf_X12 (fun _ h9 => h9) hown hK hG v_k rfl 3 (by decide) (tb_use hT tw_164) (fun _ h9 => h9) rfl dX9_noteNames_7 ?_
      refine lv_icmp_ge (tgt := 55) hx hb dX9_noteNames_10 (by decide) (fun c_10 => ?_) (fun c_10 => ?_)
      · skip
        exact absurd c_10 (nI_ge (by omega) (by omega))
      · skip
        refine lv_aload_n hx hb dX9_noteNames_13 rfl (lv_at hl 0 rfl) ?_
        refine mm_get (v := .int q.2) hx hb hf_X9 (fun _ h9 => h9) hown hK hG v_o rfl 4 (by decide) (tb_use hT tw_181) (fun _ h9 => h9) rfl dX9_noteNames_14 ?_
        refine lv_if_ge (tgt := 55) hx hb dX9_noteNames_17 (by decide) (fun c_17 => ?_) (fun c_17 => ?_)
        · skip
          have hNT : (if q.2 < 0 then tn else 0) = j9 := by rw [if_neg (Int32.not_lt.mpr c_17), hj0 (Int32.not_lt.mpr c_17)]
          have hcb : cap ≤ 2048 := by have := Nat.pow_le_pow_right (show 0 < 2 by decide) hc8; have h77 : (2 : Nat) ^ 8 = 256 := (by decide); omega
          refine W.widen (k := 8) (n := 4080) (by omega) (by have := Nat.pow_le_pow_right (show 0 < 2 by decide) hc8; have h77 : (2 : Nat) ^ 8 = 256 := (by decide); omega) ?_
          exact W.vret hx hb hr (fun t ht hW => ⟨⟨_, rfl, (by rw [hNT, ← hmn]; exact ⟨na, cap, nv, v_ed, v_na, hmc, hcb, hnv, hnaN, hn0, hfr⟩), mk_end hG ht⟩, hS.F ht⟩) hS.2.2 dX9_noteNames_55
        · skip
          refine lv_aload_n hx hb dX9_noteNames_20 rfl (lv_at hl 0 rfl) ?_
          refine mm_get (v := .ref k) hx hb hf_X9 (fun _ h9 => h9) hown hK hG v_o rfl 0 (by decide) (tb_use hT tw_177) (fun _ h9 => h9) rfl dX9_noteNames_21 ?_
          refine lv_iload_n hx hb dX9_noteNames_24 rfl (lv_at hl 1 rfl) ?_
          refine va_callq (va_runV (As := [.int (nI j9)]) (rest := []) ⟨hx, hb, hml, hown, (fun _ h9 => absurd h9 List.not_mem_nil : ∀ w ∈ ([] : List Cond), w.before _ s = true)⟩ (c_X12_kind l D cy A X hst hXT e0 tk hXE Gv k ks ss vs tn K S V f1 f2 f3 j9 v_k v_ks v_ss v_vs hTP (by first | omega | (simp only []; omega))) (tb_cw (C := RX12) 1 hT tw_441 tw_107 tw_438 tw_439 tw_440 rfl rfl hq_X12_kind ⟨Nat.le_of_ble_eq_true rfl, Nat.le_of_ble_eq_true rfl⟩) (mk_preC hst hG hK hA hX hS vc_13 v_k) rfl rfl hl.1 rfl (lv_room (Nat.le_of_ble_eq_true rfl)) dX9_noteNames_25 ⟨(by show cl + 0 ≤ 8; omega), (by show 2 * cap - 16 + 0 ≤ 4080; have := Nat.pow_le_pow_right (show 0 < 2 by decide) (show cl ≤ 8 by omega); have h77 : (2 : Nat) ^ 8 = 256 := (by decide); omega)⟩) hS (fun q _ h => h) (fun q h => h) (fun r21 G22 t H locs ht hvm hw hB hz1 hk1 hS => ?_)
          have hG : mm D vwCl A G22 H := by rw [← ht]; exact hB
          clear hB hz1 hk1 hvm ht
          obtain ⟨rfl, hw⟩ := hw
          rw [hw] at hG
          refine va_gets (v := .ref (tk 0)) hx hb (show va_Z "DescribeText$Token" "NAME" "LDescribeText$Token;" (.ref (tk 0)) A s s.heap from (hE.2.1 0 (by decide)).1) hS hown (tb_use hT tw_480) (fun _ h9 => h9) dX9_noteNames_28 ?_
          refine lv_acmp_ne (rx := some (tk (K j9))) (ry := some (tk 0)) (tgt := 49) hx hb dX9_noteNames_31 (by decide) (fun c_31 => ?_) (fun c_31 => ?_)
          · skip
            obtain ⟨x23, ex23⟩ : ∃ y : Int32, y = (nI j9) + 1 := ⟨_, rfl⟩
            refine lv_iinc (v := x23) (lv' := [(1, .int x23), (0, .ref o)]) hx hb dX9_noteNames_49 hl (k := 1) rfl (by rw [ex23]; rfl) (by decide) rfl (fun ls hl => ?_)
            refine lv_goto (tgt := 2) hx hb dX9_noteNames_52 (by decide) ?_
            rw [show x23 = nI (j9 + 1) by rw [ex23]; exact (nI_succ j9).symm] at hl
            have hk0 : ¬ K j9 = 0 := fun z => c_31 (by rw [z])
            have hn2 : ntL K V (j9 + 1) = ntL K V j9 := by rw [ntL, if_neg (fun z => hk0 z.1)]
            exact ih (j9 + 1) mm9 cap cl na nv (by omega) (fun z => absurd (Int32.not_le.mp c_17) z) (by rw [hn2]; exact hmn) (by rw [hn2]; exact hnv) hcp hc8 hmc Gv v_o v_k v_ks v_ss v_vs v_ed v_na hnaN hn0 hfr _ _ hG hS ls (lv_sub hl [1, 0] rfl)
          · skip
            refine lv_aload_n hx hb dX9_noteNames_34 rfl (lv_at hl 0 rfl) ?_
            refine mm_get (v := .ref ed) hx hb hf_X9 (fun _ h9 => h9) hown hK hG v_o rfl 2 (by decide) (tb_use hT tw_179) (fun _ h9 => h9) rfl dX9_noteNames_35 ?_
            refine lv_aload_n hx hb dX9_noteNames_38 rfl (lv_at hl 0 rfl) ?_
            refine mm_get (v := .ref k) hx hb hf_X9 (fun _ h9 => h9) hown hK hG v_o rfl 0 (by decide) (tb_use hT tw_177) (fun _ h9 => h9) rfl dX9_noteNames_39 ?_
            refine lv_iload_n hx hb dX9_noteNames_42 rfl (lv_at hl 1 rfl) ?_
            refine va_calll (va_runV (As := [.int (nI j9)]) (rest := [.ref ed]) ⟨hx, hb, hml, hown, (fun _ h9 => absurd h9 List.not_mem_nil : ∀ w ∈ ([] : List Cond), w.before _ s = true)⟩ (c_X12_value l D cy A X hst hXT e0 tk hXE Gv k ks ss vs tn K S V f1 f2 f3 j9 v_k v_ks v_ss v_vs hTP (by first | omega | (simp only []; omega))) (tb_cw (C := RX12) 1 hT tw_484 tw_107 tw_481 tw_482 tw_483 rfl rfl hq_X12_value ⟨Nat.le_of_ble_eq_true rfl, Nat.le_of_ble_eq_true rfl⟩) (mk_preC hst hG hK hA hX hS vc_13 v_k) rfl rfl hl.1 rfl (lv_room (Nat.le_of_ble_eq_true rfl)) dX9_noteNames_43 ⟨(by show cl + 0 ≤ 8; omega), (by show 2 * cap - 16 + 0 ≤ 4080; have := Nat.pow_le_pow_right (show 0 < 2 by decide) (show cl ≤ 8 by omega); have h77 : (2 : Nat) ^ 8 = 256 := (by decide); omega)⟩) hS (fun q _ h => h) (fun q h => h) (fun r24 G25 t H locs ht hvm hw hB hz1 hk1 hS => ?_)
            have hG : mm D vwCl A G25 H := by rw [← ht]; exact hB
            clear hB hz1 hk1 hvm ht
            obtain ⟨er24, hw⟩ := hw
            rw [hw] at hG
            by_cases hgr : nof (fun j => decide (nv j = r24)) mm9 = 0 ∧ mm9 = cap
            · skip
              refine va_callv (va_runV (As := [.long r24]) (rest := []) ⟨hx, hb, hml, hown, (fun _ h9 => absurd h9 List.not_mem_nil : ∀ w ∈ ([] : List Cond), w.before _ s = true)⟩ (c_X2_noteG l D cy A X hst hXT e0 tk hXE mi hXL Gv ed lc ly lsv lco lva ljo na wa iu rs mm9 cap nv r24 v_ed v_na (by omega) (by omega) (by omega) hgr.2 hgr.1) (tb_cw (C := RX2) 1 hT tw_976 tw_110 tw_973 tw_974 tw_975 rfl rfl hq_X2_note ⟨Nat.le_of_ble_eq_true rfl, Nat.le_of_ble_eq_true rfl⟩) (mk_preC hst hG hK hA hX hS vc_3 v_ed) rfl rfl hl.1 rfl (lv_room (Nat.le_of_ble_eq_true rfl)) dX9_noteNames_46 ⟨(by show cl + 1 ≤ 8; have := pow_lt8 (cl := cl) (by omega); omega), (by show 2 * cap - 16 + 2 * mm9 ≤ 4080; have := pow_lt8 (cl := cl) (by omega); have := Nat.pow_le_pow_right (show 0 < 2 by decide) (show cl ≤ 7 by omega); have h77 : (2 : Nat) ^ 7 = 128 := (by decide); omega)⟩) hS (fun q _ h => h) (fun q h => h) (fun  G26 t H locs ht hvm hw hB hz1 hk1 hS => ?_)
              have hG : mm D vwCl A G26 H := by rw [← ht]; exact hB
              clear hB hz1 hk1 hvm ht
              obtain ⟨na2, nv2, h_1, h_2, h_3, h_4, h_5, h_f⟩ := hw
              have k27 : G26 o = some (.inr (10, [.ref k, .ref ow, .ref ed, .int (nI q.1), .int q.2])) := h_f _ _ v_o (mm_ne_oo v_o v_ed (by decide))
              have k28 : G26 k = some (.inr (13, [.ref ks, .ref ss, .ref vs, .int (nI tn)])) := h_f _ _ v_k (mm_ne_oo v_k v_ed (by decide))
              have k29 : G26 ks = some (.inl (cy 5, 2001, .inr (.inr (.inr (.inr f1))))) := h_f _ _ v_ks (mm_ne_ao v_ks v_ed)
              have k30 : G26 ss = some (.inl (cy 1, 2001, .inl f2)) := h_f _ _ v_ss (mm_ne_ao v_ss v_ed)
              have k31 : G26 vs = some (.inl (cy 2, 2001, .inr (.inl f3))) := h_f _ _ v_vs (mm_ne_ao v_vs v_ed)
              obtain ⟨x32, ex32⟩ : ∃ y : Int32, y = (nI j9) + 1 := ⟨_, rfl⟩
              refine lv_iinc (v := x32) (lv' := [(1, .int x32), (0, .ref o)]) hx hb dX9_noteNames_49 hl (k := 1) rfl (by rw [ex32]; rfl) (by decide) rfl (fun ls hl => ?_)
              refine lv_goto (tgt := 2) hx hb dX9_noteNames_52 (by decide) ?_
              rw [show x32 = nI (j9 + 1) by rw [ex32]; exact (nI_succ j9).symm] at hl
              have hk0 : K j9 = 0 := tk_ne hE (hTP.2.1 j9).1 (by decide) c_31
              have hcgN : nof (fun j => decide ((ntL K V j9).2 j = V j9)) (ntL K V j9).1 = nof (fun j => decide (nv j = r24)) mm9 := by rw [← hmn]; exact nof_cg (fun i hi => by rw [hnv i hi, er24])
              have hn2 : ntL K V (j9 + 1) = (mm9 + 1, kup (ntL K V j9).2 mm9 (V j9)) := by rw [ntL, if_pos ⟨hk0, by rw [hcgN]; exact hgr.1⟩, ← hmn]
              have hnv2 : ∀ i, i < mm9 + 1 → nv2 i = (ntL K V (j9 + 1)).2 i := by
                intro i hi
                rw [hn2]
                show nv2 i = kup (ntL K V j9).2 mm9 (V j9) i
                unfold kup
                by_cases hz : i = mm9
                · rw [if_pos hz, hz, h_4, er24]
                · rw [if_neg hz, h_3 i (by omega), hnv i (by omega)]
              have hfr2 : ∀ (x : Nat) (e : va_E), G x = some e → x ≠ ed → x ≠ na0 → G26 x = some e := fun x e z0 n1 n2 => h_f x e (hfr x e z0 n1 n2) n1
              have hn02 : ∃ e, G26 na0 = some e := by obtain ⟨e9, h9⟩ := hn0; exact ⟨e9, h_f _ _ h9 hne0⟩
              have hna3 : na2 = na0 ∨ G na2 = none := Or.inr (by
                cases hz : G na2 with
                | none => rfl
                | some e9 =>
                  have z1 : na2 ≠ ed := fun z => by rw [z, v_ed] at h_5; cases h_5
                  have z2 : na2 ≠ na0 := fun z => by obtain ⟨e8, h8⟩ := hn0; rw [z, h8] at h_5; cases h_5
                  have z3 := hfr _ _ hz z1 z2
                  rw [h_5] at z3
                  cases z3)
              have hc8b := pow_lt8 (cl := cl) (by omega)
              refine W.widen (k := cl + 1) (n := 2 * (2 * mm9) - 16) (Nat.le_refl _) (by omega) ?_
              exact ih (j9 + 1) (mm9 + 1) (2 * mm9) (cl + 1) na2 nv2 (by omega) (fun z => absurd (Int32.not_le.mp c_17) z) (by rw [hn2]) hnv2 (by rw [Nat.pow_succ]; omega) (by omega) (by omega) G26 k27 k28 k29 k30 k31 h_1 h_2 hna3 hn02 hfr2 _ _ hG hS ls (lv_sub hl [1, 0] rfl)
            · skip
              refine va_callv (va_runV (As := [.long r24]) (rest := []) ⟨hx, hb, hml, hown, (fun _ h9 => absurd h9 List.not_mem_nil : ∀ w ∈ ([] : List Cond), w.before _ s = true)⟩ (c_X2_noteR l D cy A X hst hXT e0 tk hXE mi hXL Gv ed lc ly lsv lco lva ljo na wa iu rs mm9 cap nv r24 v_ed v_na hmc (by omega) (by omega) (by rcases Nat.lt_or_ge mm9 cap with z | z; exact Or.inr z; exact Or.inl (fun y => hgr ⟨y, by omega⟩))) (tb_cw (C := RX2) 1 hT tw_976 tw_110 tw_973 tw_974 tw_975 rfl rfl hq_X2_note ⟨Nat.le_of_ble_eq_true rfl, Nat.le_of_ble_eq_true rfl⟩) (mk_preC hst hG hK hA hX hS vc_3 v_ed) rfl rfl hl.1 rfl (lv_room (Nat.le_of_ble_eq_true rfl)) dX9_noteNames_46 ⟨(by show cl + 0 ≤ 8; omega), (by show 2 * cap - 16 + 0 ≤ 4080; have := Nat.pow_le_pow_right (show 0 < 2 by decide) (show cl ≤ 8 by omega); have h77 : (2 : Nat) ^ 8 = 256 := (by decide); omega)⟩) hS (fun q _ h => h) (fun q h => h) (fun  G33 t H locs ht hvm hw hB hz1 hk1 hS => ?_)
              have hG : mm D vwCl A G33 H := by rw [← ht]; exact hB
              clear hB hz1 hk1 hvm ht
              rcases hw with ⟨hfd, hw⟩ | ⟨hfd, nv2, h_1, h_2, h_3, h_4, h_f⟩
              · skip
                rw [hw] at hG
                obtain ⟨x34, ex34⟩ : ∃ y : Int32, y = (nI j9) + 1 := ⟨_, rfl⟩
                refine lv_iinc (v := x34) (lv' := [(1, .int x34), (0, .ref o)]) hx hb dX9_noteNames_49 hl (k := 1) rfl (by rw [ex34]; rfl) (by decide) rfl (fun ls hl => ?_)
                refine lv_goto (tgt := 2) hx hb dX9_noteNames_52 (by decide) ?_
                rw [show x34 = nI (j9 + 1) by rw [ex34]; exact (nI_succ j9).symm] at hl
                have hk0 : K j9 = 0 := tk_ne hE (hTP.2.1 j9).1 (by decide) c_31
                have hcgN : nof (fun j => decide ((ntL K V j9).2 j = V j9)) (ntL K V j9).1 = nof (fun j => decide (nv j = r24)) mm9 := by rw [← hmn]; exact nof_cg (fun i hi => by rw [hnv i hi, er24])
                have hn2 : ntL K V (j9 + 1) = ntL K V j9 := by rw [ntL, if_neg (fun z => hfd (by rw [← hcgN]; exact z.2))]
                exact ih (j9 + 1) mm9 cap cl na nv (by omega) (fun z => absurd (Int32.not_le.mp c_17) z) (by rw [hn2]; exact hmn) (by rw [hn2]; exact hnv) hcp hc8 hmc Gv v_o v_k v_ks v_ss v_vs v_ed v_na hnaN hn0 hfr _ _ hG hS ls (lv_sub hl [1, 0] rfl)
              · skip
                have k35 : G33 o = some (.inr (10, [.ref k, .ref ow, .ref ed, .int (nI q.1), .int q.2])) := h_f _ _ v_o (mm_ne_oo v_o v_ed (by decide)) (mm_ne_oa v_o v_na)
                have k36 : G33 k = some (.inr (13, [.ref ks, .ref ss, .ref vs, .int (nI tn)])) := h_f _ _ v_k (mm_ne_oo v_k v_ed (by decide)) (mm_ne_oa v_k v_na)
                have k37 : G33 ks = some (.inl (cy 5, 2001, .inr (.inr (.inr (.inr f1))))) := h_f _ _ v_ks (mm_ne_ao v_ks v_ed) (mm_ne_e v_ks v_na (fun z => by have z2 := (Prod.mk.inj (Prod.mk.inj (Sum.inl.inj z)).2).2; cases z2))
                have k38 : G33 ss = some (.inl (cy 1, 2001, .inl f2)) := h_f _ _ v_ss (mm_ne_ao v_ss v_ed) (mm_ne_e v_ss v_na (fun z => by have z2 := (Prod.mk.inj (Prod.mk.inj (Sum.inl.inj z)).2).2; cases z2))
                have k39 : G33 vs = some (.inl (cy 2, 2001, .inr (.inl f3))) := h_f _ _ v_vs (mm_ne_ao v_vs v_ed) (by first | assumption | omega | exact mm_ne_n v_vs v_na (by omega))
                obtain ⟨x40, ex40⟩ : ∃ y : Int32, y = (nI j9) + 1 := ⟨_, rfl⟩
                refine lv_iinc (v := x40) (lv' := [(1, .int x40), (0, .ref o)]) hx hb dX9_noteNames_49 hl (k := 1) rfl (by rw [ex40]; rfl) (by decide) rfl (fun ls hl => ?_)
                refine lv_goto (tgt := 2) hx hb dX9_noteNames_52 (by decide) ?_
                rw [show x40 = nI (j9 + 1) by rw [ex40]; exact (nI_succ j9).symm] at hl
                have hk0 : K j9 = 0 := tk_ne hE (hTP.2.1 j9).1 (by decide) c_31
                have hcgN : nof (fun j => decide ((ntL K V j9).2 j = V j9)) (ntL K V j9).1 = nof (fun j => decide (nv j = r24)) mm9 := by rw [← hmn]; exact nof_cg (fun i hi => by rw [hnv i hi, er24])
                have hn2 : ntL K V (j9 + 1) = (mm9 + 1, kup (ntL K V j9).2 mm9 (V j9)) := by rw [ntL, if_pos ⟨hk0, by rw [hcgN]; exact hfd⟩, ← hmn]
                have hnv2 : ∀ i, i < mm9 + 1 → nv2 i = (ntL K V (j9 + 1)).2 i := by
                  intro i hi
                  rw [hn2]
                  show nv2 i = kup (ntL K V j9).2 mm9 (V j9) i
                  unfold kup
                  by_cases hz : i = mm9
                  · rw [if_pos hz, hz, h_4, er24]
                  · rw [if_neg hz, h_3 i (by omega), hnv i (by omega)]
                have hfr2 : ∀ (x : Nat) (e : va_E), G x = some e → x ≠ ed → x ≠ na0 → G33 x = some e := fun x e z0 n1 n2 => h_f x e (hfr x e z0 n1 n2) n1 (fun z => by rcases hnaN with z1 | z1; exact n2 (by rw [z, z1]); rw [z, z1] at z0; cases z0)
                have hn02 : ∃ e, G33 na0 = some e := by
                  by_cases z : na0 = na
                  · exact ⟨_, by rw [z]; exact h_2⟩
                  · obtain ⟨e9, h9⟩ := hn0; exact ⟨e9, h_f _ _ h9 hne0 z⟩
                exact ih (j9 + 1) (mm9 + 1) cap cl na nv2 (by omega) (fun z => absurd (Int32.not_le.mp c_17) z) (by rw [hn2]) hnv2 hcp hc8 (by have : ¬ mm9 = cap := fun z => hgr ⟨hfd, z⟩; omega) G33 k35 k36 k37 k38 k39 h_1 h_2 hnaN hn02 hfr2 _ _ hG hS ls (lv_sub hl [1, 0] rfl)
  refine lv_iconst (v := 0) hx hb dX9_noteNames_0 (by decide) ?_
  refine lv_istore_n (lv' := [(1, .int 0), (0, .ref o)]) hx hb dX9_noteNames_1 rfl hl (by decide) rfl (fun ls hl => ?_)
  exact hloop tn 0 0 8 0 na0 nv0 (by omega) (fun _ => rfl) rfl (fun i hi => absurd hi (by omega)) rfl (by omega) (by omega) G h0 q1 q2 q3 q4 hed hna (Or.inl rfl) ⟨_, hna⟩ (fun x e z _ _ => z) _ _ hG hS ls (lv_sub hl [1, 0] rfl)
