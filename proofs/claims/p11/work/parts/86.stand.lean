/-- do the octets from a on stand for the text of token i, from place j on -/
def mtc (f : Nat → Int32) (i a : Nat) : Nat → Nat → Bool
  | 0, _ => true
  | n + 1, j => if f (a + j) = tBy i j then mtc f i a n (j + 1) else false
def stT (f : Nat → Int32) (i a b : Nat) : Bool := decide (b = a + tLn i) && decide (1 ≤ tLn i) && mtc f i a (tLn i) 0
theorem tLn_lt : ∀ i, i < 35 → tLn i < 10 := by decide +kernel
theorem fndF_some {p : Nat → Bool} {i : Nat} : ∀ {n j : Nat}, fndF p n j = some i → j ≤ i ∧ i < j + n ∧ p i = true := by
  intro n
  induction n with
  | zero => intro j h; cases h
  | succ n ih =>
    intro j h
    rw [fndF] at h
    split at h
    · rename_i hp
      injection h with h
      rw [← h]
      exact ⟨Nat.le_refl _, by omega, hp⟩
    · have := ih h
      exact ⟨by omega, by omega, this.2.2⟩
set_option maxHeartbeats 4000000 in
set_option maxRecDepth 100000 in
theorem c_X11_stands (l : Launch) (D : va_G) (cy : Nat → ClassId) (A : Nat → Prop) (X : State → Prop) (hst : mk_St A X) (hXT : ∀ U : State, X U → TB U) (e0 : Nat) (tk : Nat → Nat) (hXE : ∀ U : State, X U → ES e0 tk A U) (mi : Nat) (hXL : ∀ U : State, X U → EL e0 mi A U) (ax adK adV : Nat → Nat) (hXX : ∀ U : State, X U → TX ax adK adV tk A U) (G : Nat → Option va_E) (ti tx a9 b9 : Nat) (ft : Nat → Int32) (hti : ti < 35) (htx : G tx = some (.inl (cy 0, 2000, .inl ft))) (hab : a9 ≤ b9) (hbn : b9 ≤ 2000) : Met l yX11_stands [.code yX11_stands cX11_stands 6 (some .boolean)] ({ frames := 4, cells := 0, slots := 0, locals := 120 }) (mk_Pre D vwCl (tyL cy) A X G [.ref (tk ti), .ref tx, .int (nI a9), .int (nI b9)]) (va_Qi (fun (r : Int32) (G2 : Nat → Option va_E) => r = b2i (stT ft ti a9 b9) ∧ G2 = G) (mk_B D vwCl A) A) 0 0 A := by
  refine Met.ofW (cc := cX11_stands) (maxL := 6) (ret := (some .boolean)) (by decide) rfl ?_
  intro p e s m args below meth c s₁ B hml hv
  obtain ⟨rfl, hG, hK, hA, hX⟩ := hv
  have hx := B.exec
  have hb := B.bytes
  have hr := B.returns
  have hlocks := B.notSynchronized
  have hT := hXT s hX
  have hown : s.vm.findClass RX11 = some m.cls := findClass_of_methodNamed B.named
  have hS : va_S A s.heap s.heap [] := va_S.rf
  have hE := hXE s hX
  have hl := lv_entry ([.ref (tk ti), .ref tx, .int (nI a9), .int (nI b9)]) (n := 6) (Nat.le_of_ble_eq_true rfl)
  rw [lg_entry_eq]
  generalize (lg_sl ([.ref (tk ti), .ref tx, .int (nI a9), .int (nI b9)]) ++ List.replicate (6 - (lg_sl ([.ref (tk ti), .ref tx, .int (nI a9), .int (nI b9)])).length) Slot.unset).toArray = ls at hl ⊢
  have hl : lv_has ls 6 [(0, .ref (tk ti)), (1, .ref tx), (2, .int (nI a9)), (3, .int (nI b9))] := hl
  have hQ := hXX s hX
  have hki := tix_lt ti hti
  have htl := tLn_lt ti hti
  obtain ⟨RF, hR⟩ : ∃ y, mtc ft ti a9 (tLn ti) 0 = y := ⟨_, rfl⟩
  have hloop : ∀ (n : Nat) (j : Nat), (n + j = tLn ti) → (mtc ft ti a9 n j = RF) → (b9 = a9 + tLn ti) → (tLn ti ≠ 0) → ∀ (Gv : Nat → Option va_E), (Gv tx = some (.inl (cy 0, 2000, .inl ft))) → (Gv = G) → ∀ (H : Heap) (locs : List Loc), mm D vwCl A Gv H → va_S A s.heap H locs → ∀ ls : Array Slot, lv_has ls 6 [(0, .ref (tk ti)), (1, .ref tx), (2, .int (nI a9)), (3, .int (nI b9)), (4, .int (nI (tLn ti))), (5, .int (nI j))] → W p l e (headSpec [.code yX11_stands cX11_stands 6 (some .boolean)] ({ frames := 4, cells := 0, slots := 0, locals := 120 })).room s m ([.ref (tk ti), .ref tx, .int (nI a9), .int (nI b9)] : List Value).toArray below meth c H locs 0 0 (MQ below (va_Qi (fun (r : Int32) (G2 : Nat → Option va_E) => r = b2i (stT ft ti a9 b9) ∧ G2 = G) (mk_B D vwCl A) A) ([.ref (tk ti), .ref tx, .int (nI a9), .int (nI b9)] : List Value).toArray s 0 0 A) (F0 m 37 ls []) := by
    intro n
    induction n with
    | zero =>
      intro j hjn hq hb9 h19 Gv v_tx hGv H locs hG hS ls hl
      have hG9 := hG
      have hS9 := hS
      have hl9 := hl
      subst hGv
      have hG := hG9
      have hS := hS9
      have hl := hl9
      refine lv_iload hx hb dX11_stands_37 (lv_at hl 5 rfl) ?_
      refine lv_iload hx hb dX11_stands_39 (lv_at hl 4 rfl) ?_
      refine lv_icmp_ge (tgt := 70) hx hb dX11_stands_41 (by decide) (fun c_41 => ?_) (fun c_41 => ?_)
      · skip
        refine lv_iconst (v := 1) hx hb dX11_stands_70 (by decide) ?_
        exact W.zret (v := 1) hx hb hr rfl (fun t ht hW => ⟨⟨_, _, rfl, ⟨(by rw [stT, hR, ← hq, decide_eq_true hb9, decide_eq_true (show 1 ≤ tLn ti by omega)]; rfl), rfl⟩, mk_end hG ht⟩, hS.F ht⟩) hS.2.2 dX11_stands_71
      · skip
        exact absurd (by rw [show j = tLn ti by omega]; exact Int32.le_refl _) c_41
    | succ n ih =>
      intro j hjn hq hb9 h19 Gv v_tx hGv H locs hG hS ls hl
      have hG9 := hG
      have hS9 := hS
      have hl9 := hl
      subst hGv
      have hG := hG9
      have hS := hS9
      have hl := hl9
      refine lv_iload hx hb dX11_stands_37 (lv_at hl 5 rfl) ?_
      refine lv_iload hx hb dX11_stands_39 (lv_at hl 4 rfl) ?_
      refine lv_icmp_ge (tgt := 70) hx hb dX11_stands_41 (by decide) (fun c_41 => ?_) (fun c_41 => ?_)
      · skip
        exact absurd c_41 (nI_ge (by omega) (by omega))
      · skip
        refine lv_aload_n hx hb dX11_stands_44 rfl (lv_at hl 1 rfl) ?_
        refine lv_iload_n hx hb dX11_stands_45 rfl (lv_at hl 2 rfl) ?_
        refine lv_iload hx hb dX11_stands_46 (lv_at hl 5 rfl) ?_
        refine lv_iadd hx hb dX11_stands_48 ?_
        refine mm_bald hx hb hK hG 0 v_tx rfl (by rw [nI_add a9 j]; exact nI_in (c := a9 + j) (N := 2000) (by omega) (by decide)) dX11_stands_49 ?_
        refine lv_topi (fun x1 ex1 => ?_)
        refine lv_aload_n hx hb dX11_stands_50 rfl (lv_at hl 0 rfl) ?_
        refine vk_getf (v := .ref (adK (tix ti))) hx hb (hQ.2.1 ti hti) hS hown (tb_use hT tw_1921) (fun _ h9 => h9) dX11_stands_51 ?_
        refine lv_iload hx hb dX11_stands_54 (lv_at hl 5 rfl) ?_
        refine va_calli (va_runV (As := [.int (nI j)]) (rest := [.int x1]) ⟨hx, hb, hml, hown, (fun _ h9 => absurd h9 List.not_mem_nil : ∀ w ∈ ([] : List Cond), w.before _ s = true)⟩ (c_J0_charAt l D cy A X hst hXT e0 tk hXE mi hXL ax adK adV hXX Gv (tix ti) j hki (show j < tLn ti by omega)) (tb_cw (C := RJ0) 1 hT tw_387 tw_117 tw_384 tw_385 tw_386 rfl rfl hq_J0_charAt_5068e ⟨Nat.le_of_ble_eq_true rfl, Nat.le_of_ble_eq_true rfl⟩) (mk_preK hst hG hK hA hX hS hQ hki) rfl rfl hl.1 rfl (lv_room (Nat.le_of_ble_eq_true rfl)) dX11_stands_56 ⟨Nat.le_of_ble_eq_true rfl, Nat.le_of_ble_eq_true rfl⟩) hS (fun q _ h => h) (fun q h => h) (fun r2 G3 t H locs ht hvm hw hB hz1 hk1 hS => ?_)
        have hG : mm D vwCl A G3 H := by rw [← ht]; exact hB
        clear hB hz1 hk1 hvm ht
        obtain ⟨rfl, hw⟩ := hw
        rw [hw] at hG
        refine lv_icmp_eq (tgt := 64) hx hb dX11_stands_59 (by decide) (fun c_59 => ?_) (fun c_59 => ?_)
        · skip
          obtain ⟨x4, ex4⟩ : ∃ y : Int32, y = (nI j) + 1 := ⟨_, rfl⟩
          refine lv_iinc (v := x4) (lv' := [(5, .int x4), (0, .ref (tk ti)), (1, .ref tx), (2, .int (nI a9)), (3, .int (nI b9)), (4, .int (nI (tLn ti)))]) hx hb dX11_stands_64 hl (k := 5) rfl (by rw [ex4]; rfl) (by decide) rfl (fun ls hl => ?_)
          refine lv_goto (tgt := 37) hx hb dX11_stands_67 (by decide) ?_
          rw [show x4 = nI (j + 1) by rw [ex4]; exact (nI_succ j).symm] at hl
          have hq2 : mtc ft ti a9 n (j + 1) = RF := by rw [← hq, mtc, if_pos (by rw [ex1, nI_add a9 j, nI_clamp (n := a9 + j) (by omega)] at c_59; exact c_59)]
          exact ih (j + 1) (by omega) hq2 hb9 h19 Gv v_tx rfl _ _ hG hS ls (lv_sub hl [1, 2, 3, 4, 5, 0] rfl)
        · skip
          refine lv_iconst (v := 0) hx hb dX11_stands_62 (by decide) ?_
          have hm9 : mtc ft ti a9 (n + 1) j = false := by rw [mtc, if_neg (fun z => c_59 (by rw [ex1, nI_add a9 j, nI_clamp (n := a9 + j) (by omega)]; exact z))]
          exact W.zret (v := 0) hx hb hr rfl (fun t ht hW => ⟨⟨_, _, rfl, ⟨(by rw [stT, hR, ← hq, hm9, Bool.and_false]; rfl), rfl⟩, mk_end hG ht⟩, hS.F ht⟩) hS.2.2 dX11_stands_63
  refine lv_aload_n hx hb dX11_stands_0 rfl (lv_at hl 0 rfl) ?_
  refine vk_getf (v := .ref (adK (tix ti))) hx hb (hQ.2.1 ti hti) hS hown (tb_use hT tw_1921) (fun _ h9 => h9) dX11_stands_1 ?_
  refine va_calli (va_runV (As := []) (rest := []) ⟨hx, hb, hml, hown, (fun _ h9 => absurd h9 List.not_mem_nil : ∀ w ∈ ([] : List Cond), w.before _ s = true)⟩ (c_J0_length l D cy A X hst hXT e0 tk hXE mi hXL ax adK adV hXX G (tix ti) hki) (tb_cw (C := RJ0) 0 hT tw_377 tw_117 tw_374 tw_375 tw_376 rfl rfl hq_J0_length_8abf5 ⟨Nat.le_of_ble_eq_true rfl, Nat.le_of_ble_eq_true rfl⟩) (mk_preK hst hG hK hA hX hS hQ hki) rfl rfl hl.1 rfl (lv_room (Nat.le_of_ble_eq_true rfl)) dX11_stands_4 ⟨Nat.le_of_ble_eq_true rfl, Nat.le_of_ble_eq_true rfl⟩) hS (fun q _ h => h) (fun q h => h) (fun r5 G6 t H locs ht hvm hw hB hz1 hk1 hS => ?_)
  have hG : mm D vwCl A G6 H := by rw [← ht]; exact hB
  clear hB hz1 hk1 hvm ht
  obtain ⟨rfl, hw⟩ := hw
  rw [hw] at hG
  refine lv_istore (lv' := [(4, .int (nI (tLn ti))), (0, .ref (tk ti)), (1, .ref tx), (2, .int (nI a9)), (3, .int (nI b9))]) hx hb dX11_stands_7 hl (by decide) rfl (fun ls hl => ?_)
  refine lv_iload_n hx hb dX11_stands_9 rfl (lv_at hl 4 rfl) ?_
  refine lv_iload_n hx hb dX11_stands_10 rfl (lv_at hl 3 rfl) ?_
  refine lv_isub hx hb dX11_stands_11 ?_
  refine lv_iload hx hb dX11_stands_12 (lv_at hl 0 rfl) ?_
  refine lv_icmp_ne (tgt := 32) hx hb dX11_stands_14 (by decide) (fun c_14 => ?_) (fun c_14 => ?_)
  · skip
    refine lv_iconst (v := 0) hx hb dX11_stands_32 (by decide) ?_
    exact W.zret (v := 0) hx hb hr rfl (fun t ht hW => ⟨⟨_, _, rfl, ⟨(by rw [stT, decide_eq_false (fun z => c_14 (by rw [z, g_subn])), Bool.false_and, Bool.false_and]; rfl), rfl⟩, mk_end hG ht⟩, hS.F ht⟩) hS.2.2 dX11_stands_33
  · skip
    refine lv_iload hx hb dX11_stands_17 (lv_at hl 0 rfl) ?_
    refine lv_if_eq (tgt := 32) hx hb dX11_stands_19 (by decide) (fun c_19 => ?_) (fun c_19 => ?_)
    · skip
      refine lv_iconst (v := 0) hx hb dX11_stands_32 (by decide) ?_
      exact W.zret (v := 0) hx hb hr rfl (fun t ht hW => ⟨⟨_, _, rfl, ⟨(by rw [stT, decide_eq_false (show ¬ 1 ≤ tLn ti from fun z => absurd (nI_inj (b := 0) (by omega) (by decide) c_19) (by omega)), Bool.and_false, Bool.false_and]; rfl), rfl⟩, mk_end hG ht⟩, hS.F ht⟩) hS.2.2 dX11_stands_33
    · skip
      refine lv_iload_n hx hb dX11_stands_22 rfl (lv_at hl 3 rfl) ?_
      refine lv_if_lt (tgt := 32) hx hb dX11_stands_23 (by decide) (fun c_23 => ?_) (fun c_23 => ?_)
      · skip
        exact absurd c_23 (nI_pos (by omega))
      · skip
        refine lv_iload_n hx hb dX11_stands_26 rfl (lv_at hl 4 rfl) ?_
        refine lv_aload_n hx hb dX11_stands_27 rfl (lv_at hl 2 rfl) ?_
        refine mm_alen (v := 2000) hx hb hK hG 0 htx rfl rfl dX11_stands_28 ?_
        refine lv_icmp_le (tgt := 34) hx hb dX11_stands_29 (by decide) (fun c_29 => ?_) (fun c_29 => ?_)
        · skip
          refine lv_iconst (v := 0) hx hb dX11_stands_34 (by decide) ?_
          refine lv_istore (lv' := [(5, .int 0), (4, .int (nI (tLn ti))), (0, .ref (tk ti)), (1, .ref tx), (2, .int (nI a9)), (3, .int (nI b9))]) hx hb dX11_stands_35 hl (by decide) rfl (fun ls hl => ?_)
          have hb9 : b9 = a9 + tLn ti := by
            have z := c_14
            rw [show nI b9 - nI a9 = nI (b9 - a9) by rw [show b9 = a9 + (b9 - a9) by omega, g_subn, show a9 + (b9 - a9) - a9 = b9 - a9 by omega]] at z
            have z2 := nI_inj (by omega) (by omega) z
            omega
          have h19 : tLn ti ≠ 0 := fun z => c_19 (by rw [z]; rfl)
          exact hloop (tLn ti) 0 (by omega) hR hb9 h19 G htx rfl _ _ hG hS ls (lv_sub hl [2, 3, 4, 5, 1, 0] rfl)
        · skip
          exact absurd (nI_le (by omega) (by decide)) c_29

set_option maxHeartbeats 4000000 in
set_option maxRecDepth 100000 in
theorem c_X11_standing (l : Launch) (D : va_G) (cy : Nat → ClassId) (A : Nat → Prop) (X : State → Prop) (hst : mk_St A X) (hXT : ∀ U : State, X U → TB U) (e0 : Nat) (tk : Nat → Nat) (hXE : ∀ U : State, X U → ES e0 tk A U) (mi : Nat) (hXL : ∀ U : State, X U → EL e0 mi A U) (ax adK adV : Nat → Nat) (hXX : ∀ U : State, X U → TX ax adK adV tk A U) (G : Nat → Option va_E) (tx a9 b9 : Nat) (ft : Nat → Int32) (htx : G tx = some (.inl (cy 0, 2000, .inl ft))) (hab : a9 ≤ b9) (hbn : b9 ≤ 2000) : Met l yX11_standing [.code yX11_standing cX11_standing 4 (some (.object "DescribeText$Token"))] ({ frames := 5, cells := 0, slots := 0, locals := 150 }) (mk_Pre D vwCl (tyL cy) A X G [.ref tx, .int (nI a9), .int (nI b9)]) (va_Qq (fun (r : Option Nat) (G2 : Nat → Option va_E) => r = (fndF (fun i => stT ft i a9 b9) 35 0).map tk ∧ G2 = G) (mk_B D vwCl A) A) 0 0 A := by
  refine Met.ofW (cc := cX11_standing) (maxL := 4) (ret := (some (.object "DescribeText$Token"))) (by decide) rfl ?_
  intro p e s m args below meth c s₁ B hml hv
  obtain ⟨rfl, hG, hK, hA, hX⟩ := hv
  have hx := B.exec
  have hb := B.bytes
  have hr := B.returns
  have hlocks := B.notSynchronized
  have hT := hXT s hX
  have hown : s.vm.findClass RX11 = some m.cls := findClass_of_methodNamed B.named
  have hS : va_S A s.heap s.heap [] := va_S.rf
  have hE := hXE s hX
  have hl := lv_entry ([.ref tx, .int (nI a9), .int (nI b9)]) (n := 4) (Nat.le_of_ble_eq_true rfl)
  rw [lg_entry_eq]
  generalize (lg_sl ([.ref tx, .int (nI a9), .int (nI b9)]) ++ List.replicate (4 - (lg_sl ([.ref tx, .int (nI a9), .int (nI b9)])).length) Slot.unset).toArray = ls at hl ⊢
  have hl : lv_has ls 4 [(0, .ref tx), (1, .int (nI a9)), (2, .int (nI b9))] := hl
  have hQ := hXX s hX
  obtain ⟨RF, hR⟩ : ∃ y, fndF (fun i => stT ft i a9 b9) 35 0 = y := ⟨_, rfl⟩
  have hloop : ∀ (n : Nat) (j : Nat), (n + j = 35) → (fndF (fun i => stT ft i a9 b9) n j = RF) → ∀ (Gv : Nat → Option va_E), (Gv tx = some (.inl (cy 0, 2000, .inl ft))) → (Gv = G) → ∀ (H : Heap) (locs : List Loc), mm D vwCl A Gv H → va_S A s.heap H locs → ∀ ls : Array Slot, lv_has ls 4 [(0, .ref tx), (1, .int (nI a9)), (2, .int (nI b9)), (3, .int (nI j))] → W p l e (headSpec [.code yX11_standing cX11_standing 4 (some (.object "DescribeText$Token"))] ({ frames := 5, cells := 0, slots := 0, locals := 150 })).room s m ([.ref tx, .int (nI a9), .int (nI b9)] : List Value).toArray below meth c H locs 0 0 (MQ below (va_Qq (fun (r : Option Nat) (G2 : Nat → Option va_E) => r = (fndF (fun i => stT ft i a9 b9) 35 0).map tk ∧ G2 = G) (mk_B D vwCl A) A) ([.ref tx, .int (nI a9), .int (nI b9)] : List Value).toArray s 0 0 A) (F0 m 2 ls []) := by
    intro n
    induction n with
    | zero =>
      intro j hjn hq Gv v_tx hGv H locs hG hS ls hl
      have hG9 := hG
      have hS9 := hS
      have hl9 := hl
      subst hGv
      have hG := hG9
      have hS := hS9
      have hl := hl9
      refine lv_iload_n hx hb dX11_standing_2 rfl (lv_at hl 3 rfl) ?_
      refine va_gets (v := .ref (ax 0)) hx hb hQ.2.2.1 hS hown (tb_use hT tw_367) (fun _ h9 => h9) dX11_standing_3 ?_
      refine va_tlen (v := 35) hx hb hQ.2.2.2.1 hS rfl dX11_standing_6 ?_
      refine lv_icmp_ge (tgt := 36) hx hb dX11_standing_7 (by decide) (fun c_7 => ?_) (fun c_7 => ?_)
      · skip
        refine lv_null hx hb dX11_standing_36 ?_
        exact W.aret (v := .null) hx hb hr (Or.inl ⟨_, rfl⟩) (Or.inl rfl) (fun t ht hW => ⟨⟨(none : Option Nat), _, rfl, ⟨(by rw [hR, ← hq]; rfl), rfl⟩, mk_end hG ht⟩, hS.F ht⟩) hS.2.2 dX11_standing_37
      · skip
        exact absurd (by rw [show j = 35 by omega]; exact Int32.le_refl _) c_7
    | succ n ih =>
      intro j hjn hq Gv v_tx hGv H locs hG hS ls hl
      have hG9 := hG
      have hS9 := hS
      have hl9 := hl
      subst hGv
      have hG := hG9
      have hS := hS9
      have hl := hl9
      have hti : j < 35 := by omega
      refine lv_iload_n hx hb dX11_standing_2 rfl (lv_at hl 3 rfl) ?_
      refine va_gets (v := .ref (ax 0)) hx hb hQ.2.2.1 hS hown (tb_use hT tw_367) (fun _ h9 => h9) dX11_standing_3 ?_
      refine va_tlen (v := 35) hx hb hQ.2.2.2.1 hS rfl dX11_standing_6 ?_
      refine lv_icmp_ge (tgt := 36) hx hb dX11_standing_7 (by decide) (fun c_7 => ?_) (fun c_7 => ?_)
      · skip
        exact absurd c_7 (nI_ge (b := 35) (by omega) (by decide))
      · skip
        refine va_gets (v := .ref (ax 0)) hx hb hQ.2.2.1 hS hown (tb_use hT tw_367) (fun _ h9 => h9) dX11_standing_10 ?_
        refine lv_iload_n hx hb dX11_standing_13 rfl (lv_at hl 3 rfl) ?_
        refine vb_tq (v := .ref (tk j)) hx hb hQ.2.2.2.1 hS (nI_in (c := j) (N := 35) (by omega) (by decide)) (by rw [nI_clamp (n := j) (by omega)]) dX11_standing_14 ?_
        refine lv_aload_n hx hb dX11_standing_15 rfl (lv_at hl 0 rfl) ?_
        refine lv_iload_n hx hb dX11_standing_16 rfl (lv_at hl 1 rfl) ?_
        refine lv_iload_n hx hb dX11_standing_17 rfl (lv_at hl 2 rfl) ?_
        refine va_calli (va_runV (As := [.ref tx, .int (nI a9), .int (nI b9)]) (rest := []) ⟨hx, hb, hml, hown, (fun _ h9 => absurd h9 List.not_mem_nil : ∀ w ∈ ([] : List Cond), w.before _ s = true)⟩ (c_X11_stands l D cy A X hst hXT e0 tk hXE mi hXL ax adK adV hXX Gv j tx a9 b9 ft hti v_tx hab hbn) (tb_cw (C := RX11) 3 hT tw_373 tw_116 tw_369 tw_371 tw_4 rfl rfl hq_X11_stands ⟨Nat.le_of_ble_eq_true rfl, Nat.le_of_ble_eq_true rfl⟩) (mk_preT hst hG hK hA hX hS hE hti) rfl rfl hl.1 rfl (lv_room (Nat.le_of_ble_eq_true rfl)) dX11_standing_18 ⟨Nat.le_of_ble_eq_true rfl, Nat.le_of_ble_eq_true rfl⟩) hS (fun q _ h => h) (fun q h => h) (fun r1 G2 t H locs ht hvm hw hB hz1 hk1 hS => ?_)
        have hG : mm D vwCl A G2 H := by rw [← ht]; exact hB
        clear hB hz1 hk1 hvm ht
        obtain ⟨er1, hw⟩ := hw
        rw [hw] at hG
        refine lv_if_eq (tgt := 30) hx hb dX11_standing_21 (by decide) (fun c_21 => ?_) (fun c_21 => ?_)
        · skip
          obtain ⟨x3, ex3⟩ : ∃ y : Int32, y = (nI j) + 1 := ⟨_, rfl⟩
          refine lv_iinc (v := x3) (lv' := [(3, .int x3), (0, .ref tx), (1, .int (nI a9)), (2, .int (nI b9))]) hx hb dX11_standing_30 hl (k := 3) rfl (by rw [ex3]; rfl) (by decide) rfl (fun ls hl => ?_)
          refine lv_goto (tgt := 2) hx hb dX11_standing_33 (by decide) ?_
          rw [show x3 = nI (j + 1) by rw [ex3]; exact (nI_succ j).symm] at hl
          have hp9 : stT ft j a9 b9 = false := by rw [er1] at c_21; revert c_21; cases stT ft j a9 b9 <;> simp [b2i]
          have hq2 : fndF (fun i => stT ft i a9 b9) n (j + 1) = RF := by rw [← hq, fndF, if_neg (by rw [hp9]; decide)]
          exact ih (j + 1) (by omega) hq2 Gv v_tx rfl _ _ hG hS ls (lv_sub hl [1, 2, 3, 0] rfl)
        · skip
          refine va_gets (v := .ref (ax 0)) hx hb hQ.2.2.1 hS hown (tb_use hT tw_367) (fun _ h9 => h9) dX11_standing_24 ?_
          refine lv_iload_n hx hb dX11_standing_27 rfl (lv_at hl 3 rfl) ?_
          refine vb_tq (v := .ref (tk j)) hx hb hQ.2.2.2.1 hS (nI_in (c := j) (N := 35) (by omega) (by decide)) (by rw [nI_clamp (n := j) (by omega)]) dX11_standing_28 ?_
          have hp9 : stT ft j a9 b9 = true := by rw [er1] at c_21; revert c_21; cases stT ft j a9 b9 <;> simp [b2i]
          exact W.aret (v := .ref (tk j)) hx hb hr (Or.inl ⟨_, rfl⟩) (Or.inr ⟨_, rfl⟩) (fun t ht hW => ⟨⟨(some (tk j)), _, rfl, ⟨(by rw [hR, ← hq, fndF, if_pos hp9]; rfl), rfl⟩, mk_end hG ht⟩, hS.F ht⟩) hS.2.2 dX11_standing_29
  refine lv_iconst (v := 0) hx hb dX11_standing_0 (by decide) ?_
  refine lv_istore_n (lv' := [(3, .int 0), (0, .ref tx), (1, .int (nI a9)), (2, .int (nI b9))]) hx hb dX11_standing_1 rfl hl (by decide) rfl (fun ls hl => ?_)
  exact hloop 35 0 (by omega) hR G htx rfl _ _ hG hS ls (lv_sub hl [1, 2, 3, 0] rfl)
