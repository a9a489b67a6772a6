/-- tokens cut: place, how many, kinds, starts, values -/
abbrev CuS : Type := Nat × Nat × (Nat → Nat) × (Nat → Int32) × (Nat → Int64)
def cutL (f : Nat → Int32) (en : Nat) : Nat → CuS → CuS
  | 0, x => x
  | n + 1, x => if x.1 < en then (if isBl (f x.1) then cutL f en n (x.1 + 1, x.2) else cutL f en n ((c1R f x.1 en).2, x.2.1 + 1, kup x.2.2.1 x.2.1 (c1R f x.1 en).1.1, kup x.2.2.2.1 x.2.1 (c1R f x.1 en).1.2.1, kup x.2.2.2.2 x.2.1 (c1R f x.1 en).1.2.2)) else x
def CuS.nil : CuS := (0, 0, fun _ => 3, fun _ => 0, fun _ => 0)
def cutT (f : Nat → Int32) (en : Nat) : CuS := cutL f en en CuS.nil
/-- how many tokens, END among them; kinds, starts, values -/
def tkN (f : Nat → Int32) (en : Nat) : Nat := (cutT f en).2.1 + 1
def tkK (f : Nat → Int32) (en : Nat) : Nat → Nat := kup (cutT f en).2.2.1 (cutT f en).2.1 2
def tkS (f : Nat → Int32) (en : Nat) : Nat → Int32 := kup (cutT f en).2.2.2.1 (cutT f en).2.1 (nI en)
def tkV (f : Nat → Int32) (en : Nat) : Nat → Int64 := kup (cutT f en).2.2.2.2 (cutT f en).2.1 0
theorem TKB.cg {cy : Nat → ClassId} {tk : Nat → Nat} {G : Nat → Option va_E} {k ks ss vs m : Nat} {K K2 : Nat → Nat} {S S2 : Nat → Int32} {V V2 : Nat → Int64} (h : TKB cy tk G k ks ss vs m K S V) (m2 : Nat) (hm : m2 ≤ m) (h1 : ∀ j, j < m2 → K2 j = K j ∧ S2 j = S j ∧ V2 j = V j) {G2 : Nat → Option va_E} (h2 : G2 k = some (.inr (13, [.ref ks, .ref ss, .ref vs, .int (nI m2)]))) (h3 : G2 = mm_set G k (.inr (13, [.ref ks, .ref ss, .ref vs, .int (nI m2)]))) : TKB cy tk G2 k ks ss vs m2 K2 S2 V2 := by
  obtain ⟨f1, f2, f3, a, b, c, d, e⟩ := h
  refine ⟨f1, f2, f3, h2, ?_, ?_, ?_, fun j hj => ?_⟩
  · rw [h3]; exact mm_set_of b (mm_ne_ao b a)
  · rw [h3]; exact mm_set_of c (mm_ne_ao c a)
  · rw [h3]; exact mm_set_of d (mm_ne_ao d a)
  · obtain ⟨q1, q2, q3⟩ := h1 j hj
    rw [q1, q2, q3]
    exact e j (by omega)
set_option maxHeartbeats 4000000 in
set_option maxRecDepth 100000 in
theorem c_X12_cut (l : Launch) (D : va_G) (cy : Nat → ClassId) (A : Nat → Prop) (X : State → Prop) (hst : mk_St A X) (hXT : ∀ U : State, X U → TB U) (e0 : Nat) (tk : Nat → Nat) (hXE : ∀ U : State, X U → ES e0 tk A U) (mi : Nat) (hXL : ∀ U : State, X U → EL e0 mi A U) (ax adK adV : Nat → Nat) (hXX : ∀ U : State, X U → TX ax adK adV tk A U) (G : Nat → Option va_E) (k ks ss vs m0 : Nat) (K0 : Nat → Nat) (S0 : Nat → Int32) (V0 : Nat → Int64) (tx tn9 : Nat) (ft : Nat → Int32) (hTB : TKB cy tk G k ks ss vs m0 K0 S0 V0) (htx : G tx = some (.inl (cy 0, 2000, .inl ft))) (htn : tn9 ≤ 2000) (hxn : tx ≠ k ∧ tx ≠ ks ∧ tx ≠ ss ∧ tx ≠ vs) : Met l yX12_cut [.code yX12_cut cX12_cut 6 none] ({ frames := 8, cells := 0, slots := 0, locals := 240 }) (mk_Pre D vwCl (tyL cy) A X G [.ref k, .ref tx, .int (nI tn9)]) (va_Qv (fun (G2 : Nat → Option va_E) => TKB cy tk G2 k ks ss vs (tkN ft tn9) (tkK ft tn9) (tkS ft tn9) (tkV ft tn9) ∧ ((∀ j, tkK ft tn9 j < 35) ∧ tkN ft tn9 ≤ 2001) ∧ (∀ j, tkN ft tn9 ≤ j → tkK ft tn9 j = 3 ∧ tkS ft tn9 j = 0 ∧ tkV ft tn9 j = 0) ∧ ∀ (x : Nat) (e : va_E), G x = some e → x ≠ k → x ≠ ks → x ≠ ss → x ≠ vs → G2 x = some e) (mk_B D vwCl A) A) 0 0 A := by
  refine Met.ofW (cc := cX12_cut) (maxL := 6) (ret := none) (by decide) rfl ?_
  intro p e s m args below meth c s₁ B hml hv
  obtain ⟨rfl, hG, hK, hA, hX⟩ := hv
  have hx := B.exec
  have hb := B.bytes
  have hr := B.returns
  have hlocks := B.notSynchronized
  have hT := hXT s hX
  have hown : s.vm.findClass RX12 = some m.cls := findClass_of_methodNamed B.named
  have hf_X12 : ∀ w ∈ u_ws RX12 TX12 4, w.before ([.ref k, .ref tx, .int (nI tn9)] : List Value).toArray s = true := tb_list hT fX12
  have hS : va_S A s.heap s.heap [] := va_S.rf
  have hE := hXE s hX
  have hl := lv_entry ([.ref k, .ref tx, .int (nI tn9)]) (n := 6) (Nat.le_of_ble_eq_true rfl)
  rw [lg_entry_eq]
  generalize (lg_sl ([.ref k, .ref tx, .int (nI tn9)]) ++ List.replicate (6 - (lg_sl ([.ref k, .ref tx, .int (nI tn9)])).length) Slot.unset).toArray = ls at hl ⊢
  have hl : lv_has ls 6 [(0, .ref k), (1, .ref tx), (2, .int (nI tn9))] := hl
  have hQ := hXX s hX
  obtain ⟨fa1, fa2, fa3, hk, -⟩ := id hTB
  obtain ⟨hx1, hx2, hx3, hx4⟩ := hxn
  obtain ⟨RF, hR⟩ : ∃ y, cutL ft tn9 tn9 (0, 0, fun _ => 3, fun _ => 0, fun _ => 0) = y := ⟨_, rfl⟩
  have hloop : ∀ (n : Nat) (j9 a9 m9 : Nat) (K : Nat → Nat) (S : Nat → Int32) (V : Nat → Int64), (n + j9 = tn9) → (m9 ≤ j9) → (a9 ≤ tn9) → (cutL ft tn9 n (a9, m9, K, S, V) = RF) → ((∀ j, K j < 35) ∧ ∀ j, m9 ≤ j → K j = 3 ∧ S j = 0 ∧ V j = 0) → ∀ (Gv : Nat → Option va_E), (Gv k = some (.inr (13, [.ref ks, .ref ss, .ref vs, .int (nI m9)]))) → (Gv tx = some (.inl (cy 0, 2000, .inl ft))) → (TKB cy tk Gv k ks ss vs m9 K S V) → (∀ (x : Nat) (e : va_E), G x = some e → x ≠ k → x ≠ ks → x ≠ ss → x ≠ vs → Gv x = some e) → ∀ (H : Heap) (locs : List Loc), mm D vwCl A Gv H → va_S A s.heap H locs → ∀ ls : Array Slot, lv_has ls 6 [(0, .ref k), (1, .ref tx), (3, .int (nI tn9)), (4, .int (nI a9)), (5, .int (nI j9))] → W p l e (headSpec [.code yX12_cut cX12_cut 6 none] ({ frames := 8, cells := 0, slots := 0, locals := 240 })).room s m ([.ref k, .ref tx, .int (nI tn9)] : List Value).toArray below meth c H locs 0 0 (MQ below (va_Qv (fun (G2 : Nat → Option va_E) => TKB cy tk G2 k ks ss vs (tkN ft tn9) (tkK ft tn9) (tkS ft tn9) (tkV ft tn9) ∧ ((∀ j, tkK ft tn9 j < 35) ∧ tkN ft tn9 ≤ 2001) ∧ (∀ j, tkN ft tn9 ≤ j → tkK ft tn9 j = 3 ∧ tkS ft tn9 j = 0 ∧ tkV ft tn9 j = 0) ∧ ∀ (x : Nat) (e : va_E), G x = some e → x ≠ k → x ≠ ks → x ≠ ss → x ≠ vs → G2 x = some e) (mk_B D vwCl A) A) ([.ref k, .ref tx, .int (nI tn9)] : List Value).toArray s 0 0 A) (F0 m 18 ls []) := by
    intro n
    induction n with
    | zero =>
      intro j9 a9 m9 K S V hjn hmj ha9 hq hK9 Gv v_k v_tx hTB hfr H locs hG hS ls hl
      refine lv_iload hx hb dX12_cut_18 (lv_at hl 4 rfl) ?_
      refine lv_iload_n hx hb dX12_cut_20 rfl (lv_at hl 2 rfl) ?_
      refine lv_icmp_ge (tgt := 63) hx hb dX12_cut_21 (by decide) (fun c_21 => ?_) (fun c_21 => ?_)
      · skip
        refine lv_aload_n hx hb dX12_cut_63 rfl (lv_at hl 0 rfl) ?_
        refine va_gets (v := .ref (tk 2)) hx hb (show va_Z "DescribeText$Token" "END" "LDescribeText$Token;" (.ref (tk 2)) A s s.heap from (hE.2.1 2 (by decide)).1) hS hown (tb_use hT tw_431) (fun _ h9 => h9) dX12_cut_64 ?_
        refine lv_iload_n hx hb dX12_cut_67 rfl (lv_at hl 2 rfl) ?_
        refine lv_lconst (v := 0) hx hb dX12_cut_68 (by decide) ?_
        refine va_callv (va_runV (As := [.ref (tk 2), .int (nI tn9), .long 0]) (rest := []) ⟨hx, hb, hml, hown, (fun _ h9 => absurd h9 List.not_mem_nil : ∀ w ∈ ([] : List Cond), w.before _ s = true)⟩ (c_TK_add l D cy A X hst hXT e0 tk hXE Gv k ks ss vs m9 K S V 2 (nI tn9) 0 hTB (by omega) (by decide)) (tb_cw (C := RX12) 3 hT tw_362 tw_107 tw_359 tw_361 tw_3 rfl rfl hq_X12_add ⟨Nat.le_of_ble_eq_true rfl, Nat.le_of_ble_eq_true rfl⟩) (mk_preC hst hG hK hA hX hS vc_13 v_k) rfl rfl hl.1 rfl (lv_room (Nat.le_of_ble_eq_true rfl)) dX12_cut_69 ⟨Nat.le_of_ble_eq_true rfl, Nat.le_of_ble_eq_true rfl⟩) hS (fun q _ h => h) (fun q h => h) (fun  G21 t H locs ht hvm hw hB hz1 hk1 hS => ?_)
        have hG : mm D vwCl A G21 H := by rw [← ht]; exact hB
        clear hB hz1 hk1 hvm ht
        obtain ⟨hT2, hf2⟩ := hw
        have hz : cutT ft tn9 = (a9, m9, K, S, V) := by
          rw [cutT, CuS.nil, hR, ← hq]
          first | rfl | (rw [show n = 0 by omega]; rfl)
        exact W.vret hx hb hr (fun t ht hW => ⟨⟨_, rfl, (by unfold tkN tkK tkS tkV; rw [hz]; exact ⟨hT2, ⟨fun j => by unfold kup; split; exact (by decide : 2 < 35); exact hK9.1 j, by show m9 + 1 ≤ 2001; omega⟩, fun j hj => by have z := hK9.2 j (by have : m9 + 1 ≤ j := hj; omega); have hj2 : m9 + 1 ≤ j := hj; simp only [kup]; rw [if_neg (by omega), if_neg (by omega), if_neg (by omega)]; exact z, fun x e h0 n1 n2 n3 n4 => hf2 x e (hfr x e h0 n1 n2 n3 n4) n1 n2 n3 n4⟩), mk_end hG ht⟩, hS.F ht⟩) hS.2.2 dX12_cut_72
      · skip
        exact absurd (by rw [show j9 = tn9 by omega]; exact Int32.le_refl _) c_21
    | succ n ih =>
      intro j9 a9 m9 K S V hjn hmj ha9 hq hK9 Gv v_k v_tx hTB hfr H locs hG hS ls hl
      refine lv_iload hx hb dX12_cut_18 (lv_at hl 4 rfl) ?_
      refine lv_iload_n hx hb dX12_cut_20 rfl (lv_at hl 2 rfl) ?_
      refine lv_icmp_ge (tgt := 63) hx hb dX12_cut_21 (by decide) (fun c_21 => ?_) (fun c_21 => ?_)
      · skip
        exact absurd c_21 (nI_ge (by omega) (by omega))
      · skip
        refine lv_iload hx hb dX12_cut_24 (lv_at hl 3 rfl) ?_
        refine lv_iload_n hx hb dX12_cut_26 rfl (lv_at hl 2 rfl) ?_
        refine lv_icmp_ge (tgt := 63) hx hb dX12_cut_27 (by decide) (fun c_27 => ?_) (fun c_27 => ?_)
        · skip
          refine lv_aload_n hx hb dX12_cut_63 rfl (lv_at hl 0 rfl) ?_
          refine va_gets (v := .ref (tk 2)) hx hb (show va_Z "DescribeText$Token" "END" "LDescribeText$Token;" (.ref (tk 2)) A s s.heap from (hE.2.1 2 (by decide)).1) hS hown (tb_use hT tw_431) (fun _ h9 => h9) dX12_cut_64 ?_
          refine lv_iload_n hx hb dX12_cut_67 rfl (lv_at hl 2 rfl) ?_
          refine lv_lconst (v := 0) hx hb dX12_cut_68 (by decide) ?_
          refine va_callv (va_runV (As := [.ref (tk 2), .int (nI tn9), .long 0]) (rest := []) ⟨hx, hb, hml, hown, (fun _ h9 => absurd h9 List.not_mem_nil : ∀ w ∈ ([] : List Cond), w.before _ s = true)⟩ (c_TK_add l D cy A X hst hXT e0 tk hXE Gv k ks ss vs m9 K S V 2 (nI tn9) 0 hTB (by omega) (by decide)) (tb_cw (C := RX12) 3 hT tw_362 tw_107 tw_359 tw_361 tw_3 rfl rfl hq_X12_add ⟨Nat.le_of_ble_eq_true rfl, Nat.le_of_ble_eq_true rfl⟩) (mk_preC hst hG hK hA hX hS vc_13 v_k) rfl rfl hl.1 rfl (lv_room (Nat.le_of_ble_eq_true rfl)) dX12_cut_69 ⟨Nat.le_of_ble_eq_true rfl, Nat.le_of_ble_eq_true rfl⟩) hS (fun q _ h => h) (fun q h => h) (fun  G22 t H locs ht hvm hw hB hz1 hk1 hS => ?_)
          have hG : mm D vwCl A G22 H := by rw [← ht]; exact hB
          clear hB hz1 hk1 hvm ht
          obtain ⟨hT2, hf2⟩ := hw
          have hz : cutT ft tn9 = (a9, m9, K, S, V) := by
            rw [cutT, CuS.nil, hR, ← hq]
            first | rfl | rw [cutL, if_neg (fun z => absurd c_27 (nI_ge z (by omega)))]
          exact W.vret hx hb hr (fun t ht hW => ⟨⟨_, rfl, (by unfold tkN tkK tkS tkV; rw [hz]; exact ⟨hT2, ⟨fun j => by unfold kup; split; exact (by decide : 2 < 35); exact hK9.1 j, by show m9 + 1 ≤ 2001; omega⟩, fun j hj => by have z := hK9.2 j (by have : m9 + 1 ≤ j := hj; omega); have hj2 : m9 + 1 ≤ j := hj; simp only [kup]; rw [if_neg (by omega), if_neg (by omega), if_neg (by omega)]; exact z, fun x e h0 n1 n2 n3 n4 => hf2 x e (hfr x e h0 n1 n2 n3 n4) n1 n2 n3 n4⟩), mk_end hG ht⟩, hS.F ht⟩) hS.2.2 dX12_cut_72
        · skip
          refine lv_aload_n hx hb dX12_cut_30 rfl (lv_at hl 1 rfl) ?_
          refine lv_iload hx hb dX12_cut_31 (lv_at hl 3 rfl) ?_
          refine mm_bald hx hb hK hG 0 v_tx rfl (nI_in (c := a9) (N := 2000) (by have := nI_lt_of (a := a9) (b := tn9) (by omega) (by omega) c_27; omega) (by decide)) dX12_cut_33 ?_
          refine lv_topi (fun x23 ex23 => ?_)
          refine va_calli (va_runS (As := [.int x23]) (rest := []) ⟨hx, hb, hml, hown, (fun _ h9 => absurd h9 List.not_mem_nil : ∀ w ∈ ([] : List Cond), w.before _ s = true)⟩ (c_X12_isBlank l D cy A X hst hXT e0 tk hXE Gv x23) (tb_cs 1 hT tw_338 tw_107 tw_336 tw_337 rfl rfl hq_X12_isBlank ⟨Nat.le_of_ble_eq_true rfl, Nat.le_of_ble_eq_true rfl⟩) (mk_preS hst hG hK hA hX hS) rfl rfl hl.1 rfl (lv_room (Nat.le_of_ble_eq_true rfl)) dX12_cut_34 ⟨Nat.le_of_ble_eq_true rfl, Nat.le_of_ble_eq_true rfl⟩) hS (fun q _ h => h) (fun q h => h) (fun r24 G25 t H locs ht hvm hw hB hz1 hk1 hS => ?_)
          have hG : mm D vwCl A G25 H := by rw [← ht]; exact hB
          clear hB hz1 hk1 hvm ht
          obtain ⟨er24, hw⟩ := hw
          rw [hw] at hG
          refine lv_if_eq (tgt := 47) hx hb dX12_cut_37 (by decide) (fun c_37 => ?_) (fun c_37 => ?_)
          · skip
            refine lv_aload_n hx hb dX12_cut_47 rfl (lv_at hl 0 rfl) ?_
            refine lv_aload_n hx hb dX12_cut_48 rfl (lv_at hl 1 rfl) ?_
            refine lv_iload hx hb dX12_cut_49 (lv_at hl 3 rfl) ?_
            refine lv_iload_n hx hb dX12_cut_51 rfl (lv_at hl 2 rfl) ?_
            have hb9 := c1R_ok (f := ft) (a := a9) (en := tn9) (nI_lt_of (by omega) (by omega) c_27)
            refine va_calli (va_runV (As := [.ref tx, .int (nI a9), .int (nI tn9)]) (rest := []) ⟨hx, hb, hml, hown, (fun _ h9 => absurd h9 List.not_mem_nil : ∀ w ∈ ([] : List Cond), w.before _ s = true)⟩ (c_X12_cutOne l D cy A X hst hXT e0 tk hXE mi hXL ax adK adV hXX Gv k ks ss vs m9 K S V tx a9 tn9 ft hTB (by omega) v_tx (nI_lt_of (by omega) (by omega) c_27) htn) (tb_cw (C := RX12) 3 hT tw_342 tw_107 tw_339 tw_341 tw_0 rfl rfl hq_X12_cutOne ⟨Nat.le_of_ble_eq_true rfl, Nat.le_of_ble_eq_true rfl⟩) (mk_preC hst hG hK hA hX hS vc_13 v_k) rfl rfl hl.1 rfl (lv_room (Nat.le_of_ble_eq_true rfl)) dX12_cut_52 ⟨Nat.le_of_ble_eq_true rfl, Nat.le_of_ble_eq_true rfl⟩) hS (fun q _ h => h) (fun q h => h) (fun r26 G27 t H locs ht hvm hw hB hz1 hk1 hS => ?_)
            have hG : mm D vwCl A G27 H := by rw [← ht]; exact hB
            clear hB hz1 hk1 hvm ht
            obtain ⟨er26, hT2, hf2⟩ := hw
            rw [er26]
            obtain ⟨fa, fb, fc, hk2, -⟩ := id hT2
            have ht2 : G27 tx = some (.inl (cy 0, 2000, .inl ft)) := hf2 _ _ v_tx hx1 hx2 hx3 hx4
            have hfN : ∀ (x : Nat) (e : va_E), G x = some e → x ≠ k → x ≠ ks → x ≠ ss → x ≠ vs → G27 x = some e := fun x e h0 n1 n2 n3 n4 => hf2 x e (hfr x e h0 n1 n2 n3 n4) n1 n2 n3 n4
            refine lv_istore (lv' := [(4, .int (nI (c1R ft a9 tn9).2)), (0, .ref k), (1, .ref tx), (3, .int (nI tn9)), (5, .int (nI j9))]) hx hb dX12_cut_55 hl (by decide) rfl (fun ls hl => ?_)
            obtain ⟨x28, ex28⟩ : ∃ y : Int32, y = (nI j9) + 1 := ⟨_, rfl⟩
            refine lv_iinc (v := x28) (lv' := [(5, .int x28), (4, .int (nI (c1R ft a9 tn9).2)), (0, .ref k), (1, .ref tx), (3, .int (nI tn9))]) hx hb dX12_cut_57 hl (k := 4) rfl (by rw [ex28]; rfl) (by decide) rfl (fun ls hl => ?_)
            refine lv_goto (tgt := 18) hx hb dX12_cut_60 (by decide) ?_
            rw [show x28 = nI (j9 + 1) by rw [ex28]; exact (nI_succ j9).symm] at hl
            have hlt9 : a9 < tn9 := nI_lt_of (by omega) (by omega) c_27
            have hbl : isBl (ft a9) = false := by rw [er24, ex23, nI_clamp (n := a9) (by omega)] at c_37; revert c_37; cases isBl (ft a9) <;> simp [b2i]
            have hq2 : cutL ft tn9 n ((c1R ft a9 tn9).2, m9 + 1, kup K m9 (c1R ft a9 tn9).1.1, kup S m9 (c1R ft a9 tn9).1.2.1, kup V m9 (c1R ft a9 tn9).1.2.2) = RF := by rw [← hq, cutL, if_pos hlt9, if_neg (by rw [hbl]; decide)]
            have hKn : (∀ j, kup K m9 (c1R ft a9 tn9).1.1 j < 35) ∧ ∀ j, m9 + 1 ≤ j → kup K m9 (c1R ft a9 tn9).1.1 j = 3 ∧ kup S m9 (c1R ft a9 tn9).1.2.1 j = 0 ∧ kup V m9 (c1R ft a9 tn9).1.2.2 j = 0 := by
              refine ⟨fun j => ?_, fun j hj => ?_⟩
              · unfold kup; split; exact hb9.2; exact hK9.1 j
              · have z := hK9.2 j (by omega); simp only [kup]; rw [if_neg (by omega), if_neg (by omega), if_neg (by omega)]; exact z
            exact ih (j9 + 1) (c1R ft a9 tn9).2 (m9 + 1) _ _ _ (by omega) (by omega) (by omega) hq2 hKn G27 hk2 ht2 hT2 hfN _ _ hG hS ls (lv_sub hl [2, 3, 4, 1, 0] rfl)
          · skip
            refine lv_iload hx hb dX12_cut_40 (lv_at hl 3 rfl) ?_
            refine lv_iconst (v := 1) hx hb dX12_cut_42 (by decide) ?_
            refine lv_iadd hx hb dX12_cut_43 ?_
            rw [← nI_succ a9]
            refine lv_goto (tgt := 55) hx hb dX12_cut_44 (by decide) ?_
            refine lv_istore (lv' := [(4, .int (nI (a9 + 1))), (0, .ref k), (1, .ref tx), (3, .int (nI tn9)), (5, .int (nI j9))]) hx hb dX12_cut_55 hl (by decide) rfl (fun ls hl => ?_)
            obtain ⟨x29, ex29⟩ : ∃ y : Int32, y = (nI j9) + 1 := ⟨_, rfl⟩
            refine lv_iinc (v := x29) (lv' := [(5, .int x29), (4, .int (nI (a9 + 1))), (0, .ref k), (1, .ref tx), (3, .int (nI tn9))]) hx hb dX12_cut_57 hl (k := 4) rfl (by rw [ex29]; rfl) (by decide) rfl (fun ls hl => ?_)
            refine lv_goto (tgt := 18) hx hb dX12_cut_60 (by decide) ?_
            rw [show x29 = nI (j9 + 1) by rw [ex29]; exact (nI_succ j9).symm] at hl
            have hlt9 : a9 < tn9 := nI_lt_of (by omega) (by omega) c_27
            have hbl : isBl (ft a9) = true := by rw [er24, ex23, nI_clamp (n := a9) (by omega)] at c_37; revert c_37; cases isBl (ft a9) <;> simp [b2i]
            have hq2 : cutL ft tn9 n (a9 + 1, m9, K, S, V) = RF := by rw [← hq, cutL, if_pos hlt9, if_pos hbl]
            exact ih (j9 + 1) (a9 + 1) m9 K S V (by omega) (by omega) (by omega) hq2 hK9 Gv v_k v_tx hTB hfr _ _ hG hS ls (lv_sub hl [2, 3, 4, 1, 0] rfl)
  refine lv_aload_n hx hb dX12_cut_0 rfl (lv_at hl 0 rfl) ?_
  refine lv_iconst (v := 0) hx hb dX12_cut_1 (by decide) ?_
  refine mm_put (v := .int 0) (ty := .int) hx hb hf_X12 (fun _ h9 => h9) tyX12 tyX12_ok nmX12 hown hK hG hS hk rfl 3 (by decide) (tb_use hT tw_163) (fun _ h9 => h9) rfl (by decide +kernel) rfl rfl (Nat.le_of_ble_eq_true rfl) dX12_cut_2 (fun H locs hG hS => ?_)
  obtain ⟨G30, eG30⟩ : ∃ g, g = mm_set G k (.inr (13, [.ref ks, .ref ss, .ref vs, .int 0])) := ⟨_, rfl⟩
  have hG : mm D vwCl A G30 H := by rw [eG30]; exact hG
  have k31 : G30 k = some (.inr (13, [.ref ks, .ref ss, .ref vs, .int 0])) := by rw [eG30]; exact mm_set_self
  have k32 : G30 tx = some (.inl (cy 0, 2000, .inl ft)) := by rw [eG30]; exact mm_set_of htx (mm_ne_ao htx hk)
  refine lv_iload_n hx hb dX12_cut_5 rfl (lv_at hl 2 rfl) ?_
  refine lv_aload_n hx hb dX12_cut_6 rfl (lv_at hl 1 rfl) ?_
  refine mm_alen (v := 2000) hx hb hK hG 0 k32 rfl rfl dX12_cut_7 ?_
  refine va_mmin hx hb (by rw [hml]; exact hl.1.symm) hown (tb_use hT tw_333) (tb_use hT tw_334) (tb_use hT tw_114) (tb_use hT tw_335) (Nat.le_of_ble_eq_true rfl) (Nat.le_of_ble_eq_true rfl) (by exact Nat.zero_le _) (by exact Nat.zero_le _) dX12_cut_8 ?_
  rw [show (if 2000 < nI tn9 then 2000 else nI tn9) = nI tn9 from if_neg (fun z => absurd (Int32.not_le.mpr z) (fun z2 => z2 (nI_le (b := 2000) htn (by decide))))]
  refine lv_istore_n (lv' := [(3, .int (nI tn9)), (0, .ref k), (1, .ref tx), (2, .int (nI tn9))]) hx hb dX12_cut_11 rfl hl (by decide) rfl (fun ls hl => ?_)
  refine lv_iconst (v := 0) hx hb dX12_cut_12 (by decide) ?_
  refine lv_istore (lv' := [(4, .int 0), (3, .int (nI tn9)), (0, .ref k), (1, .ref tx), (2, .int (nI tn9))]) hx hb dX12_cut_13 hl (by decide) rfl (fun ls hl => ?_)
  refine lv_iconst (v := 0) hx hb dX12_cut_15 (by decide) ?_
  refine lv_istore (lv' := [(5, .int 0), (4, .int 0), (3, .int (nI tn9)), (0, .ref k), (1, .ref tx), (2, .int (nI tn9))]) hx hb dX12_cut_16 hl (by decide) rfl (fun ls hl => ?_)
  have hT0 : TKB cy tk G30 k ks ss vs 0 (fun _ => 3) (fun _ => 0) (fun _ => 0) := hTB.cg 0 (by omega) (fun j hj => absurd hj (by omega)) k31 eG30
  have hf0 : ∀ (x : Nat) (e : va_E), G x = some e → x ≠ k → x ≠ ks → x ≠ ss → x ≠ vs → G30 x = some e := fun x e h0 n1 _ _ _ => by rw [eG30]; exact mm_set_of h0 n1
  exact hloop tn9 0 0 0 _ _ _ (by omega) (by omega) (by omega) hR ⟨fun _ => by decide, fun _ _ => ⟨rfl, rfl, rfl⟩⟩ G30 k31 k32 hT0 hf0 _ _ hG hS ls (lv_sub hl [3, 4, 2, 1, 0] rfl)
