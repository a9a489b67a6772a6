theorem g_subn (a j : Nat) : nI (a + j) - nI a = nI j := by
  rw [← nI_add a j, Int32.add_comm, Int32.add_sub_cancel]
/-- the number of j digits from a on -/
def dn (f : Nat → Int32) (a : Nat) : Nat → Int64
  | 0 => 0
  | j + 1 => dn f a j * 10 + (f (a + j) - 48).toInt64
/-- how many digits stand there, none if more than six -/
def cutN (f : Nat → Int32) (a : Nat) : Nat → Nat → Option Nat
  | 0, j => some j
  | n + 1, j => if isDi (f (a + j)) then (if j = 6 then none else cutN f a n (j + 1)) else some j
def cnR (f : Nat → Int32) (a en : Nat) : (Nat × Int32 × Int64) × Nat := match cutN f a (en - a) 0 with
  | none => ((3, nI (a + 6), 0), en)
  | some j => if a + j < en ∧ isLe (f (a + j)) = true then ((3, nI (a + j), 0), en) else ((1, nI a, dn f a j), a + j)
set_option maxHeartbeats 4000000 in
set_option maxRecDepth 100000 in
theorem c_X12_cutNumber (l : Launch) (D : va_G) (cy : Nat → ClassId) (A : Nat → Prop) (X : State → Prop) (hst : mk_St A X) (hXT : ∀ U : State, X U → TB U) (e0 : Nat) (tk : Nat → Nat) (hXE : ∀ U : State, X U → ES e0 tk A U) (G : Nat → Option va_E) (k ks ss vs m9 : Nat) (K : Nat → Nat) (S : Nat → Int32) (V : Nat → Int64) (tx a9 en9 : Nat) (ft : Nat → Int32) (hTB : TKB cy tk G k ks ss vs m9 K S V) (hm : m9 < 2001) (htx : G tx = some (.inl (cy 0, 2000, .inl ft))) (hae : a9 ≤ en9) (hen : en9 ≤ 2000) : Met l yX12_cutNumber [.code yX12_cutNumber cX12_cutNumber 7 (some .int)] ({ frames := 2, cells := 0, slots := 0, locals := 60 }) (mk_Pre D vwCl (tyL cy) A X G [.ref k, .ref tx, .int (nI a9), .int (nI en9)]) (va_Qi (fun (r : Int32) (G2 : Nat → Option va_E) => r = nI (cnR ft a9 en9).2 ∧ TKB cy tk G2 k ks ss vs (m9 + 1) (kup K m9 (cnR ft a9 en9).1.1) (kup S m9 (cnR ft a9 en9).1.2.1) (kup V m9 (cnR ft a9 en9).1.2.2) ∧ ∀ (x : Nat) (e : va_E), G x = some e → x ≠ k → x ≠ ks → x ≠ ss → x ≠ vs → G2 x = some e) (mk_B D vwCl A) A) 0 0 A := by
  refine Met.ofW (cc := cX12_cutNumber) (maxL := 7) (ret := (some .int)) (by decide) rfl ?_
  intro p e s m args below meth c s₁ B hml hv
  obtain ⟨rfl, hG, hK, hA, hX⟩ := hv
  have hx := B.exec
  have hb := B.bytes
  have hr := B.returns
  have hlocks := B.notSynchronized
  have hT := hXT s hX
  have hown : s.vm.findClass RX12 = some m.cls := findClass_of_methodNamed B.named
  have hS : va_S A s.heap s.heap [] := va_S.rf
  have hE := hXE s hX
  have hl := lv_entry ([.ref k, .ref tx, .int (nI a9), .int (nI en9)]) (n := 7) (Nat.le_of_ble_eq_true rfl)
  rw [lg_entry_eq]
  generalize (lg_sl ([.ref k, .ref tx, .int (nI a9), .int (nI en9)]) ++ List.replicate (7 - (lg_sl ([.ref k, .ref tx, .int (nI a9), .int (nI en9)])).length) Slot.unset).toArray = ls at hl ⊢
  have hl : lv_has ls 7 [(0, .ref k), (1, .ref tx), (2, .int (nI a9)), (3, .int (nI en9))] := hl
  obtain ⟨fa1, fa2, fa3, hk, -⟩ := id hTB
  obtain ⟨RF, hR⟩ : ∃ y, cutN ft a9 (en9 - a9) 0 = y := ⟨_, rfl⟩
  have hloop : ∀ (n : Nat) (j : Nat), (n + (a9 + j) = en9) → (cutN ft a9 n j = RF) → (j ≤ 2000) → ∀ (Gv : Nat → Option va_E), (Gv k = some (.inr (13, [.ref ks, .ref ss, .ref vs, .int (nI m9)]))) → (Gv tx = some (.inl (cy 0, 2000, .inl ft))) → (Gv = G) → ∀ (H : Heap) (locs : List Loc), mm D vwCl A Gv H → va_S A s.heap H locs → ∀ ls : Array Slot, lv_has ls 7 [(0, .ref k), (1, .ref tx), (2, .int (nI a9)), (3, .int (nI en9)), (4, .long (dn ft a9 j)), (6, .int (nI (a9 + j)))] → W p l e (headSpec [.code yX12_cutNumber cX12_cutNumber 7 (some .int)] ({ frames := 2, cells := 0, slots := 0, locals := 60 })).room s m ([.ref k, .ref tx, .int (nI a9), .int (nI en9)] : List Value).toArray below meth c H locs 0 0 (MQ below (va_Qi (fun (r : Int32) (G2 : Nat → Option va_E) => r = nI (cnR ft a9 en9).2 ∧ TKB cy tk G2 k ks ss vs (m9 + 1) (kup K m9 (cnR ft a9 en9).1.1) (kup S m9 (cnR ft a9 en9).1.2.1) (kup V m9 (cnR ft a9 en9).1.2.2) ∧ ∀ (x : Nat) (e : va_E), G x = some e → x ≠ k → x ≠ ks → x ≠ ss → x ≠ vs → G2 x = some e) (mk_B D vwCl A) A) ([.ref k, .ref tx, .int (nI a9), .int (nI en9)] : List Value).toArray s 0 0 A) (F0 m 6 ls []) := by
    intro n
    induction n with
    | zero =>
      intro j hjn hq hj6 Gv v_k v_tx hGv H locs hG hS ls hl
      have hG9 := hG
      have hS9 := hS
      have hl9 := hl
      subst hGv
      have hG := hG9
      have hS := hS9
      have hl := hl9
      refine lv_iload hx hb dX12_cutNumber_6 (lv_at hl 5 rfl) ?_
      refine lv_iload_n hx hb dX12_cutNumber_8 rfl (lv_at hl 3 rfl) ?_
      refine lv_icmp_ge (tgt := 62) hx hb dX12_cutNumber_9 (by decide) (fun c_9 => ?_) (fun c_9 => ?_)
      · skip
        refine lv_iload hx hb dX12_cutNumber_62 (lv_at hl 5 rfl) ?_
        refine lv_iload_n hx hb dX12_cutNumber_64 rfl (lv_at hl 3 rfl) ?_
        refine lv_icmp_ge (tgt := 86) hx hb dX12_cutNumber_65 (by decide) (fun c_65 => ?_) (fun c_65 => ?_)
        · skip
          refine lv_aload_n hx hb dX12_cutNumber_86 rfl (lv_at hl 0 rfl) ?_
          refine va_gets (v := .ref (tk 1)) hx hb (show va_Z "DescribeText$Token" "NUMBER" "LDescribeText$Token;" (.ref (tk 1)) A s s.heap from (hE.2.1 1 (by decide)).1) hS hown (tb_use hT tw_429) (fun _ h9 => h9) dX12_cutNumber_87 ?_
          refine lv_iload_n hx hb dX12_cutNumber_90 rfl (lv_at hl 2 rfl) ?_
          refine lv_lload hx hb dX12_cutNumber_91 (lv_at hl 4 rfl) ?_
          refine va_callv (va_runV (As := [.ref (tk 1), .int (nI a9), .long (dn ft a9 j)]) (rest := []) ⟨hx, hb, hml, hown, (fun _ h9 => absurd h9 List.not_mem_nil : ∀ w ∈ ([] : List Cond), w.before _ s = true)⟩ (c_TK_add l D cy A X hst hXT e0 tk hXE Gv k ks ss vs m9 K S V 1 (nI a9) (dn ft a9 j) hTB (by omega) (by decide)) (tb_cw (C := RX12) 3 hT tw_362 tw_107 tw_359 tw_361 tw_3 rfl rfl hq_X12_add ⟨Nat.le_of_ble_eq_true rfl, Nat.le_of_ble_eq_true rfl⟩) (mk_preC hst hG hK hA hX hS vc_13 v_k) rfl rfl hl.1 rfl (lv_room (Nat.le_of_ble_eq_true rfl)) dX12_cutNumber_93 ⟨Nat.le_of_ble_eq_true rfl, Nat.le_of_ble_eq_true rfl⟩) hS (fun q _ h => h) (fun q h => h) (fun  G21 t H locs ht hvm hw hB hz1 hk1 hS => ?_)
          have hG : mm D vwCl A G21 H := by rw [← ht]; exact hB
          clear hB hz1 hk1 hvm ht
          obtain ⟨hT2, hf2⟩ := hw
          refine lv_iload hx hb dX12_cutNumber_96 (lv_at hl 5 rfl) ?_
          have hz : cnR ft a9 en9 = ((1, nI a9, dn ft a9 j), a9 + j) := by rw [cnR, hR, show RF = some j by rw [← hq]; rfl]; exact if_neg (fun z => absurd z.1 (by omega))
          exact W.iret (v := (nI (a9 + j))) hx hb hr (fun t ht hW => ⟨⟨_, _, rfl, (by rw [hz]; exact ⟨rfl, hT2, hf2⟩), mk_end hG ht⟩, hS.F ht⟩) hS.2.2 dX12_cutNumber_98
        · skip
          exact absurd (by rw [show a9 + j = en9 by omega]; exact Int32.le_refl _) c_65
      · skip
        exact absurd (by rw [show a9 + j = en9 by omega]; exact Int32.le_refl _) c_9
    | succ n ih =>
      intro j hjn hq hj6 Gv v_k v_tx hGv H locs hG hS ls hl
      have hG9 := hG
      have hS9 := hS
      have hl9 := hl
      subst hGv
      have hG := hG9
      have hS := hS9
      have hl := hl9
      refine lv_iload hx hb dX12_cutNumber_6 (lv_at hl 5 rfl) ?_
      refine lv_iload_n hx hb dX12_cutNumber_8 rfl (lv_at hl 3 rfl) ?_
      refine lv_icmp_ge (tgt := 62) hx hb dX12_cutNumber_9 (by decide) (fun c_9 => ?_) (fun c_9 => ?_)
      · skip
        exact absurd c_9 (nI_ge (by omega) (by omega))
      · skip
        refine lv_aload_n hx hb dX12_cutNumber_12 rfl (lv_at hl 1 rfl) ?_
        refine lv_iload hx hb dX12_cutNumber_13 (lv_at hl 5 rfl) ?_
        refine mm_bald hx hb hK hG 0 v_tx rfl (nI_in (c := a9 + j) (N := 2000) (by omega) (by decide)) dX12_cutNumber_15 ?_
        refine lv_topi (fun x22 ex22 => ?_)
        refine va_calli (va_runS (As := [.int x22]) (rest := []) ⟨hx, hb, hml, hown, (fun _ h9 => absurd h9 List.not_mem_nil : ∀ w ∈ ([] : List Cond), w.before _ s = true)⟩ (c_X12_isDigit l D cy A X hst hXT e0 tk hXE Gv x22) (tb_cs 1 hT tw_352 tw_107 tw_350 tw_351 rfl rfl hq_X12_isDigit ⟨Nat.le_of_ble_eq_true rfl, Nat.le_of_ble_eq_true rfl⟩) (mk_preS hst hG hK hA hX hS) rfl rfl hl.1 rfl (lv_room (Nat.le_of_ble_eq_true rfl)) dX12_cutNumber_16 ⟨Nat.le_of_ble_eq_true rfl, Nat.le_of_ble_eq_true rfl⟩) hS (fun q _ h => h) (fun q h => h) (fun r23 G24 t H locs ht hvm hw hB hz1 hk1 hS => ?_)
        have hG : mm D vwCl A G24 H := by rw [← ht]; exact hB
        clear hB hz1 hk1 hvm ht
        obtain ⟨er23, hw⟩ := hw
        rw [hw] at hG
        refine lv_if_eq (tgt := 62) hx hb dX12_cutNumber_19 (by decide) (fun c_19 => ?_) (fun c_19 => ?_)
        · skip
          refine lv_iload hx hb dX12_cutNumber_62 (lv_at hl 5 rfl) ?_
          refine lv_iload_n hx hb dX12_cutNumber_64 rfl (lv_at hl 3 rfl) ?_
          refine lv_icmp_ge (tgt := 86) hx hb dX12_cutNumber_65 (by decide) (fun c_65 => ?_) (fun c_65 => ?_)
          · skip
            exact absurd c_65 (nI_ge (by omega) (by omega))
          · skip
            refine lv_aload_n hx hb dX12_cutNumber_68 rfl (lv_at hl 1 rfl) ?_
            refine lv_iload hx hb dX12_cutNumber_69 (lv_at hl 5 rfl) ?_
            refine mm_bald hx hb hK hG 0 v_tx rfl (nI_in (c := a9 + j) (N := 2000) (by omega) (by decide)) dX12_cutNumber_71 ?_
            refine lv_topi (fun x25 ex25 => ?_)
            refine va_calli (va_runS (As := [.int x25]) (rest := []) ⟨hx, hb, hml, hown, (fun _ h9 => absurd h9 List.not_mem_nil : ∀ w ∈ ([] : List Cond), w.before _ s = true)⟩ (c_X12_isLetter l D cy A X hst hXT e0 tk hXE Gv x25) (tb_cs 1 hT tw_345 tw_107 tw_343 tw_344 rfl rfl hq_X12_isLetter ⟨Nat.le_of_ble_eq_true rfl, Nat.le_of_ble_eq_true rfl⟩) (mk_preS hst hG hK hA hX hS) rfl rfl hl.1 rfl (lv_room (Nat.le_of_ble_eq_true rfl)) dX12_cutNumber_72 ⟨Nat.le_of_ble_eq_true rfl, Nat.le_of_ble_eq_true rfl⟩) hS (fun q _ h => h) (fun q h => h) (fun r26 G27 t H locs ht hvm hw hB hz1 hk1 hS => ?_)
            have hG : mm D vwCl A G27 H := by rw [← ht]; exact hB
            clear hB hz1 hk1 hvm ht
            obtain ⟨er26, hw⟩ := hw
            rw [hw] at hG
            refine lv_if_eq (tgt := 86) hx hb dX12_cutNumber_75 (by decide) (fun c_75 => ?_) (fun c_75 => ?_)
            · skip
              refine lv_aload_n hx hb dX12_cutNumber_86 rfl (lv_at hl 0 rfl) ?_
              refine va_gets (v := .ref (tk 1)) hx hb (show va_Z "DescribeText$Token" "NUMBER" "LDescribeText$Token;" (.ref (tk 1)) A s s.heap from (hE.2.1 1 (by decide)).1) hS hown (tb_use hT tw_429) (fun _ h9 => h9) dX12_cutNumber_87 ?_
              refine lv_iload_n hx hb dX12_cutNumber_90 rfl (lv_at hl 2 rfl) ?_
              refine lv_lload hx hb dX12_cutNumber_91 (lv_at hl 4 rfl) ?_
              refine va_callv (va_runV (As := [.ref (tk 1), .int (nI a9), .long (dn ft a9 j)]) (rest := []) ⟨hx, hb, hml, hown, (fun _ h9 => absurd h9 List.not_mem_nil : ∀ w ∈ ([] : List Cond), w.before _ s = true)⟩ (c_TK_add l D cy A X hst hXT e0 tk hXE Gv k ks ss vs m9 K S V 1 (nI a9) (dn ft a9 j) hTB (by omega) (by decide)) (tb_cw (C := RX12) 3 hT tw_362 tw_107 tw_359 tw_361 tw_3 rfl rfl hq_X12_add ⟨Nat.le_of_ble_eq_true rfl, Nat.le_of_ble_eq_true rfl⟩) (mk_preC hst hG hK hA hX hS vc_13 v_k) rfl rfl hl.1 rfl (lv_room (Nat.le_of_ble_eq_true rfl)) dX12_cutNumber_93 ⟨Nat.le_of_ble_eq_true rfl, Nat.le_of_ble_eq_true rfl⟩) hS (fun q _ h => h) (fun q h => h) (fun  G28 t H locs ht hvm hw hB hz1 hk1 hS => ?_)
              have hG : mm D vwCl A G28 H := by rw [← ht]; exact hB
              clear hB hz1 hk1 hvm ht
              obtain ⟨hT2, hf2⟩ := hw
              refine lv_iload hx hb dX12_cutNumber_96 (lv_at hl 5 rfl) ?_
              have hd9 : isDi (ft (a9 + j)) = false := by rw [er23, ex22, nI_clamp (n := a9 + j) (by omega)] at c_19; revert c_19; cases isDi (ft (a9 + j)) <;> simp [b2i]
              have hRF : RF = some j := by rw [← hq, cutN, if_neg (by rw [hd9]; decide)]
              have hl8 : isLe (ft (a9 + j)) = false := by rw [er26, ex25, nI_clamp (n := a9 + j) (by omega)] at c_75; revert c_75; cases isLe (ft (a9 + j)) <;> simp [b2i]
              have hz : cnR ft a9 en9 = ((1, nI a9, dn ft a9 j), a9 + j) := by rw [cnR, hR, hRF]; exact if_neg (fun z => by rw [hl8] at z; cases z.2)
              exact W.iret (v := (nI (a9 + j))) hx hb hr (fun t ht hW => ⟨⟨_, _, rfl, (by rw [hz]; exact ⟨rfl, hT2, hf2⟩), mk_end hG ht⟩, hS.F ht⟩) hS.2.2 dX12_cutNumber_98
            · skip
              refine lv_aload_n hx hb dX12_cutNumber_78 rfl (lv_at hl 0 rfl) ?_
              refine lv_iload hx hb dX12_cutNumber_79 (lv_at hl 5 rfl) ?_
              refine lv_iload_n hx hb dX12_cutNumber_81 rfl (lv_at hl 3 rfl) ?_
              refine va_calli (va_runV (As := [.int (nI (a9 + j)), .int (nI en9)]) (rest := []) ⟨hx, hb, hml, hown, (fun _ h9 => absurd h9 List.not_mem_nil : ∀ w ∈ ([] : List Cond), w.before _ s = true)⟩ (c_X12_stop l D cy A X hst hXT e0 tk hXE Gv k ks ss vs m9 K S V (nI (a9 + j)) (nI en9) hTB (by omega)) (tb_cw (C := RX12) 2 hT tw_356 tw_107 tw_353 tw_355 tw_2 rfl rfl hq_X12_stop ⟨Nat.le_of_ble_eq_true rfl, Nat.le_of_ble_eq_true rfl⟩) (mk_preC hst hG hK hA hX hS vc_13 v_k) rfl rfl hl.1 rfl (lv_room (Nat.le_of_ble_eq_true rfl)) dX12_cutNumber_82 ⟨Nat.le_of_ble_eq_true rfl, Nat.le_of_ble_eq_true rfl⟩) hS (fun q _ h => h) (fun q h => h) (fun r29 G30 t H locs ht hvm hw hB hz1 hk1 hS => ?_)
              have hG : mm D vwCl A G30 H := by rw [← ht]; exact hB
              clear hB hz1 hk1 hvm ht
              obtain ⟨er29, hT2, hf2⟩ := hw
              have hd9 : isDi (ft (a9 + j)) = false := by rw [er23, ex22, nI_clamp (n := a9 + j) (by omega)] at c_19; revert c_19; cases isDi (ft (a9 + j)) <;> simp [b2i]
              have hRF : RF = some j := by rw [← hq, cutN, if_neg (by rw [hd9]; decide)]
              have hl8 : isLe (ft (a9 + j)) = true := by rw [er26, ex25, nI_clamp (n := a9 + j) (by omega)] at c_75; revert c_75; cases isLe (ft (a9 + j)) <;> simp [b2i]
              have hz : cnR ft a9 en9 = ((3, nI (a9 + j), 0), en9) := by rw [cnR, hR, hRF]; exact if_pos ⟨by omega, hl8⟩
              exact W.iret (v := r29) hx hb hr (fun t ht hW => ⟨⟨_, _, rfl, (by rw [hz]; exact ⟨er29, hT2, hf2⟩), mk_end hG ht⟩, hS.F ht⟩) hS.2.2 dX12_cutNumber_85
        · skip
          refine lv_iload hx hb dX12_cutNumber_22 (lv_at hl 5 rfl) ?_
          refine lv_iload_n hx hb dX12_cutNumber_24 rfl (lv_at hl 2 rfl) ?_
          refine lv_isub hx hb dX12_cutNumber_25 ?_
          rw [g_subn a9 j]
          refine lv_bipush (v := 6) hx hb dX12_cutNumber_26 (by decide) ?_
          refine lv_icmp_ne (tgt := 39) hx hb dX12_cutNumber_28 (by decide) (fun c_28 => ?_) (fun c_28 => ?_)
          · skip
            refine lv_lload hx hb dX12_cutNumber_39 (lv_at hl 4 rfl) ?_
            refine lv_ldc2 hx hb hown (tb_use hT tw_428) dX12_cutNumber_41 ?_
            refine lv_lmul hx hb dX12_cutNumber_44 ?_
            refine lv_aload_n hx hb dX12_cutNumber_45 rfl (lv_at hl 1 rfl) ?_
            refine lv_iload hx hb dX12_cutNumber_46 (lv_at hl 5 rfl) ?_
            refine mm_bald hx hb hK hG 0 v_tx rfl (nI_in (c := a9 + j) (N := 2000) (by omega) (by decide)) dX12_cutNumber_48 ?_
            refine lv_topi (fun x31 ex31 => ?_)
            refine lv_bipush (v := 48) hx hb dX12_cutNumber_49 (by decide) ?_
            refine lv_isub hx hb dX12_cutNumber_51 ?_
            obtain ⟨x32, ex32⟩ : ∃ y, y = ((x31 - 48) : Int32).toInt64 := ⟨_, rfl⟩
            refine lv_i2l (v := x32) hx hb dX12_cutNumber_52 ex32.symm ?_
            refine lv_ladd hx hb dX12_cutNumber_53 ?_
            refine lv_topl (fun x33 ex33 => ?_)
            refine lv_lstore (lv' := [(4, .long x33), (0, .ref k), (1, .ref tx), (2, .int (nI a9)), (3, .int (nI en9)), (6, .int (nI (a9 + j)))]) hx hb dX12_cutNumber_54 hl (by decide) rfl (fun ls hl => ?_)
            obtain ⟨x34, ex34⟩ : ∃ y : Int32, y = (nI (a9 + j)) + 1 := ⟨_, rfl⟩
            refine lv_iinc (v := x34) (lv' := [(6, .int x34), (4, .long x33), (0, .ref k), (1, .ref tx), (2, .int (nI a9)), (3, .int (nI en9))]) hx hb dX12_cutNumber_56 hl (k := 5) rfl (by rw [ex34]; rfl) (by decide) rfl (fun ls hl => ?_)
            refine lv_goto (tgt := 6) hx hb dX12_cutNumber_59 (by decide) ?_
            have hd9 : isDi (ft (a9 + j)) = true := by rw [er23, ex22, nI_clamp (n := a9 + j) (by omega)] at c_19; revert c_19; cases isDi (ft (a9 + j)) <;> simp [b2i]
            have h69 : ¬ j = 6 := fun z => c_28 (by rw [z]; rfl)
            rw [show x34 = nI (a9 + (j + 1)) by rw [ex34]; exact (nI_succ (a9 + j)).symm] at hl
            rw [show x33 = dn ft a9 (j + 1) by rw [ex33, ex32, ex31, nI_clamp (n := a9 + j) (by omega)]; rfl] at hl
            have hq2 : cutN ft a9 n (j + 1) = RF := by rw [← hq, cutN, if_pos hd9, if_neg h69]
            exact ih (j + 1) (by omega) hq2 (by omega) Gv v_k v_tx rfl _ _ hG hS ls (lv_sub hl [2, 3, 4, 5, 1, 0] rfl)
          · skip
            refine lv_aload_n hx hb dX12_cutNumber_31 rfl (lv_at hl 0 rfl) ?_
            refine lv_iload hx hb dX12_cutNumber_32 (lv_at hl 5 rfl) ?_
            refine lv_iload_n hx hb dX12_cutNumber_34 rfl (lv_at hl 3 rfl) ?_
            refine va_calli (va_runV (As := [.int (nI (a9 + j)), .int (nI en9)]) (rest := []) ⟨hx, hb, hml, hown, (fun _ h9 => absurd h9 List.not_mem_nil : ∀ w ∈ ([] : List Cond), w.before _ s = true)⟩ (c_X12_stop l D cy A X hst hXT e0 tk hXE Gv k ks ss vs m9 K S V (nI (a9 + j)) (nI en9) hTB (by omega)) (tb_cw (C := RX12) 2 hT tw_356 tw_107 tw_353 tw_355 tw_2 rfl rfl hq_X12_stop ⟨Nat.le_of_ble_eq_true rfl, Nat.le_of_ble_eq_true rfl⟩) (mk_preC hst hG hK hA hX hS vc_13 v_k) rfl rfl hl.1 rfl (lv_room (Nat.le_of_ble_eq_true rfl)) dX12_cutNumber_35 ⟨Nat.le_of_ble_eq_true rfl, Nat.le_of_ble_eq_true rfl⟩) hS (fun q _ h => h) (fun q h => h) (fun r35 G36 t H locs ht hvm hw hB hz1 hk1 hS => ?_)
            have hG : mm D vwCl A G36 H := by rw [← ht]; exact hB
            clear hB hz1 hk1 hvm ht
            obtain ⟨er35, hT2, hf2⟩ := hw
            have hd9 : isDi (ft (a9 + j)) = true := by rw [er23, ex22, nI_clamp (n := a9 + j) (by omega)] at c_19; revert c_19; cases isDi (ft (a9 + j)) <;> simp [b2i]
            have h69 : j = 6 := nI_inj (by omega) (by decide) c_28
            have hz : cnR ft a9 en9 = ((3, nI (a9 + j), 0), en9) := by rw [cnR, hR, ← hq, cutN, if_pos hd9, if_pos h69, h69]
            exact W.iret (v := r35) hx hb hr (fun t ht hW => ⟨⟨_, _, rfl, (by rw [hz]; exact ⟨er35, hT2, hf2⟩), mk_end hG ht⟩, hS.F ht⟩) hS.2.2 dX12_cutNumber_38
  refine lv_lconst (v := 0) hx hb dX12_cutNumber_0 (by decide) ?_
  refine lv_lstore (lv' := [(4, .long 0), (0, .ref k), (1, .ref tx), (2, .int (nI a9)), (3, .int (nI en9))]) hx hb dX12_cutNumber_1 hl (by decide) rfl (fun ls hl => ?_)
  refine lv_iload_n hx hb dX12_cutNumber_3 rfl (lv_at hl 3 rfl) ?_
  refine lv_istore (lv' := [(6, .int (nI a9)), (4, .long 0), (0, .ref k), (1, .ref tx), (2, .int (nI a9)), (3, .int (nI en9))]) hx hb dX12_cutNumber_4 hl (by decide) rfl (fun ls hl => ?_)
  exact hloop (en9 - a9) 0 (by omega) hR (by omega) G hk htx rfl _ _ hG hS ls (lv_sub hl [2, 3, 4, 5, 1, 0] rfl)
