def sgn (b : Int32) : Int32 := if isLe b then b - 97 + 1 else b - 48 + 27
/-- j signs from a on as a number -/
def pkd (f : Nat → Int32) (a : Nat) : Nat → Int64
  | 0 => 0
  | j + 1 => pkd f a j * 37 + (sgn (f (a + j))).toInt64
/-- how many letters and digits stand there, none if more than twelve -/
def cutA (f : Nat → Int32) (a : Nat) : Nat → Nat → Option Nat
  | 0, j => some j
  | n + 1, j => if isLe (f (a + j)) || isDi (f (a + j)) then (if j = 12 then none else cutA f a n (j + 1)) else some j
def stF (f : Nat → Int32) (a b : Nat) : Option Nat := fndF (fun i => stT f i a b) 35 0
def nmR (f : Nat → Int32) (a en : Nat) : (Nat × Int32 × Int64) × Nat := match cutA f a (en - a) 0 with
  | none => ((3, nI (a + 12), 0), en)
  | some j => (((stF f a (a + j)).getD 0, nI a, pkd f a j), a + j)
def c1R (f : Nat → Int32) (a en : Nat) : (Nat × Int32 × Int64) × Nat := if isLe (f a) then nmR f a en else if isDi (f a) then cnR f a en else match stF f a (a + 1) with
  | none => ((3, nI a, 0), en)
  | some i => ((i, nI a, 0), a + 1)
theorem cutA_le {f : Nat → Int32} {a k : Nat} : ∀ {n j : Nat}, cutA f a n j = some k → j ≤ k ∧ k ≤ j + n := by
  intro n
  induction n with
  | zero => intro j h; injection h with h; omega
  | succ n ih =>
    intro j h
    rw [cutA] at h
    split at h
    · split at h
      · cases h
      · have := ih h; omega
    · injection h with h; omega
theorem cutN_le {f : Nat → Int32} {a k : Nat} : ∀ {n j : Nat}, cutN f a n j = some k → j ≤ k ∧ k ≤ j + n := by
  intro n
  induction n with
  | zero => intro j h; injection h with h; omega
  | succ n ih =>
    intro j h
    rw [cutN] at h
    split at h
    · split at h
      · cases h
      · have := ih h; omega
    · injection h with h; omega
theorem stF_lt {f : Nat → Int32} {a b i : Nat} (h : stF f a b = some i) : i < 35 := by
  have := fndF_some h
  omega
theorem nmR_ok {f : Nat → Int32} {a en : Nat} (h : a ≤ en) : (nmR f a en).2 ≤ en ∧ (nmR f a en).1.1 < 35 := by
  unfold nmR
  split
  · exact ⟨Nat.le_refl _, (by decide : (3 : Nat) < 35)⟩
  · rename_i j hj
    have := cutA_le hj
    refine ⟨?_, ?_⟩
    · show a + j ≤ en
      omega
    · show (stF f a (a + j)).getD 0 < 35
      cases hs : stF f a (a + j) with
      | none => decide
      | some i => exact stF_lt hs
theorem cnR_ok {f : Nat → Int32} {a en : Nat} (h : a ≤ en) : (cnR f a en).2 ≤ en ∧ (cnR f a en).1.1 < 35 := by
  unfold cnR
  split
  · exact ⟨Nat.le_refl _, (by decide : (3 : Nat) < 35)⟩
  · rename_i j hj
    have := cutN_le hj
    split
    · exact ⟨Nat.le_refl _, (by decide : (3 : Nat) < 35)⟩
    · refine ⟨?_, (by decide : (1 : Nat) < 35)⟩
      show a + j ≤ en
      omega
theorem c1R_ok {f : Nat → Int32} {a en : Nat} (h : a < en) : (c1R f a en).2 ≤ en ∧ (c1R f a en).1.1 < 35 := by
  unfold c1R
  split
  · exact nmR_ok (by omega)
  · split
    · exact cnR_ok (by omega)
    · split
      · exact ⟨Nat.le_refl _, (by decide : (3 : Nat) < 35)⟩
      · rename_i i hi
        exact ⟨h, stF_lt hi⟩
set_option maxHeartbeats 4000000 in
set_option maxRecDepth 100000 in
theorem c_X12_cutName (l : Launch) (D : va_G) (cy : Nat → ClassId) (A : Nat → Prop) (X : State → Prop) (hst : mk_St A X) (hXT : ∀ U : State, X U → TB U) (e0 : Nat) (tk : Nat → Nat) (hXE : ∀ U : State, X U → ES e0 tk A U) (mi : Nat) (hXL : ∀ U : State, X U → EL e0 mi A U) (ax adK adV : Nat → Nat) (hXX : ∀ U : State, X U → TX ax adK adV tk A U) (G : Nat → Option va_E) (k ks ss vs m9 : Nat) (K : Nat → Nat) (S : Nat → Int32) (V : Nat → Int64) (tx a9 en9 : Nat) (ft : Nat → Int32) (hTB : TKB cy tk G k ks ss vs m9 K S V) (hm : m9 < 2001) (htx : G tx = some (.inl (cy 0, 2000, .inl ft))) (hae : a9 ≤ en9) (hen : en9 ≤ 2000) : Met l yX12_cutName [.code yX12_cutName cX12_cutName 8 (some .int)] ({ frames := 6, cells := 0, slots := 0, locals := 180 }) (mk_Pre D vwCl (tyL cy) A X G [.ref k, .ref tx, .int (nI a9), .int (nI en9)]) (va_Qi (fun (r : Int32) (G2 : Nat → Option va_E) => r = nI (nmR ft a9 en9).2 ∧ TKB cy tk G2 k ks ss vs (m9 + 1) (kup K m9 (nmR ft a9 en9).1.1) (kup S m9 (nmR ft a9 en9).1.2.1) (kup V m9 (nmR ft a9 en9).1.2.2) ∧ ∀ (x : Nat) (e : va_E), G x = some e → x ≠ k → x ≠ ks → x ≠ ss → x ≠ vs → G2 x = some e) (mk_B D vwCl A) A) 0 0 A := by
  refine Met.ofW (cc := cX12_cutName) (maxL := 8) (ret := (some .int)) (by decide) rfl ?_
  intro p e s m args below meth c s₁ B hml hv
  obtain ⟨rfl, hG, hK, hA, hX⟩ := hv
  have hx := B.exec
  have hb := B.bytes
  have hr := B.returns
  have hlocks := B.notSynchronized
  have hT := hXT s hX
  have hown : s.vm.findClass RX12 = some m.cls := findClass_of_methodNamed B.named
  have hS : va_S A s.heap s.heap [] := va_S.rf
  have hE := hXE s hX
  have hl := lv_entry ([.ref k, .ref tx, .int (nI a9), .int (nI en9)]) (n := 8) (Nat.le_of_ble_eq_true rfl)
  rw [lg_entry_eq]
  generalize (lg_sl ([.ref k, .ref tx, .int (nI a9), .int (nI en9)]) ++ List.replicate (8 - (lg_sl ([.ref k, .ref tx, .int (nI a9), .int (nI en9)])).length) Slot.unset).toArray = ls at hl ⊢
  have hl : lv_has ls 8 [(0, .ref k), (1, .ref tx), (2, .int (nI a9)), (3, .int (nI en9))] := hl
  have hQ := hXX s hX
  obtain ⟨fa1, fa2, fa3, hk, -⟩ := id hTB
  obtain ⟨RF, hR⟩ : ∃ y, cutA ft a9 (en9 - a9) 0 = y := ⟨_, rfl⟩
  have hloop : ∀ (n : Nat) (j : Nat), (n + (a9 + j) = en9) → (cutA ft a9 n j = RF) → (j ≤ 2000) → ∀ (Gv : Nat → Option va_E), (Gv k = some (.inr (13, [.ref ks, .ref ss, .ref vs, .int (nI m9)]))) → (Gv tx = some (.inl (cy 0, 2000, .inl ft))) → (Gv = G) → ∀ (H : Heap) (locs : List Loc), mm D vwCl A Gv H → va_S A s.heap H locs → ∀ ls : Array Slot, lv_has ls 8 [(0, .ref k), (1, .ref tx), (2, .int (nI a9)), (3, .int (nI en9)), (4, .long (pkd ft a9 j)), (6, .int (nI (a9 + j)))] → W p l e (headSpec [.code yX12_cutName cX12_cutName 8 (some .int)] ({ frames := 6, cells := 0, slots := 0, locals := 180 })).room s m ([.ref k, .ref tx, .int (nI a9), .int (nI en9)] : List Value).toArray below meth c H locs 0 0 (MQ below (va_Qi (fun (r : Int32) (G2 : Nat → Option va_E) => r = nI (nmR ft a9 en9).2 ∧ TKB cy tk G2 k ks ss vs (m9 + 1) (kup K m9 (nmR ft a9 en9).1.1) (kup S m9 (nmR ft a9 en9).1.2.1) (kup V m9 (nmR ft a9 en9).1.2.2) ∧ ∀ (x : Nat) (e : va_E), G x = some e → x ≠ k → x ≠ ks → x ≠ ss → x ≠ vs → G2 x = some e) (mk_B D vwCl A) A) ([.ref k, .ref tx, .int (nI a9), .int (nI en9)] : List Value).toArray s 0 0 A) (F0 m 6 ls []) := by
    intro n
    induction n with
    | zero =>
      intro j hjn hq hj6 Gv v_k v_tx hGv H locs hG hS ls hl
      have hG9 := hG
      have hS9 := hS
      have hl9 := hl
      subst hGv
      have hG := hG9
      have hS := hS9
      have hl := hl9
      refine lv_iload hx hb dX12_cutName_6 (lv_at hl 5 rfl) ?_
      refine lv_iload_n hx hb dX12_cutName_8 rfl (lv_at hl 3 rfl) ?_
      refine lv_icmp_ge (tgt := 101) hx hb dX12_cutName_9 (by decide) (fun c_9 => ?_) (fun c_9 => ?_)
      · skip
        refine lv_aload_n hx hb dX12_cutName_101 rfl (lv_at hl 1 rfl) ?_
        refine lv_iload_n hx hb dX12_cutName_102 rfl (lv_at hl 2 rfl) ?_
        refine lv_iload hx hb dX12_cutName_103 (lv_at hl 5 rfl) ?_
        refine va_callq (va_runS (As := [.ref tx, .int (nI a9), .int (nI (a9 + j))]) (rest := []) ⟨hx, hb, hml, hown, (fun _ h9 => absurd h9 List.not_mem_nil : ∀ w ∈ ([] : List Cond), w.before _ s = true)⟩ (c_X11_standing l D cy A X hst hXT e0 tk hXE mi hXL ax adK adV hXX Gv tx a9 (a9 + j) ft v_tx (by omega) (by omega)) (tb_cs 3 hT tw_366 tw_116 tw_364 tw_365 rfl rfl hq_X11_standing ⟨Nat.le_of_ble_eq_true rfl, Nat.le_of_ble_eq_true rfl⟩) (mk_preS hst hG hK hA hX hS) rfl rfl hl.1 rfl (lv_room (Nat.le_of_ble_eq_true rfl)) dX12_cutName_105 ⟨Nat.le_of_ble_eq_true rfl, Nat.le_of_ble_eq_true rfl⟩) hS (fun q _ h => h) (fun q h => h) (fun r21 G22 t H locs ht hvm hw hB hz1 hk1 hS => ?_)
        have hG : mm D vwCl A G22 H := by rw [← ht]; exact hB
        clear hB hz1 hk1 hvm ht
        obtain ⟨er21, hw⟩ := hw
        rw [hw] at hG
        cases hfd : stF ft a9 (a9 + j) with
        | none =>
          have z9 : r21 = none := by rw [er21]; show (stF ft a9 (a9 + j)).map tk = _; rw [hfd]; rfl
          refine W.eq (g2 := F0 m 108 ls [.null]) (by rw [z9]; rfl) ?_
          refine lv_astoreN (lv' := [(7, .null), (0, .ref k), (1, .ref tx), (2, .int (nI a9)), (3, .int (nI en9)), (4, .long (pkd ft a9 j)), (6, .int (nI (a9 + j)))]) hx hb dX12_cutName_108 hl (by decide) rfl (fun ls hl => ?_)
          refine lv_aload_n hx hb dX12_cutName_110 rfl (lv_at hl 1 rfl) ?_
          refine lv_aloadN hx hb dX12_cutName_111 (lv_at hl 0 rfl) ?_
          refine lv_ifnonnullN hx hb dX12_cutName_113 ?_
          refine va_gets (v := .ref (tk 0)) hx hb (show va_Z "DescribeText$Token" "NAME" "LDescribeText$Token;" (.ref (tk 0)) A s s.heap from (hE.2.1 0 (by decide)).1) hS hown (tb_use hT tw_422) (fun _ h9 => h9) dX12_cutName_116 ?_
          refine lv_goto (tgt := 124) hx hb dX12_cutName_119 (by decide) ?_
          refine lv_iload_n hx hb dX12_cutName_124 rfl (lv_at hl 3 rfl) ?_
          refine lv_lload hx hb dX12_cutName_125 (lv_at hl 5 rfl) ?_
          refine va_callv (va_runV (As := [.ref (tk 0), .int (nI a9), .long (pkd ft a9 j)]) (rest := []) ⟨hx, hb, hml, hown, (fun _ h9 => absurd h9 List.not_mem_nil : ∀ w ∈ ([] : List Cond), w.before _ s = true)⟩ (c_TK_add l D cy A X hst hXT e0 tk hXE Gv k ks ss vs m9 K S V 0 (nI a9) (pkd ft a9 j) hTB (by omega) (by first | decide | assumption)) (tb_cw (C := RX12) 3 hT tw_362 tw_107 tw_359 tw_361 tw_3 rfl rfl hq_X12_add ⟨Nat.le_of_ble_eq_true rfl, Nat.le_of_ble_eq_true rfl⟩) (mk_preC hst hG hK hA hX hS vc_13 v_k) rfl rfl hl.1 rfl (lv_room (Nat.le_of_ble_eq_true rfl)) dX12_cutName_127 ⟨Nat.le_of_ble_eq_true rfl, Nat.le_of_ble_eq_true rfl⟩) hS (fun q _ h => h) (fun q h => h) (fun  G23 t H locs ht hvm hw hB hz1 hk1 hS => ?_)
          have hG : mm D vwCl A G23 H := by rw [← ht]; exact hB
          clear hB hz1 hk1 hvm ht
          obtain ⟨hT2, hf2⟩ := hw
          refine lv_iload hx hb dX12_cutName_130 (lv_at hl 6 rfl) ?_
          have hRF : RF = some j := by rw [← hq]; rfl
          have hz : nmR ft a9 en9 = ((0, nI a9, pkd ft a9 j), a9 + j) := by rw [nmR, hR, hRF]; show (((stF ft a9 (a9 + j)).getD 0, nI a9, pkd ft a9 j), a9 + j) = _; rw [hfd]; rfl
          exact W.iret (v := (nI (a9 + j))) hx hb hr (fun t ht hW => ⟨⟨_, _, rfl, (by rw [hz]; exact ⟨rfl, hT2, hf2⟩), mk_end hG ht⟩, hS.F ht⟩) hS.2.2 dX12_cutName_132
        | some wi =>
          have z9 : r21 = some (tk wi) := by rw [er21]; show (stF ft a9 (a9 + j)).map tk = _; rw [hfd]; rfl
          have hwi := stF_lt hfd
          refine W.eq (g2 := F0 m 108 ls [.ref (tk wi)]) (by rw [z9]; rfl) ?_
          refine lv_astore (lv' := [(7, .ref (tk wi)), (0, .ref k), (1, .ref tx), (2, .int (nI a9)), (3, .int (nI en9)), (4, .long (pkd ft a9 j)), (6, .int (nI (a9 + j)))]) hx hb dX12_cutName_108 hl (by decide) rfl (fun ls hl => ?_)
          refine lv_aload_n hx hb dX12_cutName_110 rfl (lv_at hl 1 rfl) ?_
          refine lv_aload hx hb dX12_cutName_111 (lv_at hl 0 rfl) ?_
          refine lv_ifnonnull (tgt := 122) hx hb dX12_cutName_113 (by decide) ?_
          refine lv_aload hx hb dX12_cutName_122 (lv_at hl 0 rfl) ?_
          refine lv_iload_n hx hb dX12_cutName_124 rfl (lv_at hl 3 rfl) ?_
          refine lv_lload hx hb dX12_cutName_125 (lv_at hl 5 rfl) ?_
          refine va_callv (va_runV (As := [.ref (tk wi), .int (nI a9), .long (pkd ft a9 j)]) (rest := []) ⟨hx, hb, hml, hown, (fun _ h9 => absurd h9 List.not_mem_nil : ∀ w ∈ ([] : List Cond), w.before _ s = true)⟩ (c_TK_add l D cy A X hst hXT e0 tk hXE Gv k ks ss vs m9 K S V wi (nI a9) (pkd ft a9 j) hTB (by omega) (by first | decide | assumption)) (tb_cw (C := RX12) 3 hT tw_362 tw_107 tw_359 tw_361 tw_3 rfl rfl hq_X12_add ⟨Nat.le_of_ble_eq_true rfl, Nat.le_of_ble_eq_true rfl⟩) (mk_preC hst hG hK hA hX hS vc_13 v_k) rfl rfl hl.1 rfl (lv_room (Nat.le_of_ble_eq_true rfl)) dX12_cutName_127 ⟨Nat.le_of_ble_eq_true rfl, Nat.le_of_ble_eq_true rfl⟩) hS (fun q _ h => h) (fun q h => h) (fun  G24 t H locs ht hvm hw hB hz1 hk1 hS => ?_)
          have hG : mm D vwCl A G24 H := by rw [← ht]; exact hB
          clear hB hz1 hk1 hvm ht
          obtain ⟨hT2, hf2⟩ := hw
          refine lv_iload hx hb dX12_cutName_130 (lv_at hl 6 rfl) ?_
          have hRF : RF = some j := by rw [← hq]; rfl
          have hz : nmR ft a9 en9 = ((wi, nI a9, pkd ft a9 j), a9 + j) := by rw [nmR, hR, hRF]; show (((stF ft a9 (a9 + j)).getD 0, nI a9, pkd ft a9 j), a9 + j) = _; rw [hfd]; rfl
          exact W.iret (v := (nI (a9 + j))) hx hb hr (fun t ht hW => ⟨⟨_, _, rfl, (by rw [hz]; exact ⟨rfl, hT2, hf2⟩), mk_end hG ht⟩, hS.F ht⟩) hS.2.2 dX12_cutName_132
      · skip
        exact absurd (by rw [show a9 + j = en9 by omega]; exact Int32.le_refl _) c_9
    | succ n ih =>
      intro j hjn hq hj6 Gv v_k v_tx hGv H locs hG hS ls hl
      have hG9 := hG
      have hS9 := hS
      have hl9 := hl
      subst hGv
      have hG := hG9
      have hS := hS9
      have hl := hl9
      refine lv_iload hx hb dX12_cutName_6 (lv_at hl 5 rfl) ?_
      refine lv_iload_n hx hb dX12_cutName_8 rfl (lv_at hl 3 rfl) ?_
      refine lv_icmp_ge (tgt := 101) hx hb dX12_cutName_9 (by decide) (fun c_9 => ?_) (fun c_9 => ?_)
      · skip
        exact absurd c_9 (nI_ge (by omega) (by omega))
      · skip
        refine lv_aload_n hx hb dX12_cutName_12 rfl (lv_at hl 1 rfl) ?_
        refine lv_iload hx hb dX12_cutName_13 (lv_at hl 5 rfl) ?_
        refine mm_bald hx hb hK hG 0 v_tx rfl (nI_in (c := a9 + j) (N := 2000) (by omega) (by decide)) dX12_cutName_15 ?_
        refine lv_topi (fun x25 ex25 => ?_)
        refine va_calli (va_runS (As := [.int x25]) (rest := []) ⟨hx, hb, hml, hown, (fun _ h9 => absurd h9 List.not_mem_nil : ∀ w ∈ ([] : List Cond), w.before _ s = true)⟩ (c_X12_isLetter l D cy A X hst hXT e0 tk hXE Gv x25) (tb_cs 1 hT tw_345 tw_107 tw_343 tw_344 rfl rfl hq_X12_isLetter ⟨Nat.le_of_ble_eq_true rfl, Nat.le_of_ble_eq_true rfl⟩) (mk_preS hst hG hK hA hX hS) rfl rfl hl.1 rfl (lv_room (Nat.le_of_ble_eq_true rfl)) dX12_cutName_16 ⟨Nat.le_of_ble_eq_true rfl, Nat.le_of_ble_eq_true rfl⟩) hS (fun q _ h => h) (fun q h => h) (fun r26 G27 t H locs ht hvm hw hB hz1 hk1 hS => ?_)
        have hG : mm D vwCl A G27 H := by rw [← ht]; exact hB
        clear hB hz1 hk1 hvm ht
        obtain ⟨er26, hw⟩ := hw
        rw [hw] at hG
        have h19 : r26 = b2i (isLe (ft (a9 + j))) := by rw [er26, ex25, nI_clamp (n := a9 + j) (by omega)]
        refine lv_if_ne (tgt := 32) hx hb dX12_cutName_19 (by decide) (fun c_19 => ?_) (fun c_19 => ?_)
        · skip
          refine lv_iload hx hb dX12_cutName_32 (lv_at hl 5 rfl) ?_
          refine lv_iload_n hx hb dX12_cutName_34 rfl (lv_at hl 2 rfl) ?_
          refine lv_isub hx hb dX12_cutName_35 ?_
          rw [g_subn a9 j]
          refine lv_bipush (v := 12) hx hb dX12_cutName_36 (by decide) ?_
          refine lv_icmp_ne (tgt := 49) hx hb dX12_cutName_38 (by decide) (fun c_38 => ?_) (fun c_38 => ?_)
          · skip
            refine lv_aload_n hx hb dX12_cutName_49 rfl (lv_at hl 1 rfl) ?_
            refine lv_iload hx hb dX12_cutName_50 (lv_at hl 5 rfl) ?_
            refine mm_bald hx hb hK hG 0 v_tx rfl (nI_in (c := a9 + j) (N := 2000) (by omega) (by decide)) dX12_cutName_52 ?_
            refine lv_topi (fun x28 ex28 => ?_)
            refine va_calli (va_runS (As := [.int x28]) (rest := []) ⟨hx, hb, hml, hown, (fun _ h9 => absurd h9 List.not_mem_nil : ∀ w ∈ ([] : List Cond), w.before _ s = true)⟩ (c_X12_isLetter l D cy A X hst hXT e0 tk hXE Gv x28) (tb_cs 1 hT tw_345 tw_107 tw_343 tw_344 rfl rfl hq_X12_isLetter ⟨Nat.le_of_ble_eq_true rfl, Nat.le_of_ble_eq_true rfl⟩) (mk_preS hst hG hK hA hX hS) rfl rfl hl.1 rfl (lv_room (Nat.le_of_ble_eq_true rfl)) dX12_cutName_53 ⟨Nat.le_of_ble_eq_true rfl, Nat.le_of_ble_eq_true rfl⟩) hS (fun q _ h => h) (fun q h => h) (fun r29 G30 t H locs ht hvm hw hB hz1 hk1 hS => ?_)
            have hG : mm D vwCl A G30 H := by rw [← ht]; exact hB
            clear hB hz1 hk1 hvm ht
            obtain ⟨er29, hw⟩ := hw
            rw [hw] at hG
            have h56 : r29 = b2i (isLe (ft (a9 + j))) := by rw [er29, ex28, nI_clamp (n := a9 + j) (by omega)]
            refine lv_if_eq (tgt := 71) hx hb dX12_cutName_56 (by decide) (fun c_56 => ?_) (fun c_56 => ?_)
            · skip
              have bh19 : isLe (ft (a9 + j)) = true := by rw [h19] at c_19; revert c_19; cases isLe (ft (a9 + j)) <;> simp [b2i]
              have bh56 : isLe (ft (a9 + j)) = false := by rw [h56] at c_56; revert c_56; cases isLe (ft (a9 + j)) <;> simp [b2i]
              rw [bh19] at bh56; cases bh56
            · skip
              refine lv_aload_n hx hb dX12_cutName_59 rfl (lv_at hl 1 rfl) ?_
              refine lv_iload hx hb dX12_cutName_60 (lv_at hl 5 rfl) ?_
              refine mm_bald hx hb hK hG 0 v_tx rfl (nI_in (c := a9 + j) (N := 2000) (by omega) (by decide)) dX12_cutName_62 ?_
              refine lv_topi (fun x31 ex31 => ?_)
              refine lv_bipush (v := 97) hx hb dX12_cutName_63 (by decide) ?_
              refine lv_isub hx hb dX12_cutName_65 ?_
              refine lv_iconst (v := 1) hx hb dX12_cutName_66 (by decide) ?_
              refine lv_iadd hx hb dX12_cutName_67 ?_
              refine lv_goto (tgt := 81) hx hb dX12_cutName_68 (by decide) ?_
              refine lv_topi (fun x32 ex32 => ?_)
              refine lv_istore (lv' := [(7, .int x32), (0, .ref k), (1, .ref tx), (2, .int (nI a9)), (3, .int (nI en9)), (4, .long (pkd ft a9 j)), (6, .int (nI (a9 + j)))]) hx hb dX12_cutName_81 hl (by decide) rfl (fun ls hl => ?_)
              refine lv_lload hx hb dX12_cutName_83 (lv_at hl 5 rfl) ?_
              refine lv_ldc2 hx hb hown (tb_use hT tw_363) dX12_cutName_85 ?_
              refine lv_lmul hx hb dX12_cutName_88 ?_
              refine lv_iload hx hb dX12_cutName_89 (lv_at hl 0 rfl) ?_
              obtain ⟨x33, ex33⟩ : ∃ y, y = (x32 : Int32).toInt64 := ⟨_, rfl⟩
              refine lv_i2l (v := x33) hx hb dX12_cutName_91 ex33.symm ?_
              refine lv_ladd hx hb dX12_cutName_92 ?_
              refine lv_topl (fun x34 ex34 => ?_)
              refine lv_lstore (lv' := [(4, .long x34), (7, .int x32), (0, .ref k), (1, .ref tx), (2, .int (nI a9)), (3, .int (nI en9)), (6, .int (nI (a9 + j)))]) hx hb dX12_cutName_93 hl (by decide) rfl (fun ls hl => ?_)
              obtain ⟨x35, ex35⟩ : ∃ y : Int32, y = (nI (a9 + j)) + 1 := ⟨_, rfl⟩
              refine lv_iinc (v := x35) (lv' := [(6, .int x35), (4, .long x34), (7, .int x32), (0, .ref k), (1, .ref tx), (2, .int (nI a9)), (3, .int (nI en9))]) hx hb dX12_cutName_95 hl (k := 6) rfl (by rw [ex35]; rfl) (by decide) rfl (fun ls hl => ?_)
              refine lv_goto (tgt := 6) hx hb dX12_cutName_98 (by decide) ?_
              have bh19 : isLe (ft (a9 + j)) = true := by rw [h19] at c_19; revert c_19; cases isLe (ft (a9 + j)) <;> simp [b2i]
              have hA9 : (isLe (ft (a9 + j)) || isDi (ft (a9 + j))) = true := by rw [bh19]; rfl
              have h12 : ¬ j = 12 := fun z => c_38 (by rw [z]; rfl)
              rw [show x35 = nI (a9 + (j + 1)) by rw [ex35]; exact (nI_succ (a9 + j)).symm] at hl
              rw [show x34 = pkd ft a9 (j + 1) by rw [ex34, ex33, ex32, ex31, nI_clamp (n := a9 + j) (by omega), pkd, sgn, if_pos bh19]] at hl
              have hq2 : cutA ft a9 n (j + 1) = RF := by rw [← hq, cutA, if_pos hA9, if_neg h12]
              exact ih (j + 1) (by omega) hq2 (by omega) Gv v_k v_tx rfl _ _ hG hS ls (lv_sub hl [3, 4, 5, 6, 1, 0] rfl)
          · skip
            refine lv_aload_n hx hb dX12_cutName_41 rfl (lv_at hl 0 rfl) ?_
            refine lv_iload hx hb dX12_cutName_42 (lv_at hl 5 rfl) ?_
            refine lv_iload_n hx hb dX12_cutName_44 rfl (lv_at hl 3 rfl) ?_
            refine va_calli (va_runV (As := [.int (nI (a9 + j)), .int (nI en9)]) (rest := []) ⟨hx, hb, hml, hown, (fun _ h9 => absurd h9 List.not_mem_nil : ∀ w ∈ ([] : List Cond), w.before _ s = true)⟩ (c_X12_stop l D cy A X hst hXT e0 tk hXE Gv k ks ss vs m9 K S V (nI (a9 + j)) (nI en9) hTB (by omega)) (tb_cw (C := RX12) 2 hT tw_356 tw_107 tw_353 tw_355 tw_2 rfl rfl hq_X12_stop ⟨Nat.le_of_ble_eq_true rfl, Nat.le_of_ble_eq_true rfl⟩) (mk_preC hst hG hK hA hX hS vc_13 v_k) rfl rfl hl.1 rfl (lv_room (Nat.le_of_ble_eq_true rfl)) dX12_cutName_45 ⟨Nat.le_of_ble_eq_true rfl, Nat.le_of_ble_eq_true rfl⟩) hS (fun q _ h => h) (fun q h => h) (fun r36 G37 t H locs ht hvm hw hB hz1 hk1 hS => ?_)
            have hG : mm D vwCl A G37 H := by rw [← ht]; exact hB
            clear hB hz1 hk1 hvm ht
            obtain ⟨er36, hT2, hf2⟩ := hw
            have bh19 : isLe (ft (a9 + j)) = true := by rw [h19] at c_19; revert c_19; cases isLe (ft (a9 + j)) <;> simp [b2i]
            have hA9 : (isLe (ft (a9 + j)) || isDi (ft (a9 + j))) = true := by rw [bh19]; rfl
            have h12 : j = 12 := nI_inj (by omega) (by decide) c_38
            have hz : nmR ft a9 en9 = ((3, nI (a9 + j), 0), en9) := by rw [nmR, hR, ← hq, cutA, if_pos hA9, if_pos h12, h12]
            exact W.iret (v := r36) hx hb hr (fun t ht hW => ⟨⟨_, _, rfl, (by rw [hz]; exact ⟨er36, hT2, hf2⟩), mk_end hG ht⟩, hS.F ht⟩) hS.2.2 dX12_cutName_48
        · skip
          refine lv_aload_n hx hb dX12_cutName_22 rfl (lv_at hl 1 rfl) ?_
          refine lv_iload hx hb dX12_cutName_23 (lv_at hl 5 rfl) ?_
          refine mm_bald hx hb hK hG 0 v_tx rfl (nI_in (c := a9 + j) (N := 2000) (by omega) (by decide)) dX12_cutName_25 ?_
          refine lv_topi (fun x38 ex38 => ?_)
          refine va_calli (va_runS (As := [.int x38]) (rest := []) ⟨hx, hb, hml, hown, (fun _ h9 => absurd h9 List.not_mem_nil : ∀ w ∈ ([] : List Cond), w.before _ s = true)⟩ (c_X12_isDigit l D cy A X hst hXT e0 tk hXE Gv x38) (tb_cs 1 hT tw_352 tw_107 tw_350 tw_351 rfl rfl hq_X12_isDigit ⟨Nat.le_of_ble_eq_true rfl, Nat.le_of_ble_eq_true rfl⟩) (mk_preS hst hG hK hA hX hS) rfl rfl hl.1 rfl (lv_room (Nat.le_of_ble_eq_true rfl)) dX12_cutName_26 ⟨Nat.le_of_ble_eq_true rfl, Nat.le_of_ble_eq_true rfl⟩) hS (fun q _ h => h) (fun q h => h) (fun r39 G40 t H locs ht hvm hw hB hz1 hk1 hS => ?_)
          have hG : mm D vwCl A G40 H := by rw [← ht]; exact hB
          clear hB hz1 hk1 hvm ht
          obtain ⟨er39, hw⟩ := hw
          rw [hw] at hG
          have h29 : r39 = b2i (isDi (ft (a9 + j))) := by rw [er39, ex38, nI_clamp (n := a9 + j) (by omega)]
          refine lv_if_eq (tgt := 101) hx hb dX12_cutName_29 (by decide) (fun c_29 => ?_) (fun c_29 => ?_)
          · skip
            refine lv_aload_n hx hb dX12_cutName_101 rfl (lv_at hl 1 rfl) ?_
            refine lv_iload_n hx hb dX12_cutName_102 rfl (lv_at hl 2 rfl) ?_
            refine lv_iload hx hb dX12_cutName_103 (lv_at hl 5 rfl) ?_
            refine va_callq (va_runS (As := [.ref tx, .int (nI a9), .int (nI (a9 + j))]) (rest := []) ⟨hx, hb, hml, hown, (fun _ h9 => absurd h9 List.not_mem_nil : ∀ w ∈ ([] : List Cond), w.before _ s = true)⟩ (c_X11_standing l D cy A X hst hXT e0 tk hXE mi hXL ax adK adV hXX Gv tx a9 (a9 + j) ft v_tx (by omega) (by omega)) (tb_cs 3 hT tw_366 tw_116 tw_364 tw_365 rfl rfl hq_X11_standing ⟨Nat.le_of_ble_eq_true rfl, Nat.le_of_ble_eq_true rfl⟩) (mk_preS hst hG hK hA hX hS) rfl rfl hl.1 rfl (lv_room (Nat.le_of_ble_eq_true rfl)) dX12_cutName_105 ⟨Nat.le_of_ble_eq_true rfl, Nat.le_of_ble_eq_true rfl⟩) hS (fun q _ h => h) (fun q h => h) (fun r41 G42 t H locs ht hvm hw hB hz1 hk1 hS => ?_)
            have hG : mm D vwCl A G42 H := by rw [← ht]; exact hB
            clear hB hz1 hk1 hvm ht
            obtain ⟨er41, hw⟩ := hw
            rw [hw] at hG
            cases hfd : stF ft a9 (a9 + j) with
            | none =>
              have z9 : r41 = none := by rw [er41]; show (stF ft a9 (a9 + j)).map tk = _; rw [hfd]; rfl
              refine W.eq (g2 := F0 m 108 ls [.null]) (by rw [z9]; rfl) ?_
              refine lv_astoreN (lv' := [(7, .null), (0, .ref k), (1, .ref tx), (2, .int (nI a9)), (3, .int (nI en9)), (4, .long (pkd ft a9 j)), (6, .int (nI (a9 + j)))]) hx hb dX12_cutName_108 hl (by decide) rfl (fun ls hl => ?_)
              refine lv_aload_n hx hb dX12_cutName_110 rfl (lv_at hl 1 rfl) ?_
              refine lv_aloadN hx hb dX12_cutName_111 (lv_at hl 0 rfl) ?_
              refine lv_ifnonnullN hx hb dX12_cutName_113 ?_
              refine va_gets (v := .ref (tk 0)) hx hb (show va_Z "DescribeText$Token" "NAME" "LDescribeText$Token;" (.ref (tk 0)) A s s.heap from (hE.2.1 0 (by decide)).1) hS hown (tb_use hT tw_422) (fun _ h9 => h9) dX12_cutName_116 ?_
              refine lv_goto (tgt := 124) hx hb dX12_cutName_119 (by decide) ?_
              refine lv_iload_n hx hb dX12_cutName_124 rfl (lv_at hl 3 rfl) ?_
              refine lv_lload hx hb dX12_cutName_125 (lv_at hl 5 rfl) ?_
              refine va_callv (va_runV (As := [.ref (tk 0), .int (nI a9), .long (pkd ft a9 j)]) (rest := []) ⟨hx, hb, hml, hown, (fun _ h9 => absurd h9 List.not_mem_nil : ∀ w ∈ ([] : List Cond), w.before _ s = true)⟩ (c_TK_add l D cy A X hst hXT e0 tk hXE Gv k ks ss vs m9 K S V 0 (nI a9) (pkd ft a9 j) hTB (by omega) (by first | decide | assumption)) (tb_cw (C := RX12) 3 hT tw_362 tw_107 tw_359 tw_361 tw_3 rfl rfl hq_X12_add ⟨Nat.le_of_ble_eq_true rfl, Nat.le_of_ble_eq_true rfl⟩) (mk_preC hst hG hK hA hX hS vc_13 v_k) rfl rfl hl.1 rfl (lv_room (Nat.le_of_ble_eq_true rfl)) dX12_cutName_127 ⟨Nat.le_of_ble_eq_true rfl, Nat.le_of_ble_eq_true rfl⟩) hS (fun q _ h => h) (fun q h => h) (fun  G43 t H locs ht hvm hw hB hz1 hk1 hS => ?_)
              have hG : mm D vwCl A G43 H := by rw [← ht]; exact hB
              clear hB hz1 hk1 hvm ht
              obtain ⟨hT2, hf2⟩ := hw
              refine lv_iload hx hb dX12_cutName_130 (lv_at hl 6 rfl) ?_
              have bh19 : isLe (ft (a9 + j)) = false := by rw [h19] at c_19; revert c_19; cases isLe (ft (a9 + j)) <;> simp [b2i]
              have bh29 : isDi (ft (a9 + j)) = false := by rw [h29] at c_29; revert c_29; cases isDi (ft (a9 + j)) <;> simp [b2i]
              have hRF : RF = some j := by rw [← hq, cutA, if_neg (by rw [bh19, bh29]; decide)]
              have hz : nmR ft a9 en9 = ((0, nI a9, pkd ft a9 j), a9 + j) := by rw [nmR, hR, hRF]; show (((stF ft a9 (a9 + j)).getD 0, nI a9, pkd ft a9 j), a9 + j) = _; rw [hfd]; rfl
              exact W.iret (v := (nI (a9 + j))) hx hb hr (fun t ht hW => ⟨⟨_, _, rfl, (by rw [hz]; exact ⟨rfl, hT2, hf2⟩), mk_end hG ht⟩, hS.F ht⟩) hS.2.2 dX12_cutName_132
            | some wi =>
              have z9 : r41 = some (tk wi) := by rw [er41]; show (stF ft a9 (a9 + j)).map tk = _; rw [hfd]; rfl
              have hwi := stF_lt hfd
              refine W.eq (g2 := F0 m 108 ls [.ref (tk wi)]) (by rw [z9]; rfl) ?_
              refine lv_astore (lv' := [(7, .ref (tk wi)), (0, .ref k), (1, .ref tx), (2, .int (nI a9)), (3, .int (nI en9)), (4, .long (pkd ft a9 j)), (6, .int (nI (a9 + j)))]) hx hb dX12_cutName_108 hl (by decide) rfl (fun ls hl => ?_)
              refine lv_aload_n hx hb dX12_cutName_110 rfl (lv_at hl 1 rfl) ?_
              refine lv_aload hx hb dX12_cutName_111 (lv_at hl 0 rfl) ?_
              refine lv_ifnonnull (tgt := 122) hx hb dX12_cutName_113 (by decide) ?_
              refine lv_aload hx hb dX12_cutName_122 (lv_at hl 0 rfl) ?_
              refine lv_iload_n hx hb dX12_cutName_124 rfl (lv_at hl 3 rfl) ?_
              refine lv_lload hx hb dX12_cutName_125 (lv_at hl 5 rfl) ?_
              refine va_callv (va_runV (As := [.ref (tk wi), .int (nI a9), .long (pkd ft a9 j)]) (rest := []) ⟨hx, hb, hml, hown, (fun _ h9 => absurd h9 List.not_mem_nil : ∀ w ∈ ([] : List Cond), w.before _ s = true)⟩ (c_TK_add l D cy A X hst hXT e0 tk hXE Gv k ks ss vs m9 K S V wi (nI a9) (pkd ft a9 j) hTB (by omega) (by first | decide | assumption)) (tb_cw (C := RX12) 3 hT tw_362 tw_107 tw_359 tw_361 tw_3 rfl rfl hq_X12_add ⟨Nat.le_of_ble_eq_true rfl, Nat.le_of_ble_eq_true rfl⟩) (mk_preC hst hG hK hA hX hS vc_13 v_k) rfl rfl hl.1 rfl (lv_room (Nat.le_of_ble_eq_true rfl)) dX12_cutName_127 ⟨Nat.le_of_ble_eq_true rfl, Nat.le_of_ble_eq_true rfl⟩) hS (fun q _ h => h) (fun q h => h) (fun  G44 t H locs ht hvm hw hB hz1 hk1 hS => ?_)
              have hG : mm D vwCl A G44 H := by rw [← ht]; exact hB
              clear hB hz1 hk1 hvm ht
              obtain ⟨hT2, hf2⟩ := hw
              refine lv_iload hx hb dX12_cutName_130 (lv_at hl 6 rfl) ?_
              have bh19 : isLe (ft (a9 + j)) = false := by rw [h19] at c_19; revert c_19; cases isLe (ft (a9 + j)) <;> simp [b2i]
              have bh29 : isDi (ft (a9 + j)) = false := by rw [h29] at c_29; revert c_29; cases isDi (ft (a9 + j)) <;> simp [b2i]
              have hRF : RF = some j := by rw [← hq, cutA, if_neg (by rw [bh19, bh29]; decide)]
              have hz : nmR ft a9 en9 = ((wi, nI a9, pkd ft a9 j), a9 + j) := by rw [nmR, hR, hRF]; show (((stF ft a9 (a9 + j)).getD 0, nI a9, pkd ft a9 j), a9 + j) = _; rw [hfd]; rfl
              exact W.iret (v := (nI (a9 + j))) hx hb hr (fun t ht hW => ⟨⟨_, _, rfl, (by rw [hz]; exact ⟨rfl, hT2, hf2⟩), mk_end hG ht⟩, hS.F ht⟩) hS.2.2 dX12_cutName_132
          · skip
            refine lv_iload hx hb dX12_cutName_32 (lv_at hl 5 rfl) ?_
            refine lv_iload_n hx hb dX12_cutName_34 rfl (lv_at hl 2 rfl) ?_
            refine lv_isub hx hb dX12_cutName_35 ?_
            rw [g_subn a9 j]
            refine lv_bipush (v := 12) hx hb dX12_cutName_36 (by decide) ?_
            refine lv_icmp_ne (tgt := 49) hx hb dX12_cutName_38 (by decide) (fun c_38 => ?_) (fun c_38 => ?_)
            · skip
              refine lv_aload_n hx hb dX12_cutName_49 rfl (lv_at hl 1 rfl) ?_
              refine lv_iload hx hb dX12_cutName_50 (lv_at hl 5 rfl) ?_
              refine mm_bald hx hb hK hG 0 v_tx rfl (nI_in (c := a9 + j) (N := 2000) (by omega) (by decide)) dX12_cutName_52 ?_
              refine lv_topi (fun x45 ex45 => ?_)
              refine va_calli (va_runS (As := [.int x45]) (rest := []) ⟨hx, hb, hml, hown, (fun _ h9 => absurd h9 List.not_mem_nil : ∀ w ∈ ([] : List Cond), w.before _ s = true)⟩ (c_X12_isLetter l D cy A X hst hXT e0 tk hXE Gv x45) (tb_cs 1 hT tw_345 tw_107 tw_343 tw_344 rfl rfl hq_X12_isLetter ⟨Nat.le_of_ble_eq_true rfl, Nat.le_of_ble_eq_true rfl⟩) (mk_preS hst hG hK hA hX hS) rfl rfl hl.1 rfl (lv_room (Nat.le_of_ble_eq_true rfl)) dX12_cutName_53 ⟨Nat.le_of_ble_eq_true rfl, Nat.le_of_ble_eq_true rfl⟩) hS (fun q _ h => h) (fun q h => h) (fun r46 G47 t H locs ht hvm hw hB hz1 hk1 hS => ?_)
              have hG : mm D vwCl A G47 H := by rw [← ht]; exact hB
              clear hB hz1 hk1 hvm ht
              obtain ⟨er46, hw⟩ := hw
              rw [hw] at hG
              have h56 : r46 = b2i (isLe (ft (a9 + j))) := by rw [er46, ex45, nI_clamp (n := a9 + j) (by omega)]
              refine lv_if_eq (tgt := 71) hx hb dX12_cutName_56 (by decide) (fun c_56 => ?_) (fun c_56 => ?_)
              · skip
                refine lv_aload_n hx hb dX12_cutName_71 rfl (lv_at hl 1 rfl) ?_
                refine lv_iload hx hb dX12_cutName_72 (lv_at hl 5 rfl) ?_
                refine mm_bald hx hb hK hG 0 v_tx rfl (nI_in (c := a9 + j) (N := 2000) (by omega) (by decide)) dX12_cutName_74 ?_
                refine lv_topi (fun x48 ex48 => ?_)
                refine lv_bipush (v := 48) hx hb dX12_cutName_75 (by decide) ?_
                refine lv_isub hx hb dX12_cutName_77 ?_
                refine lv_bipush (v := 27) hx hb dX12_cutName_78 (by decide) ?_
                refine lv_iadd hx hb dX12_cutName_80 ?_
                refine lv_topi (fun x49 ex49 => ?_)
                refine lv_istore (lv' := [(7, .int x49), (0, .ref k), (1, .ref tx), (2, .int (nI a9)), (3, .int (nI en9)), (4, .long (pkd ft a9 j)), (6, .int (nI (a9 + j)))]) hx hb dX12_cutName_81 hl (by decide) rfl (fun ls hl => ?_)
                refine lv_lload hx hb dX12_cutName_83 (lv_at hl 5 rfl) ?_
                refine lv_ldc2 hx hb hown (tb_use hT tw_363) dX12_cutName_85 ?_
                refine lv_lmul hx hb dX12_cutName_88 ?_
                refine lv_iload hx hb dX12_cutName_89 (lv_at hl 0 rfl) ?_
                obtain ⟨x50, ex50⟩ : ∃ y, y = (x49 : Int32).toInt64 := ⟨_, rfl⟩
                refine lv_i2l (v := x50) hx hb dX12_cutName_91 ex50.symm ?_
                refine lv_ladd hx hb dX12_cutName_92 ?_
                refine lv_topl (fun x51 ex51 => ?_)
                refine lv_lstore (lv' := [(4, .long x51), (7, .int x49), (0, .ref k), (1, .ref tx), (2, .int (nI a9)), (3, .int (nI en9)), (6, .int (nI (a9 + j)))]) hx hb dX12_cutName_93 hl (by decide) rfl (fun ls hl => ?_)
                obtain ⟨x52, ex52⟩ : ∃ y : Int32, y = (nI (a9 + j)) + 1 := ⟨_, rfl⟩
                refine lv_iinc (v := x52) (lv' := [(6, .int x52), (4, .long x51), (7, .int x49), (0, .ref k), (1, .ref tx), (2, .int (nI a9)), (3, .int (nI en9))]) hx hb dX12_cutName_95 hl (k := 6) rfl (by rw [ex52]; rfl) (by decide) rfl (fun ls hl => ?_)
                refine lv_goto (tgt := 6) hx hb dX12_cutName_98 (by decide) ?_
                have bh19 : isLe (ft (a9 + j)) = false := by rw [h19] at c_19; revert c_19; cases isLe (ft (a9 + j)) <;> simp [b2i]
                have bh29 : isDi (ft (a9 + j)) = true := by rw [h29] at c_29; revert c_29; cases isDi (ft (a9 + j)) <;> simp [b2i]
                have hA9 : (isLe (ft (a9 + j)) || isDi (ft (a9 + j))) = true := by rw [bh19, bh29]; rfl
                have h12 : ¬ j = 12 := fun z => c_38 (by rw [z]; rfl)
                rw [show x52 = nI (a9 + (j + 1)) by rw [ex52]; exact (nI_succ (a9 + j)).symm] at hl
                rw [show x51 = pkd ft a9 (j + 1) by rw [ex51, ex50, ex49, ex48, nI_clamp (n := a9 + j) (by omega), pkd, sgn, if_neg (by rw [bh19]; decide)]] at hl
                have hq2 : cutA ft a9 n (j + 1) = RF := by rw [← hq, cutA, if_pos hA9, if_neg h12]
                exact ih (j + 1) (by omega) hq2 (by omega) Gv v_k v_tx rfl _ _ hG hS ls (lv_sub hl [3, 4, 5, 6, 1, 0] rfl)
              · skip
                have bh19 : isLe (ft (a9 + j)) = false := by rw [h19] at c_19; revert c_19; cases isLe (ft (a9 + j)) <;> simp [b2i]
                have bh56 : isLe (ft (a9 + j)) = true := by rw [h56] at c_56; revert c_56; cases isLe (ft (a9 + j)) <;> simp [b2i]
                rw [bh19] at bh56; cases bh56
            · skip
              refine lv_aload_n hx hb dX12_cutName_41 rfl (lv_at hl 0 rfl) ?_
              refine lv_iload hx hb dX12_cutName_42 (lv_at hl 5 rfl) ?_
              refine lv_iload_n hx hb dX12_cutName_44 rfl (lv_at hl 3 rfl) ?_
              refine va_calli (va_runV (As := [.int (nI (a9 + j)), .int (nI en9)]) (rest := []) ⟨hx, hb, hml, hown, (fun _ h9 => absurd h9 List.not_mem_nil : ∀ w ∈ ([] : List Cond), w.before _ s = true)⟩ (c_X12_stop l D cy A X hst hXT e0 tk hXE Gv k ks ss vs m9 K S V (nI (a9 + j)) (nI en9) hTB (by omega)) (tb_cw (C := RX12) 2 hT tw_356 tw_107 tw_353 tw_355 tw_2 rfl rfl hq_X12_stop ⟨Nat.le_of_ble_eq_true rfl, Nat.le_of_ble_eq_true rfl⟩) (mk_preC hst hG hK hA hX hS vc_13 v_k) rfl rfl hl.1 rfl (lv_room (Nat.le_of_ble_eq_true rfl)) dX12_cutName_45 ⟨Nat.le_of_ble_eq_true rfl, Nat.le_of_ble_eq_true rfl⟩) hS (fun q _ h => h) (fun q h => h) (fun r53 G54 t H locs ht hvm hw hB hz1 hk1 hS => ?_)
              have hG : mm D vwCl A G54 H := by rw [← ht]; exact hB
              clear hB hz1 hk1 hvm ht
              obtain ⟨er53, hT2, hf2⟩ := hw
              have bh19 : isLe (ft (a9 + j)) = false := by rw [h19] at c_19; revert c_19; cases isLe (ft (a9 + j)) <;> simp [b2i]
              have bh29 : isDi (ft (a9 + j)) = true := by rw [h29] at c_29; revert c_29; cases isDi (ft (a9 + j)) <;> simp [b2i]
              have hA9 : (isLe (ft (a9 + j)) || isDi (ft (a9 + j))) = true := by rw [bh19, bh29]; rfl
              have h12 : j = 12 := nI_inj (by omega) (by decide) c_38
              have hz : nmR ft a9 en9 = ((3, nI (a9 + j), 0), en9) := by rw [nmR, hR, ← hq, cutA, if_pos hA9, if_pos h12, h12]
              exact W.iret (v := r53) hx hb hr (fun t ht hW => ⟨⟨_, _, rfl, (by rw [hz]; exact ⟨er53, hT2, hf2⟩), mk_end hG ht⟩, hS.F ht⟩) hS.2.2 dX12_cutName_48
  refine lv_lconst (v := 0) hx hb dX12_cutName_0 (by decide) ?_
  refine lv_lstore (lv' := [(4, .long 0), (0, .ref k), (1, .ref tx), (2, .int (nI a9)), (3, .int (nI en9))]) hx hb dX12_cutName_1 hl (by decide) rfl (fun ls hl => ?_)
  refine lv_iload_n hx hb dX12_cutName_3 rfl (lv_at hl 3 rfl) ?_
  refine lv_istore (lv' := [(6, .int (nI a9)), (4, .long 0), (0, .ref k), (1, .ref tx), (2, .int (nI a9)), (3, .int (nI en9))]) hx hb dX12_cutName_4 hl (by decide) rfl (fun ls hl => ?_)
  exact hloop (en9 - a9) 0 (by omega) hR (by omega) G hk htx rfl _ _ hG hS ls (lv_sub hl [2, 3, 4, 5, 1, 0] rfl)
