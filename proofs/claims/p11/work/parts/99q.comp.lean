set_option maxHeartbeats 4000000 in
set_option maxRecDepth 100000 in
theorem c_Q_coding (l : Launch) (D : va_G) (cy : Nat → ClassId) (A : Nat → Prop) (X : State → Prop) (hst : mk_St A X) (hXT : ∀ U : State, X U → TB U) (e0 : Nat) (tk : Nat → Nat) (hXE : ∀ U : State, X U → ES e0 tk A U) (mi : Nat) (hXL : ∀ U : State, X U → EL e0 mi A U) (ax adK adV : Nat → Nat) (hXX : ∀ U : State, X U → TX ax adK adV tk A U) (G : Nat → Option va_E) (G0 : Nat → Option va_E) (Bx : Nat → Prop) (v : EdV) (z : PtV) (LA EA : Nat → Nat) (AD : Nat → Nat → Nat) (PI : Nat → Nat) (G1 : Nat → Option va_E) (By : Nat → Prop) (v2 : EdV) (z2 : PtV) (LA2 EA2 : Nat → Nat) (AD2 : Nat → Nat → Nat) (PI2 : Nat → Nat) (k9 u9 : Nat) (hP : EDP cy e0 tk G0 Bx G v z LA EA AD PI) (hZ : ZF v AD z) (hP2 : EDP cy e0 tk G1 By G v2 z2 LA2 EA2 AD2 PI2) (hZ2 : ZF v2 AD2 z2) (hk9 : k9 < v.nC) (hu9 : u9 < v2.nC) : Met l yX1_isLike [.code yX1_isLike cX1_isLike 6 (some .boolean)] ({ frames := 3, cells := 0, slots := 0, locals := 90 }) (mk_Pre D vwCl (tyL cy) A X G [.ref (AD 0 k9), .ref (AD2 0 u9)]) (va_Qi (fun (r : Int32) (G2 : Nat → Option va_E) => (r = 0 ∨ r = 1) ∧ G2 = G) (mk_B D vwCl A) A) 0 0 A := by
  refine Met.ofW (cc := cX1_isLike) (maxL := 6) (ret := (some .boolean)) (by decide) rfl ?_
  intro p e s m args below meth c s₁ B hml hv
  obtain ⟨rfl, hG, hK, hA, hX⟩ := hv
  have hx := B.exec
  have hb := B.bytes
  have hr := B.returns
  have hlocks := B.notSynchronized
  have hT := hXT s hX
  have hown : s.vm.findClass RX1 = some m.cls := findClass_of_methodNamed B.named
  have hf_X1 : ∀ w ∈ u_ws RX1 TX1 10, w.before ([.ref (AD 0 k9), .ref (AD2 0 u9)] : List Value).toArray s = true := tb_list hT fX1
  have hf_X3 : ∀ w ∈ u_ws RX3 TX3 5, w.before ([.ref (AD 0 k9), .ref (AD2 0 u9)] : List Value).toArray s = true := tb_list hT fX3
  have hS : va_S A s.heap s.heap [] := va_S.rf
  have hE := hXE s hX
  have hl := lv_entry ([.ref (AD 0 k9), .ref (AD2 0 u9)]) (n := 6) (Nat.le_of_ble_eq_true rfl)
  rw [lg_entry_eq]
  generalize (lg_sl ([.ref (AD 0 k9), .ref (AD2 0 u9)]) ++ List.replicate (6 - (lg_sl ([.ref (AD 0 k9), .ref (AD2 0 u9)])).length) Slot.unset).toArray = ls at hl ⊢
  have hl : lv_has ls 6 [(0, .ref (AD 0 k9)), (1, .ref (AD2 0 u9))] := hl
  have hQ := hXX s hX
  have hb1 := (hP.lsR hk9).le
  have hb2 := (hP2.lsR hu9).le
  have hloop : ∀ (n : Nat) (j9 : Nat) (lk : Int32), (n + j9 = (v.nR k9)) → (lk = 0 ∨ lk = 1) → ∀ (Gv : Nat → Option va_E), (Gv = G) → ∀ (H : Heap) (locs : List Loc), mm D vwCl A Gv H → va_S A s.heap H locs → ∀ ls : Array Slot, lv_has ls 6 [(0, .ref (AD 0 k9)), (1, .ref (AD2 0 u9)), (2, .int lk), (3, .int (nI j9))] → W p l e (headSpec [.code yX1_isLike cX1_isLike 6 (some .boolean)] ({ frames := 3, cells := 0, slots := 0, locals := 90 })).room s m ([.ref (AD 0 k9), .ref (AD2 0 u9)] : List Value).toArray below meth c H locs 0 0 (MQ below (va_Qi (fun (r : Int32) (G2 : Nat → Option va_E) => (r = 0 ∨ r = 1) ∧ G2 = G) (mk_B D vwCl A) A) ([.ref (AD 0 k9), .ref (AD2 0 u9)] : List Value).toArray s 0 0 A) (F0 m 98 ls []) := by
    intro n
    induction n with
    | zero =>
      intro j9 lk hjn hlk Gv hGv H locs hG hS ls hl
      have hG9 := hG
      have hS9 := hS
      have hl9 := hl
      subst hGv
      have hG := hG9
      have hS := hS9
      have hl := hl9
      have hb1 := (hP.lsR hk9).le
      have hb2 := (hP2.lsR hu9).le
      refine lv_iload_n hx hb dX1_isLike_98 rfl (lv_at hl 2 rfl) ?_
      refine lv_if_eq (tgt := 189) hx hb dX1_isLike_99 (by decide) (fun c_99 => ?_) (fun c_99 => ?_)
      · skip
        refine lv_iload_n hx hb dX1_isLike_189 rfl (lv_at hl 2 rfl) ?_
        exact W.zret (v := lk) hx hb hr (by rcases hlk with z | z <;> rw [z] <;> rfl) (fun t ht hW => ⟨⟨_, _, rfl, ⟨hlk, rfl⟩, mk_end hG ht⟩, hS.F ht⟩) hS.2.2 dX1_isLike_190
      · skip
        refine lv_iload_n hx hb dX1_isLike_102 rfl (lv_at hl 3 rfl) ?_
        refine lv_aload_n hx hb dX1_isLike_103 rfl (lv_at hl 0 rfl) ?_
        have k21 : Gv (AD 0 k9) = some (.inr (2, [.int (nI (k9 + 1)), .int ((v.C k9).1.1), .long ((v.C k9).1.2.1), .ref (LA (6 + k9)), .int ((v.C k9).1.2.2), .int ((v.C k9).2.1), .int ((v.C k9).2.2.1), .long ((v.C k9).2.2.2.1), .long ((v.C k9).2.2.2.2.1), .long ((v.C k9).2.2.2.2.2)])) := hP.elC hk9
        refine mm_get (v := .ref (LA (6 + k9))) hx hb hf_X1 (fun _ h9 => h9) hown hK hG k21 rfl 3 (by decide) (tb_use hT tw_497) (fun _ h9 => h9) rfl dX1_isLike_104 ?_
        obtain ⟨mo22, h_mo22, -⟩ := id (hP.lsR hk9)
        refine va_calli (va_runV (As := []) (rest := [.int (nI j9)]) ⟨hx, hb, hml, hown, (fun _ h9 => absurd h9 List.not_mem_nil : ∀ w ∈ ([] : List Cond), w.before _ s = true)⟩ (c_LS_size l D cy A X hst hXT e0 tk hXE mi hXL Gv (LA (6 + k9)) (EA (6 + k9)) (v.nR k9) (AD (6 + k9)) (hP.lsR hk9)) (tb_cw (C := RJx4a65c) 0 hT tw_457 tw_113 tw_1302 tw_455 tw_456 rfl rfl hq_Jx4a65c_size_8abf5 ⟨Nat.le_of_ble_eq_true rfl, Nat.le_of_ble_eq_true rfl⟩) (mk_preC hst hG hK hA hX hS vc_1 h_mo22) rfl rfl hl.1 rfl (lv_room (Nat.le_of_ble_eq_true rfl)) dX1_isLike_107 ⟨Nat.le_of_ble_eq_true rfl, Nat.le_of_ble_eq_true rfl⟩) hS (fun q _ h => h) (fun q h => h) (fun r23 G24 t H locs ht hvm hw hB hz1 hk1 hS => ?_)
        have hG : mm D vwCl A G24 H := by rw [← ht]; exact hB
        clear hB hz1 hk1 hvm ht
        obtain ⟨rfl, hw⟩ := hw
        rw [hw] at hG
        refine lv_icmp_ge (tgt := 189) hx hb dX1_isLike_110 (by decide) (fun c_110 => ?_) (fun c_110 => ?_)
        · skip
          refine lv_iload_n hx hb dX1_isLike_189 rfl (lv_at hl 2 rfl) ?_
          exact W.zret (v := lk) hx hb hr (by rcases hlk with z | z <;> rw [z] <;> rfl) (fun t ht hW => ⟨⟨_, _, rfl, ⟨hlk, rfl⟩, mk_end hG ht⟩, hS.F ht⟩) hS.2.2 dX1_isLike_190
        · skip
          exact absurd (by rw [show j9 = (v.nR k9) by omega]; exact Int32.le_refl _) c_110
    | succ n ih =>
      intro j9 lk hjn hlk Gv hGv H locs hG hS ls hl
      have hG9 := hG
      have hS9 := hS
      have hl9 := hl
      subst hGv
      have hG := hG9
      have hS := hS9
      have hl := hl9
      have hb1 := (hP.lsR hk9).le
      have hb2 := (hP2.lsR hu9).le
      refine lv_iload_n hx hb dX1_isLike_98 rfl (lv_at hl 2 rfl) ?_
      refine lv_if_eq (tgt := 189) hx hb dX1_isLike_99 (by decide) (fun c_99 => ?_) (fun c_99 => ?_)
      · skip
        refine lv_iload_n hx hb dX1_isLike_189 rfl (lv_at hl 2 rfl) ?_
        exact W.zret (v := lk) hx hb hr (by rcases hlk with z | z <;> rw [z] <;> rfl) (fun t ht hW => ⟨⟨_, _, rfl, ⟨hlk, rfl⟩, mk_end hG ht⟩, hS.F ht⟩) hS.2.2 dX1_isLike_190
      · skip
        refine lv_iload_n hx hb dX1_isLike_102 rfl (lv_at hl 3 rfl) ?_
        refine lv_aload_n hx hb dX1_isLike_103 rfl (lv_at hl 0 rfl) ?_
        have k25 : Gv (AD 0 k9) = some (.inr (2, [.int (nI (k9 + 1)), .int ((v.C k9).1.1), .long ((v.C k9).1.2.1), .ref (LA (6 + k9)), .int ((v.C k9).1.2.2), .int ((v.C k9).2.1), .int ((v.C k9).2.2.1), .long ((v.C k9).2.2.2.1), .long ((v.C k9).2.2.2.2.1), .long ((v.C k9).2.2.2.2.2)])) := hP.elC hk9
        refine mm_get (v := .ref (LA (6 + k9))) hx hb hf_X1 (fun _ h9 => h9) hown hK hG k25 rfl 3 (by decide) (tb_use hT tw_497) (fun _ h9 => h9) rfl dX1_isLike_104 ?_
        obtain ⟨mo26, h_mo26, -⟩ := id (hP.lsR hk9)
        refine va_calli (va_runV (As := []) (rest := [.int (nI j9)]) ⟨hx, hb, hml, hown, (fun _ h9 => absurd h9 List.not_mem_nil : ∀ w ∈ ([] : List Cond), w.before _ s = true)⟩ (c_LS_size l D cy A X hst hXT e0 tk hXE mi hXL Gv (LA (6 + k9)) (EA (6 + k9)) (v.nR k9) (AD (6 + k9)) (hP.lsR hk9)) (tb_cw (C := RJx4a65c) 0 hT tw_457 tw_113 tw_1302 tw_455 tw_456 rfl rfl hq_Jx4a65c_size_8abf5 ⟨Nat.le_of_ble_eq_true rfl, Nat.le_of_ble_eq_true rfl⟩) (mk_preC hst hG hK hA hX hS vc_1 h_mo26) rfl rfl hl.1 rfl (lv_room (Nat.le_of_ble_eq_true rfl)) dX1_isLike_107 ⟨Nat.le_of_ble_eq_true rfl, Nat.le_of_ble_eq_true rfl⟩) hS (fun q _ h => h) (fun q h => h) (fun r27 G28 t H locs ht hvm hw hB hz1 hk1 hS => ?_)
        have hG : mm D vwCl A G28 H := by rw [← ht]; exact hB
        clear hB hz1 hk1 hvm ht
        obtain ⟨rfl, hw⟩ := hw
        rw [hw] at hG
        refine lv_icmp_ge (tgt := 189) hx hb dX1_isLike_110 (by decide) (fun c_110 => ?_) (fun c_110 => ?_)
        · skip
          exact absurd c_110 (nI_ge (by omega) (by omega))
        · skip
          refine lv_iload_n hx hb dX1_isLike_113 rfl (lv_at hl 3 rfl) ?_
          refine lv_aload_n hx hb dX1_isLike_114 rfl (lv_at hl 1 rfl) ?_
          have k29 : Gv (AD2 0 u9) = some (.inr (2, [.int (nI (u9 + 1)), .int ((v2.C u9).1.1), .long ((v2.C u9).1.2.1), .ref (LA2 (6 + u9)), .int ((v2.C u9).1.2.2), .int ((v2.C u9).2.1), .int ((v2.C u9).2.2.1), .long ((v2.C u9).2.2.2.1), .long ((v2.C u9).2.2.2.2.1), .long ((v2.C u9).2.2.2.2.2)])) := hP2.elC hu9
          refine mm_get (v := .ref (LA2 (6 + u9))) hx hb hf_X1 (fun _ h9 => h9) hown hK hG k29 rfl 3 (by decide) (tb_use hT tw_497) (fun _ h9 => h9) rfl dX1_isLike_115 ?_
          obtain ⟨mo30, h_mo30, -⟩ := id (hP2.lsR hu9)
          refine va_calli (va_runV (As := []) (rest := [.int (nI j9)]) ⟨hx, hb, hml, hown, (fun _ h9 => absurd h9 List.not_mem_nil : ∀ w ∈ ([] : List Cond), w.before _ s = true)⟩ (c_LS_size l D cy A X hst hXT e0 tk hXE mi hXL Gv (LA2 (6 + u9)) (EA2 (6 + u9)) (v2.nR u9) (AD2 (6 + u9)) (hP2.lsR hu9)) (tb_cw (C := RJx4a65c) 0 hT tw_457 tw_113 tw_1302 tw_455 tw_456 rfl rfl hq_Jx4a65c_size_8abf5 ⟨Nat.le_of_ble_eq_true rfl, Nat.le_of_ble_eq_true rfl⟩) (mk_preC hst hG hK hA hX hS vc_1 h_mo30) rfl rfl hl.1 rfl (lv_room (Nat.le_of_ble_eq_true rfl)) dX1_isLike_118 ⟨Nat.le_of_ble_eq_true rfl, Nat.le_of_ble_eq_true rfl⟩) hS (fun q _ h => h) (fun q h => h) (fun r31 G32 t H locs ht hvm hw hB hz1 hk1 hS => ?_)
          have hG : mm D vwCl A G32 H := by rw [← ht]; exact hB
          clear hB hz1 hk1 hvm ht
          obtain ⟨rfl, hw⟩ := hw
          rw [hw] at hG
          refine lv_icmp_ge (tgt := 189) hx hb dX1_isLike_121 (by decide) (fun c_121 => ?_) (fun c_121 => ?_)
          · skip
            refine lv_iload_n hx hb dX1_isLike_189 rfl (lv_at hl 2 rfl) ?_
            exact W.zret (v := lk) hx hb hr (by rcases hlk with z | z <;> rw [z] <;> rfl) (fun t ht hW => ⟨⟨_, _, rfl, ⟨hlk, rfl⟩, mk_end hG ht⟩, hS.F ht⟩) hS.2.2 dX1_isLike_190
          · skip
            have hlt1 : j9 < (v.nR k9) := nI_lt_of (by omega) (by omega) c_110
            have hlt2 : j9 < (v2.nR u9) := nI_lt_of (by omega) (by omega) c_121
            refine lv_aload_n hx hb dX1_isLike_124 rfl (lv_at hl 0 rfl) ?_
            refine mm_get (v := .ref (LA (6 + k9))) hx hb hf_X1 (fun _ h9 => h9) hown hK hG k25 rfl 3 (by decide) (tb_use hT tw_497) (fun _ h9 => h9) rfl dX1_isLike_125 ?_
            refine lv_iload_n hx hb dX1_isLike_128 rfl (lv_at hl 3 rfl) ?_
            have hj33 : j9 < (v.nR k9) := by omega
            obtain ⟨mo34, h_mo34, -⟩ := id (hP.lsR hk9)
            refine va_callq (va_runV (As := [.int (nI j9)]) (rest := []) ⟨hx, hb, hml, hown, (fun _ h9 => absurd h9 List.not_mem_nil : ∀ w ∈ ([] : List Cond), w.before _ s = true)⟩ (c_LS_get l D cy A X hst hXT e0 tk hXE mi hXL Gv (LA (6 + k9)) (EA (6 + k9)) (v.nR k9) (AD (6 + k9)) j9 (hP.lsR hk9) hj33) (tb_cw (C := RJx4a65c) 1 hT tw_942 tw_113 tw_1303 tw_940 tw_941 rfl rfl hq_Jx4a65c_get_915e3 ⟨Nat.le_of_ble_eq_true rfl, Nat.le_of_ble_eq_true rfl⟩) (mk_preC hst hG hK hA hX hS vc_1 h_mo34) rfl rfl hl.1 rfl (lv_room (Nat.le_of_ble_eq_true rfl)) dX1_isLike_129 ⟨Nat.le_of_ble_eq_true rfl, Nat.le_of_ble_eq_true rfl⟩) hS (fun q _ h => h) (fun q h => h) (fun r35 G36 t H locs ht hvm hw hB hz1 hk1 hS => ?_)
            have hG : mm D vwCl A G36 H := by rw [← ht]; exact hB
            clear hB hz1 hk1 hvm ht
            obtain ⟨rfl, hw⟩ := hw
            rw [hw] at hG
            refine W.eq (g2 := F0 m 132 ls [.ref (AD (6 + k9) j9)]) rfl ?_
            have k37 : Gv (AD (6 + k9) j9) = some (.inr (4, [.int ((v.R k9 j9).1), .int ((v.R k9 j9).2.1), .long ((v.R k9 j9).2.2.1), .int ((v.R k9 j9).2.2.2), .null])) := hP.elR hk9 hj33
            refine va_castS hx hb hown (tb_use hT tw_1304) (hK.1 4 _ rfl).2 (va_recv hK (hG.one k37) (q := (RX3, TX3, 5)) rfl (q0 := 0) rfl) dX1_isLike_132 ?_
            refine lv_astore (lv' := [(4, .ref (AD (6 + k9) j9)), (0, .ref (AD 0 k9)), (1, .ref (AD2 0 u9)), (2, .int lk), (3, .int (nI j9))]) hx hb dX1_isLike_135 hl (by decide) rfl (fun ls hl => ?_)
            refine lv_aload_n hx hb dX1_isLike_137 rfl (lv_at hl 2 rfl) ?_
            refine mm_get (v := .ref (LA2 (6 + u9))) hx hb hf_X1 (fun _ h9 => h9) hown hK hG k29 rfl 3 (by decide) (tb_use hT tw_497) (fun _ h9 => h9) rfl dX1_isLike_138 ?_
            refine lv_iload_n hx hb dX1_isLike_141 rfl (lv_at hl 4 rfl) ?_
            have hj38 : j9 < (v2.nR u9) := by omega
            obtain ⟨mo39, h_mo39, -⟩ := id (hP2.lsR hu9)
            refine va_callq (va_runV (As := [.int (nI j9)]) (rest := []) ⟨hx, hb, hml, hown, (fun _ h9 => absurd h9 List.not_mem_nil : ∀ w ∈ ([] : List Cond), w.before _ s = true)⟩ (c_LS_get l D cy A X hst hXT e0 tk hXE mi hXL Gv (LA2 (6 + u9)) (EA2 (6 + u9)) (v2.nR u9) (AD2 (6 + u9)) j9 (hP2.lsR hu9) hj38) (tb_cw (C := RJx4a65c) 1 hT tw_942 tw_113 tw_1303 tw_940 tw_941 rfl rfl hq_Jx4a65c_get_915e3 ⟨Nat.le_of_ble_eq_true rfl, Nat.le_of_ble_eq_true rfl⟩) (mk_preC hst hG hK hA hX hS vc_1 h_mo39) rfl rfl hl.1 rfl (lv_room (Nat.le_of_ble_eq_true rfl)) dX1_isLike_142 ⟨Nat.le_of_ble_eq_true rfl, Nat.le_of_ble_eq_true rfl⟩) hS (fun q _ h => h) (fun q h => h) (fun r40 G41 t H locs ht hvm hw hB hz1 hk1 hS => ?_)
            have hG : mm D vwCl A G41 H := by rw [← ht]; exact hB
            clear hB hz1 hk1 hvm ht
            obtain ⟨rfl, hw⟩ := hw
            rw [hw] at hG
            refine W.eq (g2 := F0 m 145 ls [.ref (AD2 (6 + u9) j9)]) rfl ?_
            have k42 : Gv (AD2 (6 + u9) j9) = some (.inr (4, [.int ((v2.R u9 j9).1), .int ((v2.R u9 j9).2.1), .long ((v2.R u9 j9).2.2.1), .int ((v2.R u9 j9).2.2.2), .null])) := hP2.elR hu9 hj38
            refine va_castS hx hb hown (tb_use hT tw_1304) (hK.1 4 _ rfl).2 (va_recv hK (hG.one k42) (q := (RX3, TX3, 5)) rfl (q0 := 0) rfl) dX1_isLike_145 ?_
            refine lv_astore (lv' := [(5, .ref (AD2 (6 + u9) j9)), (4, .ref (AD (6 + k9) j9)), (0, .ref (AD 0 k9)), (1, .ref (AD2 0 u9)), (2, .int lk), (3, .int (nI j9))]) hx hb dX1_isLike_148 hl (by decide) rfl (fun ls hl => ?_)
            refine lv_aload hx hb dX1_isLike_150 (lv_at hl 1 rfl) ?_
            refine mm_getN (v := .int ((v.R k9 j9).1)) hx hb hf_X3 (fun _ h9 => h9) hown hK hG k37 rfl 0 (by decide) (tb_use hT tw_560) (fun _ h9 => h9) rfl dX1_isLike_152 ?_
            refine lv_aload hx hb dX1_isLike_155 (lv_at hl 0 rfl) ?_
            refine mm_getN (v := .int ((v2.R u9 j9).1)) hx hb hf_X3 (fun _ h9 => h9) hown hK hG k42 rfl 0 (by decide) (tb_use hT tw_560) (fun _ h9 => h9) rfl dX1_isLike_157 ?_
            refine lv_icmp_ne (tgt := 181) hx hb dX1_isLike_160 (by decide) (fun c_160 => ?_) (fun c_160 => ?_)
            · skip
              refine lv_iconst (v := 0) hx hb dX1_isLike_181 (by decide) ?_
              refine lv_istore_n (lv' := [(2, .int 0), (5, .ref (AD2 (6 + u9) j9)), (4, .ref (AD (6 + k9) j9)), (0, .ref (AD 0 k9)), (1, .ref (AD2 0 u9)), (3, .int (nI j9))]) hx hb dX1_isLike_182 rfl hl (by decide) rfl (fun ls hl => ?_)
              obtain ⟨x43, ex43⟩ : ∃ y : Int32, y = (nI j9) + 1 := ⟨_, rfl⟩
              refine lv_iinc (v := x43) (lv' := [(3, .int x43), (2, .int 0), (5, .ref (AD2 (6 + u9) j9)), (4, .ref (AD (6 + k9) j9)), (0, .ref (AD 0 k9)), (1, .ref (AD2 0 u9))]) hx hb dX1_isLike_183 hl (k := 5) rfl (by rw [ex43]; rfl) (by decide) rfl (fun ls hl => ?_)
              refine lv_goto (tgt := 98) hx hb dX1_isLike_186 (by decide) ?_
              rw [show x43 = nI (j9 + 1) by rw [ex43]; exact (nI_succ j9).symm] at hl
              exact ih (j9 + 1) 0 (by omega) (Or.inl rfl) Gv rfl _ _ hG hS ls (lv_sub hl [4, 5, 1, 0] rfl)
            · skip
              refine lv_aload hx hb dX1_isLike_163 (lv_at hl 1 rfl) ?_
              refine mm_getN (v := .long ((v.R k9 j9).2.2.1)) hx hb hf_X3 (fun _ h9 => h9) hown hK hG k37 rfl 2 (by decide) (tb_use hT tw_566) (fun _ h9 => h9) rfl dX1_isLike_165 ?_
              refine lv_aload hx hb dX1_isLike_168 (lv_at hl 0 rfl) ?_
              refine mm_getN (v := .long ((v2.R u9 j9).2.2.1)) hx hb hf_X3 (fun _ h9 => h9) hown hK hG k42 rfl 2 (by decide) (tb_use hT tw_566) (fun _ h9 => h9) rfl dX1_isLike_170 ?_
              refine W.lcmp hx hb dX1_isLike_173 ?_
              refine lv_if_ne (tgt := 181) hx hb dX1_isLike_174 (by decide) (fun c_174 => ?_) (fun c_174 => ?_)
              · skip
                refine lv_iconst (v := 0) hx hb dX1_isLike_181 (by decide) ?_
                refine lv_istore_n (lv' := [(2, .int 0), (5, .ref (AD2 (6 + u9) j9)), (4, .ref (AD (6 + k9) j9)), (0, .ref (AD 0 k9)), (1, .ref (AD2 0 u9)), (3, .int (nI j9))]) hx hb dX1_isLike_182 rfl hl (by decide) rfl (fun ls hl => ?_)
                obtain ⟨x45, ex45⟩ : ∃ y : Int32, y = (nI j9) + 1 := ⟨_, rfl⟩
                refine lv_iinc (v := x45) (lv' := [(3, .int x45), (2, .int 0), (5, .ref (AD2 (6 + u9) j9)), (4, .ref (AD (6 + k9) j9)), (0, .ref (AD 0 k9)), (1, .ref (AD2 0 u9))]) hx hb dX1_isLike_183 hl (k := 5) rfl (by rw [ex45]; rfl) (by decide) rfl (fun ls hl => ?_)
                refine lv_goto (tgt := 98) hx hb dX1_isLike_186 (by decide) ?_
                rw [show x45 = nI (j9 + 1) by rw [ex45]; exact (nI_succ j9).symm] at hl
                exact ih (j9 + 1) 0 (by omega) (Or.inl rfl) Gv rfl _ _ hG hS ls (lv_sub hl [4, 5, 1, 0] rfl)
              · skip
                refine lv_iconst (v := 1) hx hb dX1_isLike_177 (by decide) ?_
                refine lv_goto (tgt := 182) hx hb dX1_isLike_178 (by decide) ?_
                refine lv_istore_n (lv' := [(2, .int 1), (5, .ref (AD2 (6 + u9) j9)), (4, .ref (AD (6 + k9) j9)), (0, .ref (AD 0 k9)), (1, .ref (AD2 0 u9)), (3, .int (nI j9))]) hx hb dX1_isLike_182 rfl hl (by decide) rfl (fun ls hl => ?_)
                obtain ⟨x46, ex46⟩ : ∃ y : Int32, y = (nI j9) + 1 := ⟨_, rfl⟩
                refine lv_iinc (v := x46) (lv' := [(3, .int x46), (2, .int 1), (5, .ref (AD2 (6 + u9) j9)), (4, .ref (AD (6 + k9) j9)), (0, .ref (AD 0 k9)), (1, .ref (AD2 0 u9))]) hx hb dX1_isLike_183 hl (k := 5) rfl (by rw [ex46]; rfl) (by decide) rfl (fun ls hl => ?_)
                refine lv_goto (tgt := 98) hx hb dX1_isLike_186 (by decide) ?_
                rw [show x46 = nI (j9 + 1) by rw [ex46]; exact (nI_succ j9).symm] at hl
                exact ih (j9 + 1) 1 (by omega) (Or.inr rfl) Gv rfl _ _ hG hS ls (lv_sub hl [4, 5, 1, 0] rfl)
  refine lv_aload_n hx hb dX1_isLike_0 rfl (lv_at hl 0 rfl) ?_
  have k47 : G (AD 0 k9) = some (.inr (2, [.int (nI (k9 + 1)), .int ((v.C k9).1.1), .long ((v.C k9).1.2.1), .ref (LA (6 + k9)), .int ((v.C k9).1.2.2), .int ((v.C k9).2.1), .int ((v.C k9).2.2.1), .long ((v.C k9).2.2.2.1), .long ((v.C k9).2.2.2.2.1), .long ((v.C k9).2.2.2.2.2)])) := hP.elC hk9
  refine mm_get (v := .int ((v.C k9).1.2.2)) hx hb hf_X1 (fun _ h9 => h9) hown hK hG k47 rfl 4 (by decide) (tb_use hT tw_500) (fun _ h9 => h9) rfl dX1_isLike_1 ?_
  refine lv_aload_n hx hb dX1_isLike_4 rfl (lv_at hl 1 rfl) ?_
  have k48 : G (AD2 0 u9) = some (.inr (2, [.int (nI (u9 + 1)), .int ((v2.C u9).1.1), .long ((v2.C u9).1.2.1), .ref (LA2 (6 + u9)), .int ((v2.C u9).1.2.2), .int ((v2.C u9).2.1), .int ((v2.C u9).2.2.1), .long ((v2.C u9).2.2.2.1), .long ((v2.C u9).2.2.2.2.1), .long ((v2.C u9).2.2.2.2.2)])) := hP2.elC hu9
  refine mm_get (v := .int ((v2.C u9).1.2.2)) hx hb hf_X1 (fun _ h9 => h9) hown hK hG k48 rfl 4 (by decide) (tb_use hT tw_500) (fun _ h9 => h9) rfl dX1_isLike_5 ?_
  refine lv_icmp_ne (tgt := 33) hx hb dX1_isLike_8 (by decide) (fun c_8 => ?_) (fun c_8 => ?_)
  · skip
    refine lv_iconst (v := 0) hx hb dX1_isLike_33 (by decide) ?_
    exact W.zret (v := 0) hx hb hr rfl (fun t ht hW => ⟨⟨_, _, rfl, ⟨Or.inl rfl, rfl⟩, mk_end hG ht⟩, hS.F ht⟩) hS.2.2 dX1_isLike_34
  · skip
    refine lv_aload_n hx hb dX1_isLike_11 rfl (lv_at hl 0 rfl) ?_
    refine mm_get (v := .int ((v.C k9).2.1)) hx hb hf_X1 (fun _ h9 => h9) hown hK hG k47 rfl 5 (by decide) (tb_use hT tw_503) (fun _ h9 => h9) rfl dX1_isLike_12 ?_
    refine lv_aload_n hx hb dX1_isLike_15 rfl (lv_at hl 1 rfl) ?_
    refine mm_get (v := .int ((v2.C u9).2.1)) hx hb hf_X1 (fun _ h9 => h9) hown hK hG k48 rfl 5 (by decide) (tb_use hT tw_503) (fun _ h9 => h9) rfl dX1_isLike_16 ?_
    refine lv_icmp_ne (tgt := 33) hx hb dX1_isLike_19 (by decide) (fun c_19 => ?_) (fun c_19 => ?_)
    · skip
      refine lv_iconst (v := 0) hx hb dX1_isLike_33 (by decide) ?_
      exact W.zret (v := 0) hx hb hr rfl (fun t ht hW => ⟨⟨_, _, rfl, ⟨Or.inl rfl, rfl⟩, mk_end hG ht⟩, hS.F ht⟩) hS.2.2 dX1_isLike_34
    · skip
      refine lv_aload_n hx hb dX1_isLike_22 rfl (lv_at hl 0 rfl) ?_
      refine mm_get (v := .int ((v.C k9).2.2.1)) hx hb hf_X1 (fun _ h9 => h9) hown hK hG k47 rfl 6 (by decide) (tb_use hT tw_506) (fun _ h9 => h9) rfl dX1_isLike_23 ?_
      refine lv_aload_n hx hb dX1_isLike_26 rfl (lv_at hl 1 rfl) ?_
      refine mm_get (v := .int ((v2.C u9).2.2.1)) hx hb hf_X1 (fun _ h9 => h9) hown hK hG k48 rfl 6 (by decide) (tb_use hT tw_506) (fun _ h9 => h9) rfl dX1_isLike_27 ?_
      refine lv_icmp_eq (tgt := 35) hx hb dX1_isLike_30 (by decide) (fun c_30 => ?_) (fun c_30 => ?_)
      · skip
        refine lv_aload_n hx hb dX1_isLike_35 rfl (lv_at hl 0 rfl) ?_
        refine mm_get (v := .long ((v.C k9).2.2.2.1)) hx hb hf_X1 (fun _ h9 => h9) hown hK hG k47 rfl 7 (by decide) (tb_use hT tw_507) (fun _ h9 => h9) rfl dX1_isLike_36 ?_
        refine lv_aload_n hx hb dX1_isLike_39 rfl (lv_at hl 1 rfl) ?_
        refine mm_get (v := .long ((v2.C u9).2.2.2.1)) hx hb hf_X1 (fun _ h9 => h9) hown hK hG k48 rfl 7 (by decide) (tb_use hT tw_507) (fun _ h9 => h9) rfl dX1_isLike_40 ?_
        refine W.lcmp hx hb dX1_isLike_43 ?_
        refine lv_if_ne (tgt := 71) hx hb dX1_isLike_44 (by decide) (fun c_44 => ?_) (fun c_44 => ?_)
        · skip
          refine lv_iconst (v := 0) hx hb dX1_isLike_71 (by decide) ?_
          exact W.zret (v := 0) hx hb hr rfl (fun t ht hW => ⟨⟨_, _, rfl, ⟨Or.inl rfl, rfl⟩, mk_end hG ht⟩, hS.F ht⟩) hS.2.2 dX1_isLike_72
        · skip
          refine lv_aload_n hx hb dX1_isLike_47 rfl (lv_at hl 0 rfl) ?_
          refine mm_get (v := .long ((v.C k9).2.2.2.2.1)) hx hb hf_X1 (fun _ h9 => h9) hown hK hG k47 rfl 8 (by decide) (tb_use hT tw_509) (fun _ h9 => h9) rfl dX1_isLike_48 ?_
          refine lv_aload_n hx hb dX1_isLike_51 rfl (lv_at hl 1 rfl) ?_
          refine mm_get (v := .long ((v2.C u9).2.2.2.2.1)) hx hb hf_X1 (fun _ h9 => h9) hown hK hG k48 rfl 8 (by decide) (tb_use hT tw_509) (fun _ h9 => h9) rfl dX1_isLike_52 ?_
          refine W.lcmp hx hb dX1_isLike_55 ?_
          refine lv_if_ne (tgt := 71) hx hb dX1_isLike_56 (by decide) (fun c_56 => ?_) (fun c_56 => ?_)
          · skip
            refine lv_iconst (v := 0) hx hb dX1_isLike_71 (by decide) ?_
            exact W.zret (v := 0) hx hb hr rfl (fun t ht hW => ⟨⟨_, _, rfl, ⟨Or.inl rfl, rfl⟩, mk_end hG ht⟩, hS.F ht⟩) hS.2.2 dX1_isLike_72
          · skip
            refine lv_aload_n hx hb dX1_isLike_59 rfl (lv_at hl 0 rfl) ?_
            refine mm_get (v := .long ((v.C k9).2.2.2.2.2)) hx hb hf_X1 (fun _ h9 => h9) hown hK hG k47 rfl 9 (by decide) (tb_use hT tw_511) (fun _ h9 => h9) rfl dX1_isLike_60 ?_
            refine lv_aload_n hx hb dX1_isLike_63 rfl (lv_at hl 1 rfl) ?_
            refine mm_get (v := .long ((v2.C u9).2.2.2.2.2)) hx hb hf_X1 (fun _ h9 => h9) hown hK hG k48 rfl 9 (by decide) (tb_use hT tw_511) (fun _ h9 => h9) rfl dX1_isLike_64 ?_
            refine W.lcmp hx hb dX1_isLike_67 ?_
            refine lv_if_eq (tgt := 73) hx hb dX1_isLike_68 (by decide) (fun c_68 => ?_) (fun c_68 => ?_)
            · skip
              refine lv_aload_n hx hb dX1_isLike_73 rfl (lv_at hl 0 rfl) ?_
              refine mm_get (v := .ref (LA (6 + k9))) hx hb hf_X1 (fun _ h9 => h9) hown hK hG k47 rfl 3 (by decide) (tb_use hT tw_497) (fun _ h9 => h9) rfl dX1_isLike_74 ?_
              obtain ⟨mo52, h_mo52, -⟩ := id (hP.lsR hk9)
              refine va_calli (va_runV (As := []) (rest := []) ⟨hx, hb, hml, hown, (fun _ h9 => absurd h9 List.not_mem_nil : ∀ w ∈ ([] : List Cond), w.before _ s = true)⟩ (c_LS_size l D cy A X hst hXT e0 tk hXE mi hXL G (LA (6 + k9)) (EA (6 + k9)) (v.nR k9) (AD (6 + k9)) (hP.lsR hk9)) (tb_cw (C := RJx4a65c) 0 hT tw_457 tw_113 tw_1302 tw_455 tw_456 rfl rfl hq_Jx4a65c_size_8abf5 ⟨Nat.le_of_ble_eq_true rfl, Nat.le_of_ble_eq_true rfl⟩) (mk_preC hst hG hK hA hX hS vc_1 h_mo52) rfl rfl hl.1 rfl (lv_room (Nat.le_of_ble_eq_true rfl)) dX1_isLike_77 ⟨Nat.le_of_ble_eq_true rfl, Nat.le_of_ble_eq_true rfl⟩) hS (fun q _ h => h) (fun q h => h) (fun r53 G54 t H locs ht hvm hw hB hz1 hk1 hS => ?_)
              have hG : mm D vwCl A G54 H := by rw [← ht]; exact hB
              clear hB hz1 hk1 hvm ht
              obtain ⟨rfl, hw⟩ := hw
              rw [hw] at hG
              refine lv_aload_n hx hb dX1_isLike_80 rfl (lv_at hl 1 rfl) ?_
              refine mm_get (v := .ref (LA2 (6 + u9))) hx hb hf_X1 (fun _ h9 => h9) hown hK hG k48 rfl 3 (by decide) (tb_use hT tw_497) (fun _ h9 => h9) rfl dX1_isLike_81 ?_
              obtain ⟨mo55, h_mo55, -⟩ := id (hP2.lsR hu9)
              refine va_calli (va_runV (As := []) (rest := [.int (nI (v.nR k9))]) ⟨hx, hb, hml, hown, (fun _ h9 => absurd h9 List.not_mem_nil : ∀ w ∈ ([] : List Cond), w.before _ s = true)⟩ (c_LS_size l D cy A X hst hXT e0 tk hXE mi hXL G (LA2 (6 + u9)) (EA2 (6 + u9)) (v2.nR u9) (AD2 (6 + u9)) (hP2.lsR hu9)) (tb_cw (C := RJx4a65c) 0 hT tw_457 tw_113 tw_1302 tw_455 tw_456 rfl rfl hq_Jx4a65c_size_8abf5 ⟨Nat.le_of_ble_eq_true rfl, Nat.le_of_ble_eq_true rfl⟩) (mk_preC hst hG hK hA hX hS vc_1 h_mo55) rfl rfl hl.1 rfl (lv_room (Nat.le_of_ble_eq_true rfl)) dX1_isLike_84 ⟨Nat.le_of_ble_eq_true rfl, Nat.le_of_ble_eq_true rfl⟩) hS (fun q _ h => h) (fun q h => h) (fun r56 G57 t H locs ht hvm hw hB hz1 hk1 hS => ?_)
              have hG : mm D vwCl A G57 H := by rw [← ht]; exact hB
              clear hB hz1 hk1 hvm ht
              obtain ⟨rfl, hw⟩ := hw
              rw [hw] at hG
              refine lv_icmp_ne (tgt := 94) hx hb dX1_isLike_87 (by decide) (fun c_87 => ?_) (fun c_87 => ?_)
              · skip
                refine lv_iconst (v := 0) hx hb dX1_isLike_94 (by decide) ?_
                refine lv_istore_n (lv' := [(2, .int 0), (0, .ref (AD 0 k9)), (1, .ref (AD2 0 u9))]) hx hb dX1_isLike_95 rfl hl (by decide) rfl (fun ls hl => ?_)
                refine lv_iconst (v := 0) hx hb dX1_isLike_96 (by decide) ?_
                refine lv_istore_n (lv' := [(3, .int 0), (2, .int 0), (0, .ref (AD 0 k9)), (1, .ref (AD2 0 u9))]) hx hb dX1_isLike_97 rfl hl (by decide) rfl (fun ls hl => ?_)
                exact hloop (v.nR k9) 0 0 (by omega) (Or.inl rfl) G rfl _ _ hG hS ls (lv_sub hl [2, 3, 1, 0] rfl)
              · skip
                refine lv_iconst (v := 1) hx hb dX1_isLike_90 (by decide) ?_
                refine lv_goto (tgt := 95) hx hb dX1_isLike_91 (by decide) ?_
                refine lv_istore_n (lv' := [(2, .int 1), (0, .ref (AD 0 k9)), (1, .ref (AD2 0 u9))]) hx hb dX1_isLike_95 rfl hl (by decide) rfl (fun ls hl => ?_)
                refine lv_iconst (v := 0) hx hb dX1_isLike_96 (by decide) ?_
                refine lv_istore_n (lv' := [(3, .int 0), (2, .int 1), (0, .ref (AD 0 k9)), (1, .ref (AD2 0 u9))]) hx hb dX1_isLike_97 rfl hl (by decide) rfl (fun ls hl => ?_)
                exact hloop (v.nR k9) 0 1 (by omega) (Or.inr rfl) G rfl _ _ hG hS ls (lv_sub hl [2, 3, 1, 0] rfl)
            · skip
              refine lv_iconst (v := 0) hx hb dX1_isLike_71 (by decide) ?_
              exact W.zret (v := 0) hx hb hr rfl (fun t ht hW => ⟨⟨_, _, rfl, ⟨Or.inl rfl, rfl⟩, mk_end hG ht⟩, hS.F ht⟩) hS.2.2 dX1_isLike_72
      · skip
        refine lv_iconst (v := 0) hx hb dX1_isLike_33 (by decide) ?_
        exact W.zret (v := 0) hx hb hr rfl (fun t ht hW => ⟨⟨_, _, rfl, ⟨Or.inl rfl, rfl⟩, mk_end hG ht⟩, hS.F ht⟩) hS.2.2 dX1_isLike_34

set_option maxHeartbeats 4000000 in
set_option maxRecDepth 100000 in
theorem c_Q_param (l : Launch) (D : va_G) (cy : Nat → ClassId) (A : Nat → Prop) (X : State → Prop) (hst : mk_St A X) (hXT : ∀ U : State, X U → TB U) (e0 : Nat) (tk : Nat → Nat) (hXE : ∀ U : State, X U → ES e0 tk A U) (mi : Nat) (hXL : ∀ U : State, X U → EL e0 mi A U) (ax adK adV : Nat → Nat) (hXX : ∀ U : State, X U → TX ax adK adV tk A U) (G : Nat → Option va_E) (G0 : Nat → Option va_E) (Bx : Nat → Prop) (v : EdV) (z : PtV) (LA EA : Nat → Nat) (AD : Nat → Nat → Nat) (PI : Nat → Nat) (G1 : Nat → Option va_E) (By : Nat → Prop) (v2 : EdV) (z2 : PtV) (LA2 EA2 : Nat → Nat) (AD2 : Nat → Nat → Nat) (PI2 : Nat → Nat) (a9 p9 b9 q9 : Nat) (hP : EDP cy e0 tk G0 Bx G v z LA EA AD PI) (hZ : ZF v AD z) (hP2 : EDP cy e0 tk G1 By G v2 z2 LA2 EA2 AD2 PI2) (hZ2 : ZF v2 AD2 z2) (ha9 : a9 < v.nS) (hp9 : p9 < v.nP a9) (hb9 : b9 < v2.nS) (hq9 : q9 < v2.nP b9) : Met l yX8_isLike [.code yX8_isLike cX8_isLike 2 (some .boolean)] ({ frames := 4, cells := 0, slots := 0, locals := 120 }) (mk_Pre D vwCl (tyL cy) A X G [.ref (AD (20 + a9) p9), .ref (AD2 (20 + b9) q9)]) (va_Qi (fun (r : Int32) (G2 : Nat → Option va_E) => (r = 0 ∨ r = 1) ∧ G2 = G) (mk_B D vwCl A) A) 0 0 A := by
  refine Met.ofW (cc := cX8_isLike) (maxL := 2) (ret := (some .boolean)) (by decide) rfl ?_
  intro p e s m args below meth c s₁ B hml hv
  obtain ⟨rfl, hG, hK, hA, hX⟩ := hv
  have hx := B.exec
  have hb := B.bytes
  have hr := B.returns
  have hlocks := B.notSynchronized
  have hT := hXT s hX
  have hown : s.vm.findClass RX8 = some m.cls := findClass_of_methodNamed B.named
  have hf_X8 : ∀ w ∈ u_ws RX8 TX8 15, w.before ([.ref (AD (20 + a9) p9), .ref (AD2 (20 + b9) q9)] : List Value).toArray s = true := tb_list hT fX8
  have hS : va_S A s.heap s.heap [] := va_S.rf
  have hE := hXE s hX
  have hl := lv_entry ([.ref (AD (20 + a9) p9), .ref (AD2 (20 + b9) q9)]) (n := 2) (Nat.le_of_ble_eq_true rfl)
  rw [lg_entry_eq]
  generalize (lg_sl ([.ref (AD (20 + a9) p9), .ref (AD2 (20 + b9) q9)]) ++ List.replicate (2 - (lg_sl ([.ref (AD (20 + a9) p9), .ref (AD2 (20 + b9) q9)])).length) Slot.unset).toArray = ls at hl ⊢
  have hl : lv_has ls 2 [(0, .ref (AD (20 + a9) p9)), (1, .ref (AD2 (20 + b9) q9))] := hl
  have hQ := hXX s hX
  refine lv_aload_n hx hb dX8_isLike_0 rfl (lv_at hl 0 rfl) ?_
  have k21 : G (AD (20 + a9) p9) = some (.inr (9, [.int (nI (p9 + 1)), .int ((v.P a9 p9).1), .long ((v.P a9 p9).2.1), .long ((v.P a9 p9).2.2.1), .int ((v.P a9 p9).2.2.2.1), va_rf ((cdN v ((v.P a9 p9).2.2.1)).map (AD 0)), .int ((v.P a9 p9).2.2.2.2.1), .long ((v.P a9 p9).2.2.2.2.2.1), .int ((v.P a9 p9).2.2.2.2.2.2.1), va_rf ((peI v a9 p9).map (AD (20 + a9))), .int ((v.P a9 p9).2.2.2.2.2.2.2), .int ((z.pd a9 p9).1), .int ((z.pd a9 p9).2.1), .long ((z.pd a9 p9).2.2.1), .long ((z.pd a9 p9).2.2.2)])) := by rw [← (hZ.2.2.1 a9 ha9 p9 hp9).1, ← (hZ.2.2.1 a9 ha9 p9 hp9).2]; exact hP.elP ha9 hp9
  refine mm_get (v := .long ((v.P a9 p9).2.1)) hx hb hf_X8 (fun _ h9 => h9) hown hK hG k21 rfl 2 (by decide) (tb_use hT tw_775) (fun _ h9 => h9) rfl dX8_isLike_1 ?_
  refine lv_aload_n hx hb dX8_isLike_4 rfl (lv_at hl 1 rfl) ?_
  have k22 : G (AD2 (20 + b9) q9) = some (.inr (9, [.int (nI (q9 + 1)), .int ((v2.P b9 q9).1), .long ((v2.P b9 q9).2.1), .long ((v2.P b9 q9).2.2.1), .int ((v2.P b9 q9).2.2.2.1), va_rf ((cdN v2 ((v2.P b9 q9).2.2.1)).map (AD2 0)), .int ((v2.P b9 q9).2.2.2.2.1), .long ((v2.P b9 q9).2.2.2.2.2.1), .int ((v2.P b9 q9).2.2.2.2.2.2.1), va_rf ((peI v2 b9 q9).map (AD2 (20 + b9))), .int ((v2.P b9 q9).2.2.2.2.2.2.2), .int ((z2.pd b9 q9).1), .int ((z2.pd b9 q9).2.1), .long ((z2.pd b9 q9).2.2.1), .long ((z2.pd b9 q9).2.2.2)])) := by rw [← (hZ2.2.2.1 b9 hb9 q9 hq9).1, ← (hZ2.2.2.1 b9 hb9 q9 hq9).2]; exact hP2.elP hb9 hq9
  refine mm_get (v := .long ((v2.P b9 q9).2.1)) hx hb hf_X8 (fun _ h9 => h9) hown hK hG k22 rfl 2 (by decide) (tb_use hT tw_775) (fun _ h9 => h9) rfl dX8_isLike_5 ?_
  refine W.lcmp hx hb dX8_isLike_8 ?_
  refine lv_if_ne (tgt := 34) hx hb dX8_isLike_9 (by decide) (fun c_9 => ?_) (fun c_9 => ?_)
  · skip
    refine lv_iconst (v := 0) hx hb dX8_isLike_34 (by decide) ?_
    exact W.zret (v := 0) hx hb hr rfl (fun t ht hW => ⟨⟨_, _, rfl, ⟨Or.inl rfl, rfl⟩, mk_end hG ht⟩, hS.F ht⟩) hS.2.2 dX8_isLike_35
  · skip
    refine lv_aload_n hx hb dX8_isLike_12 rfl (lv_at hl 0 rfl) ?_
    refine mm_get (v := .int ((v.P a9 p9).2.2.2.2.1)) hx hb hf_X8 (fun _ h9 => h9) hown hK hG k21 rfl 6 (by decide) (tb_use hT tw_788) (fun _ h9 => h9) rfl dX8_isLike_13 ?_
    refine lv_aload_n hx hb dX8_isLike_16 rfl (lv_at hl 1 rfl) ?_
    refine mm_get (v := .int ((v2.P b9 q9).2.2.2.2.1)) hx hb hf_X8 (fun _ h9 => h9) hown hK hG k22 rfl 6 (by decide) (tb_use hT tw_788) (fun _ h9 => h9) rfl dX8_isLike_17 ?_
    refine lv_icmp_ne (tgt := 34) hx hb dX8_isLike_20 (by decide) (fun c_20 => ?_) (fun c_20 => ?_)
    · skip
      refine lv_iconst (v := 0) hx hb dX8_isLike_34 (by decide) ?_
      exact W.zret (v := 0) hx hb hr rfl (fun t ht hW => ⟨⟨_, _, rfl, ⟨Or.inl rfl, rfl⟩, mk_end hG ht⟩, hS.F ht⟩) hS.2.2 dX8_isLike_35
    · skip
      refine lv_aload_n hx hb dX8_isLike_23 rfl (lv_at hl 0 rfl) ?_
      refine mm_get (v := .int ((v.P a9 p9).2.2.2.2.2.2.2)) hx hb hf_X8 (fun _ h9 => h9) hown hK hG k21 rfl 10 (by decide) (tb_use hT tw_800) (fun _ h9 => h9) rfl dX8_isLike_24 ?_
      refine lv_aload_n hx hb dX8_isLike_27 rfl (lv_at hl 1 rfl) ?_
      refine mm_get (v := .int ((v2.P b9 q9).2.2.2.2.2.2.2)) hx hb hf_X8 (fun _ h9 => h9) hown hK hG k22 rfl 10 (by decide) (tb_use hT tw_800) (fun _ h9 => h9) rfl dX8_isLike_28 ?_
      refine lv_icmp_eq (tgt := 36) hx hb dX8_isLike_31 (by decide) (fun c_31 => ?_) (fun c_31 => ?_)
      · skip
        refine lv_aload_n hx hb dX8_isLike_36 rfl (lv_at hl 0 rfl) ?_
        refine mm_get (v := .long ((v.P a9 p9).2.2.2.2.2.1)) hx hb hf_X8 (fun _ h9 => h9) hown hK hG k21 rfl 7 (by decide) (tb_use hT tw_792) (fun _ h9 => h9) rfl dX8_isLike_37 ?_
        refine lv_aload_n hx hb dX8_isLike_40 rfl (lv_at hl 1 rfl) ?_
        refine mm_get (v := .long ((v2.P b9 q9).2.2.2.2.2.1)) hx hb hf_X8 (fun _ h9 => h9) hown hK hG k22 rfl 7 (by decide) (tb_use hT tw_792) (fun _ h9 => h9) rfl dX8_isLike_41 ?_
        refine W.lcmp hx hb dX8_isLike_44 ?_
        refine lv_if_ne (tgt := 62) hx hb dX8_isLike_45 (by decide) (fun c_45 => ?_) (fun c_45 => ?_)
        · skip
          refine lv_iconst (v := 0) hx hb dX8_isLike_62 (by decide) ?_
          exact W.zret (v := 0) hx hb hr rfl (fun t ht hW => ⟨⟨_, _, rfl, ⟨Or.inl rfl, rfl⟩, mk_end hG ht⟩, hS.F ht⟩) hS.2.2 dX8_isLike_63
        · skip
          refine lv_aload_n hx hb dX8_isLike_48 rfl (lv_at hl 0 rfl) ?_
          refine mm_get (v := va_rf ((cdN v ((v.P a9 p9).2.2.1)).map (AD 0))) hx hb hf_X8 (fun _ h9 => h9) hown hK hG k21 rfl 5 (by decide) (tb_use hT tw_783) (fun _ h9 => h9) rfl dX8_isLike_49 ?_
          obtain ⟨y_hf25, hf25⟩ : ∃ y, cdN v ((v.P a9 p9).2.2.1) = y := ⟨_, rfl⟩
          cases y_hf25 with
          | none =>
            refine W.eq (g2 := F0 m 52 ls [.null]) (by first | rfl | (rw [hf25]; rfl)) ?_
            refine lv_ifnullN (tgt := 62) hx hb dX8_isLike_52 (by decide) ?_
            refine lv_iconst (v := 0) hx hb dX8_isLike_62 (by decide) ?_
            exact W.zret (v := 0) hx hb hr rfl (fun t ht hW => ⟨⟨_, _, rfl, ⟨Or.inl rfl, rfl⟩, mk_end hG ht⟩, hS.F ht⟩) hS.2.2 dX8_isLike_63
          | some j26 =>
            have hj27 := cdN_lt hf25
            refine W.eq (g2 := F0 m 52 ls [.ref (AD 0 j26)]) (by first | rfl | (rw [hf25]; rfl)) ?_
            refine lv_ifnull hx hb dX8_isLike_52 ?_
            refine lv_aload_n hx hb dX8_isLike_55 rfl (lv_at hl 1 rfl) ?_
            refine mm_get (v := va_rf ((cdN v2 ((v2.P b9 q9).2.2.1)).map (AD2 0))) hx hb hf_X8 (fun _ h9 => h9) hown hK hG k22 rfl 5 (by decide) (tb_use hT tw_783) (fun _ h9 => h9) rfl dX8_isLike_56 ?_
            obtain ⟨y_hf28, hf28⟩ : ∃ y, cdN v2 ((v2.P b9 q9).2.2.1) = y := ⟨_, rfl⟩
            cases y_hf28 with
            | none =>
              refine W.eq (g2 := F0 m 59 ls [.null]) (by first | rfl | (rw [hf28]; rfl)) ?_
              refine lv_ifnonnullN hx hb dX8_isLike_59 ?_
              refine lv_iconst (v := 0) hx hb dX8_isLike_62 (by decide) ?_
              exact W.zret (v := 0) hx hb hr rfl (fun t ht hW => ⟨⟨_, _, rfl, ⟨Or.inl rfl, rfl⟩, mk_end hG ht⟩, hS.F ht⟩) hS.2.2 dX8_isLike_63
            | some j29 =>
              have hj30 := cdN_lt hf28
              refine W.eq (g2 := F0 m 59 ls [.ref (AD2 0 j29)]) (by first | rfl | (rw [hf28]; rfl)) ?_
              refine lv_ifnonnull (tgt := 64) hx hb dX8_isLike_59 (by decide) ?_
              refine lv_aload_n hx hb dX8_isLike_64 rfl (lv_at hl 0 rfl) ?_
              refine mm_get (v := va_rf ((cdN v ((v.P a9 p9).2.2.1)).map (AD 0))) hx hb hf_X8 (fun _ h9 => h9) hown hK hG k21 rfl 5 (by decide) (tb_use hT tw_783) (fun _ h9 => h9) rfl dX8_isLike_65 ?_
              refine lv_aload_n hx hb dX8_isLike_68 rfl (lv_at hl 1 rfl) ?_
              refine mm_get (v := va_rf ((cdN v2 ((v2.P b9 q9).2.2.1)).map (AD2 0))) hx hb hf_X8 (fun _ h9 => h9) hown hK hG k22 rfl 5 (by decide) (tb_use hT tw_783) (fun _ h9 => h9) rfl dX8_isLike_69 ?_
              refine W.eq (g2 := F0 m 72 ls [va_rf ((cdN v2 ((v2.P b9 q9).2.2.1)).map (AD2 0)), .ref (AD 0 j26)]) (by first | rfl | (rw [hf25]; rfl)) ?_
              refine W.eq (g2 := F0 m 72 ls [.ref (AD2 0 j29), .ref (AD 0 j26)]) (by first | rfl | (rw [hf28]; rfl)) ?_
              have k31 : G (AD 0 j26) = some (.inr (2, [.int (nI (j26 + 1)), .int ((v.C j26).1.1), .long ((v.C j26).1.2.1), .ref (LA (6 + j26)), .int ((v.C j26).1.2.2), .int ((v.C j26).2.1), .int ((v.C j26).2.2.1), .long ((v.C j26).2.2.2.1), .long ((v.C j26).2.2.2.2.1), .long ((v.C j26).2.2.2.2.2)])) := hP.elC hj27
              refine va_calli (va_runV (As := [.ref (AD2 0 j29)]) (rest := []) ⟨hx, hb, hml, hown, (fun _ h9 => absurd h9 List.not_mem_nil : ∀ w ∈ ([] : List Cond), w.before _ s = true)⟩ (c_Q_coding l D cy A X hst hXT e0 tk hXE mi hXL ax adK adV hXX G G0 Bx v z LA EA AD PI G1 By v2 z2 LA2 EA2 AD2 PI2 j26 j29 hP hZ hP2 hZ2 hj27 hj30) (tb_cw (C := RX1) 1 hT tw_1301 tw_122 tw_1298 tw_1299 tw_1300 rfl rfl hq_X1_isLike ⟨Nat.le_of_ble_eq_true rfl, Nat.le_of_ble_eq_true rfl⟩) (mk_preC hst hG hK hA hX hS vc_2 k31) rfl rfl hl.1 rfl (lv_room (Nat.le_of_ble_eq_true rfl)) dX8_isLike_72 ⟨Nat.le_of_ble_eq_true rfl, Nat.le_of_ble_eq_true rfl⟩) hS (fun q _ h => h) (fun q h => h) (fun r32 G33 t H locs ht hvm hw hB hz1 hk1 hS => ?_)
              have hG : mm D vwCl A G33 H := by rw [← ht]; exact hB
              clear hB hz1 hk1 hvm ht
              obtain ⟨h_r32, hw⟩ := hw
              rw [hw] at hG
              exact W.zret (v := r32) hx hb hr (by rcases h_r32 with z | z <;> rw [z] <;> rfl) (fun t ht hW => ⟨⟨_, _, rfl, ⟨h_r32, rfl⟩, mk_end hG ht⟩, hS.F ht⟩) hS.2.2 dX8_isLike_75
      · skip
        refine lv_iconst (v := 0) hx hb dX8_isLike_34 (by decide) ?_
        exact W.zret (v := 0) hx hb hr rfl (fun t ht hW => ⟨⟨_, _, rfl, ⟨Or.inl rfl, rfl⟩, mk_end hG ht⟩, hS.F ht⟩) hS.2.2 dX8_isLike_35

set_option maxHeartbeats 4000000 in
set_option maxRecDepth 100000 in
theorem c_Q_service (l : Launch) (D : va_G) (cy : Nat → ClassId) (A : Nat → Prop) (X : State → Prop) (hst : mk_St A X) (hXT : ∀ U : State, X U → TB U) (e0 : Nat) (tk : Nat → Nat) (hXE : ∀ U : State, X U → ES e0 tk A U) (mi : Nat) (hXL : ∀ U : State, X U → EL e0 mi A U) (ax adK adV : Nat → Nat) (hXX : ∀ U : State, X U → TX ax adK adV tk A U) (G : Nat → Option va_E) (G0 : Nat → Option va_E) (Bx : Nat → Prop) (v : EdV) (z : PtV) (LA EA : Nat → Nat) (AD : Nat → Nat → Nat) (PI : Nat → Nat) (G1 : Nat → Option va_E) (By : Nat → Prop) (v2 : EdV) (z2 : PtV) (LA2 EA2 : Nat → Nat) (AD2 : Nat → Nat → Nat) (PI2 : Nat → Nat) (a9 b9 : Nat) (hP : EDP cy e0 tk G0 Bx G v z LA EA AD PI) (hZ : ZF v AD z) (hP2 : EDP cy e0 tk G1 By G v2 z2 LA2 EA2 AD2 PI2) (hZ2 : ZF v2 AD2 z2) (ha9 : a9 < v.nS) (hb9 : b9 < v2.nS) : Met l yX10_isLike [.code yX10_isLike cX10_isLike 4 (some .boolean)] ({ frames := 5, cells := 0, slots := 0, locals := 150 }) (mk_Pre D vwCl (tyL cy) A X G [.ref (AD 2 a9), .ref (AD2 2 b9)]) (va_Qi (fun (r : Int32) (G2 : Nat → Option va_E) => (r = 0 ∨ r = 1) ∧ G2 = G) (mk_B D vwCl A) A) 0 0 A := by
  refine Met.ofW (cc := cX10_isLike) (maxL := 4) (ret := (some .boolean)) (by decide) rfl ?_
  intro p e s m args below meth c s₁ B hml hv
  obtain ⟨rfl, hG, hK, hA, hX⟩ := hv
  have hx := B.exec
  have hb := B.bytes
  have hr := B.returns
  have hlocks := B.notSynchronized
  have hT := hXT s hX
  have hown : s.vm.findClass RX10 = some m.cls := findClass_of_methodNamed B.named
  have hf_X10 : ∀ w ∈ u_ws RX10 TX10 6, w.before ([.ref (AD 2 a9), .ref (AD2 2 b9)] : List Value).toArray s = true := tb_list hT fX10
  have hf_X5 : ∀ w ∈ u_ws RX5 TX5 6, w.before ([.ref (AD 2 a9), .ref (AD2 2 b9)] : List Value).toArray s = true := tb_list hT fX5
  have hS : va_S A s.heap s.heap [] := va_S.rf
  have hE := hXE s hX
  have hl := lv_entry ([.ref (AD 2 a9), .ref (AD2 2 b9)]) (n := 4) (Nat.le_of_ble_eq_true rfl)
  rw [lg_entry_eq]
  generalize (lg_sl ([.ref (AD 2 a9), .ref (AD2 2 b9)]) ++ List.replicate (4 - (lg_sl ([.ref (AD 2 a9), .ref (AD2 2 b9)])).length) Slot.unset).toArray = ls at hl ⊢
  have hl : lv_has ls 4 [(0, .ref (AD 2 a9)), (1, .ref (AD2 2 b9))] := hl
  have hQ := hXX s hX
  have hb1 := (hP.lsP ha9).le
  have hb2 := (hP2.lsP hb9).le
  have hloop : ∀ (n : Nat) (j9 : Nat) (lk : Int32), (n + j9 = (v.nP a9)) → (lk = 0 ∨ lk = 1) → ∀ (Gv : Nat → Option va_E), (Gv = G) → ∀ (H : Heap) (locs : List Loc), mm D vwCl A Gv H → va_S A s.heap H locs → ∀ ls : Array Slot, lv_has ls 4 [(0, .ref (AD 2 a9)), (1, .ref (AD2 2 b9)), (2, .int lk), (3, .int (nI j9))] → W p l e (headSpec [.code yX10_isLike cX10_isLike 4 (some .boolean)] ({ frames := 5, cells := 0, slots := 0, locals := 150 })).room s m ([.ref (AD 2 a9), .ref (AD2 2 b9)] : List Value).toArray below meth c H locs 0 0 (MQ below (va_Qi (fun (r : Int32) (G2 : Nat → Option va_E) => (r = 0 ∨ r = 1) ∧ G2 = G) (mk_B D vwCl A) A) ([.ref (AD 2 a9), .ref (AD2 2 b9)] : List Value).toArray s 0 0 A) (F0 m 66 ls []) := by
    intro n
    induction n with
    | zero =>
      intro j9 lk hjn hlk Gv hGv H locs hG hS ls hl
      have hG9 := hG
      have hS9 := hS
      have hl9 := hl
      subst hGv
      have hG := hG9
      have hS := hS9
      have hl := hl9
      have hb1 := (hP.lsP ha9).le
      have hb2 := (hP2.lsP hb9).le
      refine lv_iload_n hx hb dX10_isLike_66 rfl (lv_at hl 2 rfl) ?_
      refine lv_if_eq (tgt := 124) hx hb dX10_isLike_67 (by decide) (fun c_67 => ?_) (fun c_67 => ?_)
      · skip
        refine lv_iload_n hx hb dX10_isLike_124 rfl (lv_at hl 2 rfl) ?_
        exact W.zret (v := lk) hx hb hr (by rcases hlk with z | z <;> rw [z] <;> rfl) (fun t ht hW => ⟨⟨_, _, rfl, ⟨hlk, rfl⟩, mk_end hG ht⟩, hS.F ht⟩) hS.2.2 dX10_isLike_125
      · skip
        refine lv_iload_n hx hb dX10_isLike_70 rfl (lv_at hl 3 rfl) ?_
        refine lv_aload_n hx hb dX10_isLike_71 rfl (lv_at hl 0 rfl) ?_
        have k21 : Gv (AD 2 a9) = some (.inr (11, [.int (nI (a9 + 1)), .ref (AD 1 (v.S a9).1), .int ((v.S a9).2.1), .long ((v.S a9).2.2.1), .ref (LA (20 + a9)), .int ((v.S a9).2.2.2)])) := hP.elS ha9
        refine mm_get (v := .ref (LA (20 + a9))) hx hb hf_X10 (fun _ h9 => h9) hown hK hG k21 rfl 4 (by decide) (tb_use hT tw_738) (fun _ h9 => h9) rfl dX10_isLike_72 ?_
        obtain ⟨mo22, h_mo22, -⟩ := id (hP.lsP ha9)
        refine va_calli (va_runV (As := []) (rest := [.int (nI j9)]) ⟨hx, hb, hml, hown, (fun _ h9 => absurd h9 List.not_mem_nil : ∀ w ∈ ([] : List Cond), w.before _ s = true)⟩ (c_LS_size l D cy A X hst hXT e0 tk hXE mi hXL Gv (LA (20 + a9)) (EA (20 + a9)) (v.nP a9) (AD (20 + a9)) (hP.lsP ha9)) (tb_cw (C := RJx4a65c) 0 hT tw_457 tw_113 tw_1048 tw_455 tw_456 rfl rfl hq_Jx4a65c_size_8abf5 ⟨Nat.le_of_ble_eq_true rfl, Nat.le_of_ble_eq_true rfl⟩) (mk_preC hst hG hK hA hX hS vc_1 h_mo22) rfl rfl hl.1 rfl (lv_room (Nat.le_of_ble_eq_true rfl)) dX10_isLike_75 ⟨Nat.le_of_ble_eq_true rfl, Nat.le_of_ble_eq_true rfl⟩) hS (fun q _ h => h) (fun q h => h) (fun r23 G24 t H locs ht hvm hw hB hz1 hk1 hS => ?_)
        have hG : mm D vwCl A G24 H := by rw [← ht]; exact hB
        clear hB hz1 hk1 hvm ht
        obtain ⟨rfl, hw⟩ := hw
        rw [hw] at hG
        refine lv_icmp_ge (tgt := 124) hx hb dX10_isLike_78 (by decide) (fun c_78 => ?_) (fun c_78 => ?_)
        · skip
          refine lv_iload_n hx hb dX10_isLike_124 rfl (lv_at hl 2 rfl) ?_
          exact W.zret (v := lk) hx hb hr (by rcases hlk with z | z <;> rw [z] <;> rfl) (fun t ht hW => ⟨⟨_, _, rfl, ⟨hlk, rfl⟩, mk_end hG ht⟩, hS.F ht⟩) hS.2.2 dX10_isLike_125
        · skip
          exact absurd (by rw [show j9 = (v.nP a9) by omega]; exact Int32.le_refl _) c_78
    | succ n ih =>
      intro j9 lk hjn hlk Gv hGv H locs hG hS ls hl
      have hG9 := hG
      have hS9 := hS
      have hl9 := hl
      subst hGv
      have hG := hG9
      have hS := hS9
      have hl := hl9
      have hb1 := (hP.lsP ha9).le
      have hb2 := (hP2.lsP hb9).le
      refine lv_iload_n hx hb dX10_isLike_66 rfl (lv_at hl 2 rfl) ?_
      refine lv_if_eq (tgt := 124) hx hb dX10_isLike_67 (by decide) (fun c_67 => ?_) (fun c_67 => ?_)
      · skip
        refine lv_iload_n hx hb dX10_isLike_124 rfl (lv_at hl 2 rfl) ?_
        exact W.zret (v := lk) hx hb hr (by rcases hlk with z | z <;> rw [z] <;> rfl) (fun t ht hW => ⟨⟨_, _, rfl, ⟨hlk, rfl⟩, mk_end hG ht⟩, hS.F ht⟩) hS.2.2 dX10_isLike_125
      · skip
        refine lv_iload_n hx hb dX10_isLike_70 rfl (lv_at hl 3 rfl) ?_
        refine lv_aload_n hx hb dX10_isLike_71 rfl (lv_at hl 0 rfl) ?_
        have k25 : Gv (AD 2 a9) = some (.inr (11, [.int (nI (a9 + 1)), .ref (AD 1 (v.S a9).1), .int ((v.S a9).2.1), .long ((v.S a9).2.2.1), .ref (LA (20 + a9)), .int ((v.S a9).2.2.2)])) := hP.elS ha9
        refine mm_get (v := .ref (LA (20 + a9))) hx hb hf_X10 (fun _ h9 => h9) hown hK hG k25 rfl 4 (by decide) (tb_use hT tw_738) (fun _ h9 => h9) rfl dX10_isLike_72 ?_
        obtain ⟨mo26, h_mo26, -⟩ := id (hP.lsP ha9)
        refine va_calli (va_runV (As := []) (rest := [.int (nI j9)]) ⟨hx, hb, hml, hown, (fun _ h9 => absurd h9 List.not_mem_nil : ∀ w ∈ ([] : List Cond), w.before _ s = true)⟩ (c_LS_size l D cy A X hst hXT e0 tk hXE mi hXL Gv (LA (20 + a9)) (EA (20 + a9)) (v.nP a9) (AD (20 + a9)) (hP.lsP ha9)) (tb_cw (C := RJx4a65c) 0 hT tw_457 tw_113 tw_1048 tw_455 tw_456 rfl rfl hq_Jx4a65c_size_8abf5 ⟨Nat.le_of_ble_eq_true rfl, Nat.le_of_ble_eq_true rfl⟩) (mk_preC hst hG hK hA hX hS vc_1 h_mo26) rfl rfl hl.1 rfl (lv_room (Nat.le_of_ble_eq_true rfl)) dX10_isLike_75 ⟨Nat.le_of_ble_eq_true rfl, Nat.le_of_ble_eq_true rfl⟩) hS (fun q _ h => h) (fun q h => h) (fun r27 G28 t H locs ht hvm hw hB hz1 hk1 hS => ?_)
        have hG : mm D vwCl A G28 H := by rw [← ht]; exact hB
        clear hB hz1 hk1 hvm ht
        obtain ⟨rfl, hw⟩ := hw
        rw [hw] at hG
        refine lv_icmp_ge (tgt := 124) hx hb dX10_isLike_78 (by decide) (fun c_78 => ?_) (fun c_78 => ?_)
        · skip
          exact absurd c_78 (nI_ge (by omega) (by omega))
        · skip
          refine lv_iload_n hx hb dX10_isLike_81 rfl (lv_at hl 3 rfl) ?_
          refine lv_aload_n hx hb dX10_isLike_82 rfl (lv_at hl 1 rfl) ?_
          have k29 : Gv (AD2 2 b9) = some (.inr (11, [.int (nI (b9 + 1)), .ref (AD2 1 (v2.S b9).1), .int ((v2.S b9).2.1), .long ((v2.S b9).2.2.1), .ref (LA2 (20 + b9)), .int ((v2.S b9).2.2.2)])) := hP2.elS hb9
          refine mm_get (v := .ref (LA2 (20 + b9))) hx hb hf_X10 (fun _ h9 => h9) hown hK hG k29 rfl 4 (by decide) (tb_use hT tw_738) (fun _ h9 => h9) rfl dX10_isLike_83 ?_
          obtain ⟨mo30, h_mo30, -⟩ := id (hP2.lsP hb9)
          refine va_calli (va_runV (As := []) (rest := [.int (nI j9)]) ⟨hx, hb, hml, hown, (fun _ h9 => absurd h9 List.not_mem_nil : ∀ w ∈ ([] : List Cond), w.before _ s = true)⟩ (c_LS_size l D cy A X hst hXT e0 tk hXE mi hXL Gv (LA2 (20 + b9)) (EA2 (20 + b9)) (v2.nP b9) (AD2 (20 + b9)) (hP2.lsP hb9)) (tb_cw (C := RJx4a65c) 0 hT tw_457 tw_113 tw_1048 tw_455 tw_456 rfl rfl hq_Jx4a65c_size_8abf5 ⟨Nat.le_of_ble_eq_true rfl, Nat.le_of_ble_eq_true rfl⟩) (mk_preC hst hG hK hA hX hS vc_1 h_mo30) rfl rfl hl.1 rfl (lv_room (Nat.le_of_ble_eq_true rfl)) dX10_isLike_86 ⟨Nat.le_of_ble_eq_true rfl, Nat.le_of_ble_eq_true rfl⟩) hS (fun q _ h => h) (fun q h => h) (fun r31 G32 t H locs ht hvm hw hB hz1 hk1 hS => ?_)
          have hG : mm D vwCl A G32 H := by rw [← ht]; exact hB
          clear hB hz1 hk1 hvm ht
          obtain ⟨rfl, hw⟩ := hw
          rw [hw] at hG
          refine lv_icmp_ge (tgt := 124) hx hb dX10_isLike_89 (by decide) (fun c_89 => ?_) (fun c_89 => ?_)
          · skip
            refine lv_iload_n hx hb dX10_isLike_124 rfl (lv_at hl 2 rfl) ?_
            exact W.zret (v := lk) hx hb hr (by rcases hlk with z | z <;> rw [z] <;> rfl) (fun t ht hW => ⟨⟨_, _, rfl, ⟨hlk, rfl⟩, mk_end hG ht⟩, hS.F ht⟩) hS.2.2 dX10_isLike_125
          · skip
            have hlt1 : j9 < (v.nP a9) := nI_lt_of (by omega) (by omega) c_78
            have hlt2 : j9 < (v2.nP b9) := nI_lt_of (by omega) (by omega) c_89
            refine lv_aload_n hx hb dX10_isLike_92 rfl (lv_at hl 0 rfl) ?_
            refine mm_get (v := .ref (LA (20 + a9))) hx hb hf_X10 (fun _ h9 => h9) hown hK hG k25 rfl 4 (by decide) (tb_use hT tw_738) (fun _ h9 => h9) rfl dX10_isLike_93 ?_
            refine lv_iload_n hx hb dX10_isLike_96 rfl (lv_at hl 3 rfl) ?_
            have hj33 : j9 < (v.nP a9) := by omega
            obtain ⟨mo34, h_mo34, -⟩ := id (hP.lsP ha9)
            refine va_callq (va_runV (As := [.int (nI j9)]) (rest := []) ⟨hx, hb, hml, hown, (fun _ h9 => absurd h9 List.not_mem_nil : ∀ w ∈ ([] : List Cond), w.before _ s = true)⟩ (c_LS_get l D cy A X hst hXT e0 tk hXE mi hXL Gv (LA (20 + a9)) (EA (20 + a9)) (v.nP a9) (AD (20 + a9)) j9 (hP.lsP ha9) hj33) (tb_cw (C := RJx4a65c) 1 hT tw_942 tw_113 tw_1049 tw_940 tw_941 rfl rfl hq_Jx4a65c_get_915e3 ⟨Nat.le_of_ble_eq_true rfl, Nat.le_of_ble_eq_true rfl⟩) (mk_preC hst hG hK hA hX hS vc_1 h_mo34) rfl rfl hl.1 rfl (lv_room (Nat.le_of_ble_eq_true rfl)) dX10_isLike_97 ⟨Nat.le_of_ble_eq_true rfl, Nat.le_of_ble_eq_true rfl⟩) hS (fun q _ h => h) (fun q h => h) (fun r35 G36 t H locs ht hvm hw hB hz1 hk1 hS => ?_)
            have hG : mm D vwCl A G36 H := by rw [← ht]; exact hB
            clear hB hz1 hk1 hvm ht
            obtain ⟨rfl, hw⟩ := hw
            rw [hw] at hG
            refine W.eq (g2 := F0 m 100 ls [.ref (AD (20 + a9) j9)]) rfl ?_
            have k37 : Gv (AD (20 + a9) j9) = some (.inr (9, [.int (nI (j9 + 1)), .int ((v.P a9 j9).1), .long ((v.P a9 j9).2.1), .long ((v.P a9 j9).2.2.1), .int ((v.P a9 j9).2.2.2.1), va_rf ((cdN v ((v.P a9 j9).2.2.1)).map (AD 0)), .int ((v.P a9 j9).2.2.2.2.1), .long ((v.P a9 j9).2.2.2.2.2.1), .int ((v.P a9 j9).2.2.2.2.2.2.1), va_rf ((peI v a9 j9).map (AD (20 + a9))), .int ((v.P a9 j9).2.2.2.2.2.2.2), .int ((z.pd a9 j9).1), .int ((z.pd a9 j9).2.1), .long ((z.pd a9 j9).2.2.1), .long ((z.pd a9 j9).2.2.2)])) := by rw [← (hZ.2.2.1 a9 ha9 j9 hj33).1, ← (hZ.2.2.1 a9 ha9 j9 hj33).2]; exact hP.elP ha9 hj33
            refine va_castS hx hb hown (tb_use hT tw_1050) (hK.1 9 _ rfl).2 (va_recv hK (hG.one k37) (q := (RX8, TX8, 15)) rfl (q0 := 0) rfl) dX10_isLike_100 ?_
            refine lv_aload_n hx hb dX10_isLike_103 rfl (lv_at hl 1 rfl) ?_
            refine mm_get (v := .ref (LA2 (20 + b9))) hx hb hf_X10 (fun _ h9 => h9) hown hK hG k29 rfl 4 (by decide) (tb_use hT tw_738) (fun _ h9 => h9) rfl dX10_isLike_104 ?_
            refine lv_iload_n hx hb dX10_isLike_107 rfl (lv_at hl 3 rfl) ?_
            have hj38 : j9 < (v2.nP b9) := by omega
            obtain ⟨mo39, h_mo39, -⟩ := id (hP2.lsP hb9)
            refine va_callq (va_runV (As := [.int (nI j9)]) (rest := [.ref (AD (20 + a9) j9)]) ⟨hx, hb, hml, hown, (fun _ h9 => absurd h9 List.not_mem_nil : ∀ w ∈ ([] : List Cond), w.before _ s = true)⟩ (c_LS_get l D cy A X hst hXT e0 tk hXE mi hXL Gv (LA2 (20 + b9)) (EA2 (20 + b9)) (v2.nP b9) (AD2 (20 + b9)) j9 (hP2.lsP hb9) hj38) (tb_cw (C := RJx4a65c) 1 hT tw_942 tw_113 tw_1049 tw_940 tw_941 rfl rfl hq_Jx4a65c_get_915e3 ⟨Nat.le_of_ble_eq_true rfl, Nat.le_of_ble_eq_true rfl⟩) (mk_preC hst hG hK hA hX hS vc_1 h_mo39) rfl rfl hl.1 rfl (lv_room (Nat.le_of_ble_eq_true rfl)) dX10_isLike_108 ⟨Nat.le_of_ble_eq_true rfl, Nat.le_of_ble_eq_true rfl⟩) hS (fun q _ h => h) (fun q h => h) (fun r40 G41 t H locs ht hvm hw hB hz1 hk1 hS => ?_)
            have hG : mm D vwCl A G41 H := by rw [← ht]; exact hB
            clear hB hz1 hk1 hvm ht
            obtain ⟨rfl, hw⟩ := hw
            rw [hw] at hG
            refine W.eq (g2 := F0 m 111 ls [.ref (AD2 (20 + b9) j9), .ref (AD (20 + a9) j9)]) rfl ?_
            have k42 : Gv (AD2 (20 + b9) j9) = some (.inr (9, [.int (nI (j9 + 1)), .int ((v2.P b9 j9).1), .long ((v2.P b9 j9).2.1), .long ((v2.P b9 j9).2.2.1), .int ((v2.P b9 j9).2.2.2.1), va_rf ((cdN v2 ((v2.P b9 j9).2.2.1)).map (AD2 0)), .int ((v2.P b9 j9).2.2.2.2.1), .long ((v2.P b9 j9).2.2.2.2.2.1), .int ((v2.P b9 j9).2.2.2.2.2.2.1), va_rf ((peI v2 b9 j9).map (AD2 (20 + b9))), .int ((v2.P b9 j9).2.2.2.2.2.2.2), .int ((z2.pd b9 j9).1), .int ((z2.pd b9 j9).2.1), .long ((z2.pd b9 j9).2.2.1), .long ((z2.pd b9 j9).2.2.2)])) := by rw [← (hZ2.2.2.1 b9 hb9 j9 hj38).1, ← (hZ2.2.2.1 b9 hb9 j9 hj38).2]; exact hP2.elP hb9 hj38
            refine va_castS hx hb hown (tb_use hT tw_1050) (hK.1 9 _ rfl).2 (va_recv hK (hG.one k42) (q := (RX8, TX8, 15)) rfl (q0 := 0) rfl) dX10_isLike_111 ?_
            refine va_calli (va_runV (As := [.ref (AD2 (20 + b9) j9)]) (rest := []) ⟨hx, hb, hml, hown, (fun _ h9 => absurd h9 List.not_mem_nil : ∀ w ∈ ([] : List Cond), w.before _ s = true)⟩ (c_Q_param l D cy A X hst hXT e0 tk hXE mi hXL ax adK adV hXX Gv G0 Bx v z LA EA AD PI G1 By v2 z2 LA2 EA2 AD2 PI2 a9 j9 b9 j9 hP hZ hP2 hZ2 ha9 hj33 hb9 hj38) (tb_cw (C := RX8) 1 hT tw_1297 tw_129 tw_1294 tw_1295 tw_1296 rfl rfl hq_X8_isLike ⟨Nat.le_of_ble_eq_true rfl, Nat.le_of_ble_eq_true rfl⟩) (mk_preC hst hG hK hA hX hS vc_9 k37) rfl rfl hl.1 rfl (lv_room (Nat.le_of_ble_eq_true rfl)) dX10_isLike_114 ⟨Nat.le_of_ble_eq_true rfl, Nat.le_of_ble_eq_true rfl⟩) hS (fun q _ h => h) (fun q h => h) (fun r43 G44 t H locs ht hvm hw hB hz1 hk1 hS => ?_)
            have hG : mm D vwCl A G44 H := by rw [← ht]; exact hB
            clear hB hz1 hk1 hvm ht
            obtain ⟨h_r43, hw⟩ := hw
            rw [hw] at hG
            refine lv_istore_n (lv' := [(2, .int r43), (0, .ref (AD 2 a9)), (1, .ref (AD2 2 b9)), (3, .int (nI j9))]) hx hb dX10_isLike_117 rfl hl (by decide) rfl (fun ls hl => ?_)
            obtain ⟨x45, ex45⟩ : ∃ y : Int32, y = (nI j9) + 1 := ⟨_, rfl⟩
            refine lv_iinc (v := x45) (lv' := [(3, .int x45), (2, .int r43), (0, .ref (AD 2 a9)), (1, .ref (AD2 2 b9))]) hx hb dX10_isLike_118 hl (k := 3) rfl (by rw [ex45]; rfl) (by decide) rfl (fun ls hl => ?_)
            refine lv_goto (tgt := 66) hx hb dX10_isLike_121 (by decide) ?_
            rw [show x45 = nI (j9 + 1) by rw [ex45]; exact (nI_succ j9).symm] at hl
            exact ih (j9 + 1) r43 (by omega) h_r43 Gv rfl _ _ hG hS ls (lv_sub hl [2, 3, 1, 0] rfl)
  refine lv_aload_n hx hb dX10_isLike_0 rfl (lv_at hl 0 rfl) ?_
  have k46 : G (AD 2 a9) = some (.inr (11, [.int (nI (a9 + 1)), .ref (AD 1 (v.S a9).1), .int ((v.S a9).2.1), .long ((v.S a9).2.2.1), .ref (LA (20 + a9)), .int ((v.S a9).2.2.2)])) := hP.elS ha9
  refine mm_get (v := .long ((v.S a9).2.2.1)) hx hb hf_X10 (fun _ h9 => h9) hown hK hG k46 rfl 3 (by decide) (tb_use hT tw_735) (fun _ h9 => h9) rfl dX10_isLike_1 ?_
  refine lv_aload_n hx hb dX10_isLike_4 rfl (lv_at hl 1 rfl) ?_
  have k47 : G (AD2 2 b9) = some (.inr (11, [.int (nI (b9 + 1)), .ref (AD2 1 (v2.S b9).1), .int ((v2.S b9).2.1), .long ((v2.S b9).2.2.1), .ref (LA2 (20 + b9)), .int ((v2.S b9).2.2.2)])) := hP2.elS hb9
  refine mm_get (v := .long ((v2.S b9).2.2.1)) hx hb hf_X10 (fun _ h9 => h9) hown hK hG k47 rfl 3 (by decide) (tb_use hT tw_735) (fun _ h9 => h9) rfl dX10_isLike_5 ?_
  refine W.lcmp hx hb dX10_isLike_8 ?_
  refine lv_if_ne (tgt := 62) hx hb dX10_isLike_9 (by decide) (fun c_9 => ?_) (fun c_9 => ?_)
  · skip
    refine lv_iconst (v := 0) hx hb dX10_isLike_62 (by decide) ?_
    refine lv_istore_n (lv' := [(2, .int 0), (0, .ref (AD 2 a9)), (1, .ref (AD2 2 b9))]) hx hb dX10_isLike_63 rfl hl (by decide) rfl (fun ls hl => ?_)
    refine lv_iconst (v := 0) hx hb dX10_isLike_64 (by decide) ?_
    refine lv_istore_n (lv' := [(3, .int 0), (2, .int 0), (0, .ref (AD 2 a9)), (1, .ref (AD2 2 b9))]) hx hb dX10_isLike_65 rfl hl (by decide) rfl (fun ls hl => ?_)
    exact hloop (v.nP a9) 0 0 (by omega) (Or.inl rfl) G rfl _ _ hG hS ls (lv_sub hl [2, 3, 1, 0] rfl)
  · skip
    refine lv_aload_n hx hb dX10_isLike_12 rfl (lv_at hl 0 rfl) ?_
    refine mm_get (v := .int ((v.S a9).2.2.2)) hx hb hf_X10 (fun _ h9 => h9) hown hK hG k46 rfl 5 (by decide) (tb_use hT tw_742) (fun _ h9 => h9) rfl dX10_isLike_13 ?_
    refine lv_aload_n hx hb dX10_isLike_16 rfl (lv_at hl 1 rfl) ?_
    refine mm_get (v := .int ((v2.S b9).2.2.2)) hx hb hf_X10 (fun _ h9 => h9) hown hK hG k47 rfl 5 (by decide) (tb_use hT tw_742) (fun _ h9 => h9) rfl dX10_isLike_17 ?_
    refine lv_icmp_ne (tgt := 62) hx hb dX10_isLike_20 (by decide) (fun c_20 => ?_) (fun c_20 => ?_)
    · skip
      refine lv_iconst (v := 0) hx hb dX10_isLike_62 (by decide) ?_
      refine lv_istore_n (lv' := [(2, .int 0), (0, .ref (AD 2 a9)), (1, .ref (AD2 2 b9))]) hx hb dX10_isLike_63 rfl hl (by decide) rfl (fun ls hl => ?_)
      refine lv_iconst (v := 0) hx hb dX10_isLike_64 (by decide) ?_
      refine lv_istore_n (lv' := [(3, .int 0), (2, .int 0), (0, .ref (AD 2 a9)), (1, .ref (AD2 2 b9))]) hx hb dX10_isLike_65 rfl hl (by decide) rfl (fun ls hl => ?_)
      exact hloop (v.nP a9) 0 0 (by omega) (Or.inl rfl) G rfl _ _ hG hS ls (lv_sub hl [2, 3, 1, 0] rfl)
    · skip
      refine lv_aload_n hx hb dX10_isLike_23 rfl (lv_at hl 0 rfl) ?_
      refine mm_get (v := .ref (AD 1 (v.S a9).1)) hx hb hf_X10 (fun _ h9 => h9) hown hK hG k46 rfl 1 (by decide) (tb_use hT tw_730) (fun _ h9 => h9) rfl dX10_isLike_24 ?_
      have k49 : G (AD 1 (v.S a9).1) = some (.inr (6, [.int (nI ((v.S a9).1 + 1)), .int ((v.L ((v.S a9).1)).1), .long ((v.L ((v.S a9).1)).2.1), .long ((v.L ((v.S a9).1)).2.2.1), .int ((v.L ((v.S a9).1)).2.2.2), va_rf ((nx v ((v.S a9).1)).map (AD 1))])) := by rw [← hZ.1 ((v.S a9).1) (hP.sl a9 ha9)]; exact hP.elL (hP.sl a9 ha9)
      refine mm_getN (v := .long ((v.L ((v.S a9).1)).2.1)) hx hb hf_X5 (fun _ h9 => h9) hown hK hG k49 rfl 2 (by decide) (tb_use hT tw_691) (fun _ h9 => h9) rfl dX10_isLike_27 ?_
      refine lv_aload_n hx hb dX10_isLike_30 rfl (lv_at hl 1 rfl) ?_
      refine mm_get (v := .ref (AD2 1 (v2.S b9).1)) hx hb hf_X10 (fun _ h9 => h9) hown hK hG k47 rfl 1 (by decide) (tb_use hT tw_730) (fun _ h9 => h9) rfl dX10_isLike_31 ?_
      have k50 : G (AD2 1 (v2.S b9).1) = some (.inr (6, [.int (nI ((v2.S b9).1 + 1)), .int ((v2.L ((v2.S b9).1)).1), .long ((v2.L ((v2.S b9).1)).2.1), .long ((v2.L ((v2.S b9).1)).2.2.1), .int ((v2.L ((v2.S b9).1)).2.2.2), va_rf ((nx v2 ((v2.S b9).1)).map (AD2 1))])) := by rw [← hZ2.1 ((v2.S b9).1) (hP2.sl b9 hb9)]; exact hP2.elL (hP2.sl b9 hb9)
      refine mm_getN (v := .long ((v2.L ((v2.S b9).1)).2.1)) hx hb hf_X5 (fun _ h9 => h9) hown hK hG k50 rfl 2 (by decide) (tb_use hT tw_691) (fun _ h9 => h9) rfl dX10_isLike_34 ?_
      refine W.lcmp hx hb dX10_isLike_37 ?_
      refine lv_if_ne (tgt := 62) hx hb dX10_isLike_38 (by decide) (fun c_38 => ?_) (fun c_38 => ?_)
      · skip
        refine lv_iconst (v := 0) hx hb dX10_isLike_62 (by decide) ?_
        refine lv_istore_n (lv' := [(2, .int 0), (0, .ref (AD 2 a9)), (1, .ref (AD2 2 b9))]) hx hb dX10_isLike_63 rfl hl (by decide) rfl (fun ls hl => ?_)
        refine lv_iconst (v := 0) hx hb dX10_isLike_64 (by decide) ?_
        refine lv_istore_n (lv' := [(3, .int 0), (2, .int 0), (0, .ref (AD 2 a9)), (1, .ref (AD2 2 b9))]) hx hb dX10_isLike_65 rfl hl (by decide) rfl (fun ls hl => ?_)
        exact hloop (v.nP a9) 0 0 (by omega) (Or.inl rfl) G rfl _ _ hG hS ls (lv_sub hl [2, 3, 1, 0] rfl)
      · skip
        refine lv_aload_n hx hb dX10_isLike_41 rfl (lv_at hl 0 rfl) ?_
        refine mm_get (v := .ref (LA (20 + a9))) hx hb hf_X10 (fun _ h9 => h9) hown hK hG k46 rfl 4 (by decide) (tb_use hT tw_738) (fun _ h9 => h9) rfl dX10_isLike_42 ?_
        obtain ⟨mo52, h_mo52, -⟩ := id (hP.lsP ha9)
        refine va_calli (va_runV (As := []) (rest := []) ⟨hx, hb, hml, hown, (fun _ h9 => absurd h9 List.not_mem_nil : ∀ w ∈ ([] : List Cond), w.before _ s = true)⟩ (c_LS_size l D cy A X hst hXT e0 tk hXE mi hXL G (LA (20 + a9)) (EA (20 + a9)) (v.nP a9) (AD (20 + a9)) (hP.lsP ha9)) (tb_cw (C := RJx4a65c) 0 hT tw_457 tw_113 tw_1048 tw_455 tw_456 rfl rfl hq_Jx4a65c_size_8abf5 ⟨Nat.le_of_ble_eq_true rfl, Nat.le_of_ble_eq_true rfl⟩) (mk_preC hst hG hK hA hX hS vc_1 h_mo52) rfl rfl hl.1 rfl (lv_room (Nat.le_of_ble_eq_true rfl)) dX10_isLike_45 ⟨Nat.le_of_ble_eq_true rfl, Nat.le_of_ble_eq_true rfl⟩) hS (fun q _ h => h) (fun q h => h) (fun r53 G54 t H locs ht hvm hw hB hz1 hk1 hS => ?_)
        have hG : mm D vwCl A G54 H := by rw [← ht]; exact hB
        clear hB hz1 hk1 hvm ht
        obtain ⟨rfl, hw⟩ := hw
        rw [hw] at hG
        refine lv_aload_n hx hb dX10_isLike_48 rfl (lv_at hl 1 rfl) ?_
        refine mm_get (v := .ref (LA2 (20 + b9))) hx hb hf_X10 (fun _ h9 => h9) hown hK hG k47 rfl 4 (by decide) (tb_use hT tw_738) (fun _ h9 => h9) rfl dX10_isLike_49 ?_
        obtain ⟨mo55, h_mo55, -⟩ := id (hP2.lsP hb9)
        refine va_calli (va_runV (As := []) (rest := [.int (nI (v.nP a9))]) ⟨hx, hb, hml, hown, (fun _ h9 => absurd h9 List.not_mem_nil : ∀ w ∈ ([] : List Cond), w.before _ s = true)⟩ (c_LS_size l D cy A X hst hXT e0 tk hXE mi hXL G (LA2 (20 + b9)) (EA2 (20 + b9)) (v2.nP b9) (AD2 (20 + b9)) (hP2.lsP hb9)) (tb_cw (C := RJx4a65c) 0 hT tw_457 tw_113 tw_1048 tw_455 tw_456 rfl rfl hq_Jx4a65c_size_8abf5 ⟨Nat.le_of_ble_eq_true rfl, Nat.le_of_ble_eq_true rfl⟩) (mk_preC hst hG hK hA hX hS vc_1 h_mo55) rfl rfl hl.1 rfl (lv_room (Nat.le_of_ble_eq_true rfl)) dX10_isLike_52 ⟨Nat.le_of_ble_eq_true rfl, Nat.le_of_ble_eq_true rfl⟩) hS (fun q _ h => h) (fun q h => h) (fun r56 G57 t H locs ht hvm hw hB hz1 hk1 hS => ?_)
        have hG : mm D vwCl A G57 H := by rw [← ht]; exact hB
        clear hB hz1 hk1 hvm ht
        obtain ⟨rfl, hw⟩ := hw
        rw [hw] at hG
        refine lv_icmp_ne (tgt := 62) hx hb dX10_isLike_55 (by decide) (fun c_55 => ?_) (fun c_55 => ?_)
        · skip
          refine lv_iconst (v := 0) hx hb dX10_isLike_62 (by decide) ?_
          refine lv_istore_n (lv' := [(2, .int 0), (0, .ref (AD 2 a9)), (1, .ref (AD2 2 b9))]) hx hb dX10_isLike_63 rfl hl (by decide) rfl (fun ls hl => ?_)
          refine lv_iconst (v := 0) hx hb dX10_isLike_64 (by decide) ?_
          refine lv_istore_n (lv' := [(3, .int 0), (2, .int 0), (0, .ref (AD 2 a9)), (1, .ref (AD2 2 b9))]) hx hb dX10_isLike_65 rfl hl (by decide) rfl (fun ls hl => ?_)
          exact hloop (v.nP a9) 0 0 (by omega) (Or.inl rfl) G rfl _ _ hG hS ls (lv_sub hl [2, 3, 1, 0] rfl)
        · skip
          refine lv_iconst (v := 1) hx hb dX10_isLike_58 (by decide) ?_
          refine lv_goto (tgt := 63) hx hb dX10_isLike_59 (by decide) ?_
          refine lv_istore_n (lv' := [(2, .int 1), (0, .ref (AD 2 a9)), (1, .ref (AD2 2 b9))]) hx hb dX10_isLike_63 rfl hl (by decide) rfl (fun ls hl => ?_)
          refine lv_iconst (v := 0) hx hb dX10_isLike_64 (by decide) ?_
          refine lv_istore_n (lv' := [(3, .int 0), (2, .int 1), (0, .ref (AD 2 a9)), (1, .ref (AD2 2 b9))]) hx hb dX10_isLike_65 rfl hl (by decide) rfl (fun ls hl => ?_)
          exact hloop (v.nP a9) 0 1 (by omega) (Or.inr rfl) G rfl _ _ hG hS ls (lv_sub hl [2, 3, 1, 0] rfl)

set_option maxHeartbeats 4000000 in
set_option maxRecDepth 100000 in
theorem c_Q_hasLike (l : Launch) (D : va_G) (cy : Nat → ClassId) (A : Nat → Prop) (X : State → Prop) (hst : mk_St A X) (hXT : ∀ U : State, X U → TB U) (e0 : Nat) (tk : Nat → Nat) (hXE : ∀ U : State, X U → ES e0 tk A U) (mi : Nat) (hXL : ∀ U : State, X U → EL e0 mi A U) (ax adK adV : Nat → Nat) (hXX : ∀ U : State, X U → TX ax adK adV tk A U) (G : Nat → Option va_E) (G0 : Nat → Option va_E) (Bx : Nat → Prop) (v : EdV) (z : PtV) (LA EA : Nat → Nat) (AD : Nat → Nat → Nat) (PI : Nat → Nat) (G1 : Nat → Option va_E) (By : Nat → Prop) (v2 : EdV) (z2 : PtV) (LA2 EA2 : Nat → Nat) (AD2 : Nat → Nat → Nat) (PI2 : Nat → Nat) (ed na : Nat) (nc wa : Int32) (iu rs : Option Nat) (b9 : Nat) (hP : EDP cy e0 tk G0 Bx G v z LA EA AD PI) (hZ : ZF v AD z) (hP2 : EDP cy e0 tk G1 By G v2 z2 LA2 EA2 AD2 PI2) (hZ2 : ZF v2 AD2 z2) (hed : G ed = some (.inr (3, [.ref (LA 0), .ref (LA 1), .ref (LA 2), .ref (LA 3), .ref (LA 4), .ref (LA 5), .ref na, .int nc, va_rf iu, .int wa, va_rf rs]))) (hb9 : b9 < v2.nS) : Met l yX2_hasLike [.code yX2_hasLike cX2_hasLike 3 (some .boolean)] ({ frames := 6, cells := 0, slots := 0, locals := 180 }) (mk_Pre D vwCl (tyL cy) A X G [.ref ed, .ref (AD2 2 b9)]) (va_Qi (fun (r : Int32) (G2 : Nat → Option va_E) => (r = 0 ∨ r = 1) ∧ G2 = G) (mk_B D vwCl A) A) 0 0 A := by
  refine Met.ofW (cc := cX2_hasLike) (maxL := 3) (ret := (some .boolean)) (by decide) rfl ?_
  intro p e s m args below meth c s₁ B hml hv
  obtain ⟨rfl, hG, hK, hA, hX⟩ := hv
  have hx := B.exec
  have hb := B.bytes
  have hr := B.returns
  have hlocks := B.notSynchronized
  have hT := hXT s hX
  have hown : s.vm.findClass RX2 = some m.cls := findClass_of_methodNamed B.named
  have hf_X2 : ∀ w ∈ u_ws RX2 TX2 11, w.before ([.ref ed, .ref (AD2 2 b9)] : List Value).toArray s = true := tb_list hT fX2
  have hS : va_S A s.heap s.heap [] := va_S.rf
  have hE := hXE s hX
  have hl := lv_entry ([.ref ed, .ref (AD2 2 b9)]) (n := 3) (Nat.le_of_ble_eq_true rfl)
  rw [lg_entry_eq]
  generalize (lg_sl ([.ref ed, .ref (AD2 2 b9)]) ++ List.replicate (3 - (lg_sl ([.ref ed, .ref (AD2 2 b9)])).length) Slot.unset).toArray = ls at hl ⊢
  have hl : lv_has ls 3 [(0, .ref ed), (1, .ref (AD2 2 b9))] := hl
  have hQ := hXX s hX
  have hloop : ∀ (n : Nat) (j9 : Nat), (n + j9 = v.nS) → ∀ (Gv : Nat → Option va_E), (Gv ed = some (.inr (3, [.ref (LA 0), .ref (LA 1), .ref (LA 2), .ref (LA 3), .ref (LA 4), .ref (LA 5), .ref na, .int nc, va_rf iu, .int wa, va_rf rs]))) → (Gv = G) → ∀ (H : Heap) (locs : List Loc), mm D vwCl A Gv H → va_S A s.heap H locs → ∀ ls : Array Slot, lv_has ls 3 [(0, .ref ed), (1, .ref (AD2 2 b9)), (2, .int (nI j9))] → W p l e (headSpec [.code yX2_hasLike cX2_hasLike 3 (some .boolean)] ({ frames := 6, cells := 0, slots := 0, locals := 180 })).room s m ([.ref ed, .ref (AD2 2 b9)] : List Value).toArray below meth c H locs 0 0 (MQ below (va_Qi (fun (r : Int32) (G2 : Nat → Option va_E) => (r = 0 ∨ r = 1) ∧ G2 = G) (mk_B D vwCl A) A) ([.ref ed, .ref (AD2 2 b9)] : List Value).toArray s 0 0 A) (F0 m 2 ls []) := by
    intro n
    induction n with
    | zero =>
      intro j9 hjn Gv v_ed hGv H locs hG hS ls hl
      have hG9 := hG
      have hS9 := hS
      have hl9 := hl
      subst hGv
      have hG := hG9
      have hS := hS9
      have hl := hl9
      have hbb := hP.b
      refine lv_iload_n hx hb dX2_hasLike_2 rfl (lv_at hl 2 rfl) ?_
      refine lv_aload_n hx hb dX2_hasLike_3 rfl (lv_at hl 0 rfl) ?_
      refine mm_get (v := .ref (LA 2)) hx hb hf_X2 (fun _ h9 => h9) hown hK hG v_ed rfl 2 (by decide) (tb_use hT tw_283) (fun _ h9 => h9) rfl dX2_hasLike_4 ?_
      obtain ⟨mo21, h_mo21, -⟩ := id (hP.lsS)
      refine va_calli (va_runV (As := []) (rest := [.int (nI j9)]) ⟨hx, hb, hml, hown, (fun _ h9 => absurd h9 List.not_mem_nil : ∀ w ∈ ([] : List Cond), w.before _ s = true)⟩ (c_LS_size l D cy A X hst hXT e0 tk hXE mi hXL Gv (LA 2) (EA 2) v.nS (AD 2) (hP.lsS)) (tb_cw (C := RJx4a65c) 0 hT tw_457 tw_113 tw_999 tw_455 tw_456 rfl rfl hq_Jx4a65c_size_8abf5 ⟨Nat.le_of_ble_eq_true rfl, Nat.le_of_ble_eq_true rfl⟩) (mk_preC hst hG hK hA hX hS vc_1 h_mo21) rfl rfl hl.1 rfl (lv_room (Nat.le_of_ble_eq_true rfl)) dX2_hasLike_7 ⟨Nat.le_of_ble_eq_true rfl, Nat.le_of_ble_eq_true rfl⟩) hS (fun q _ h => h) (fun q h => h) (fun r22 G23 t H locs ht hvm hw hB hz1 hk1 hS => ?_)
      have hG : mm D vwCl A G23 H := by rw [← ht]; exact hB
      clear hB hz1 hk1 hvm ht
      obtain ⟨rfl, hw⟩ := hw
      rw [hw] at hG
      refine lv_icmp_ge (tgt := 39) hx hb dX2_hasLike_10 (by decide) (fun c_10 => ?_) (fun c_10 => ?_)
      · skip
        refine lv_iconst (v := 0) hx hb dX2_hasLike_39 (by decide) ?_
        exact W.zret (v := 0) hx hb hr rfl (fun t ht hW => ⟨⟨_, _, rfl, ⟨Or.inl rfl, rfl⟩, mk_end hG ht⟩, hS.F ht⟩) hS.2.2 dX2_hasLike_40
      · skip
        exact absurd (by rw [show j9 = v.nS by omega]; exact Int32.le_refl _) c_10
    | succ n ih =>
      intro j9 hjn Gv v_ed hGv H locs hG hS ls hl
      have hG9 := hG
      have hS9 := hS
      have hl9 := hl
      subst hGv
      have hG := hG9
      have hS := hS9
      have hl := hl9
      have hbb := hP.b
      refine lv_iload_n hx hb dX2_hasLike_2 rfl (lv_at hl 2 rfl) ?_
      refine lv_aload_n hx hb dX2_hasLike_3 rfl (lv_at hl 0 rfl) ?_
      refine mm_get (v := .ref (LA 2)) hx hb hf_X2 (fun _ h9 => h9) hown hK hG v_ed rfl 2 (by decide) (tb_use hT tw_283) (fun _ h9 => h9) rfl dX2_hasLike_4 ?_
      obtain ⟨mo24, h_mo24, -⟩ := id (hP.lsS)
      refine va_calli (va_runV (As := []) (rest := [.int (nI j9)]) ⟨hx, hb, hml, hown, (fun _ h9 => absurd h9 List.not_mem_nil : ∀ w ∈ ([] : List Cond), w.before _ s = true)⟩ (c_LS_size l D cy A X hst hXT e0 tk hXE mi hXL Gv (LA 2) (EA 2) v.nS (AD 2) (hP.lsS)) (tb_cw (C := RJx4a65c) 0 hT tw_457 tw_113 tw_999 tw_455 tw_456 rfl rfl hq_Jx4a65c_size_8abf5 ⟨Nat.le_of_ble_eq_true rfl, Nat.le_of_ble_eq_true rfl⟩) (mk_preC hst hG hK hA hX hS vc_1 h_mo24) rfl rfl hl.1 rfl (lv_room (Nat.le_of_ble_eq_true rfl)) dX2_hasLike_7 ⟨Nat.le_of_ble_eq_true rfl, Nat.le_of_ble_eq_true rfl⟩) hS (fun q _ h => h) (fun q h => h) (fun r25 G26 t H locs ht hvm hw hB hz1 hk1 hS => ?_)
      have hG : mm D vwCl A G26 H := by rw [← ht]; exact hB
      clear hB hz1 hk1 hvm ht
      obtain ⟨rfl, hw⟩ := hw
      rw [hw] at hG
      refine lv_icmp_ge (tgt := 39) hx hb dX2_hasLike_10 (by decide) (fun c_10 => ?_) (fun c_10 => ?_)
      · skip
        exact absurd c_10 (nI_ge (by omega) (by omega))
      · skip
        refine lv_aload_n hx hb dX2_hasLike_13 rfl (lv_at hl 0 rfl) ?_
        refine mm_get (v := .ref (LA 2)) hx hb hf_X2 (fun _ h9 => h9) hown hK hG v_ed rfl 2 (by decide) (tb_use hT tw_283) (fun _ h9 => h9) rfl dX2_hasLike_14 ?_
        refine lv_iload_n hx hb dX2_hasLike_17 rfl (lv_at hl 2 rfl) ?_
        have hj27 : j9 < v.nS := by omega
        obtain ⟨mo28, h_mo28, -⟩ := id (hP.lsS)
        refine va_callq (va_runV (As := [.int (nI j9)]) (rest := []) ⟨hx, hb, hml, hown, (fun _ h9 => absurd h9 List.not_mem_nil : ∀ w ∈ ([] : List Cond), w.before _ s = true)⟩ (c_LS_get l D cy A X hst hXT e0 tk hXE mi hXL Gv (LA 2) (EA 2) v.nS (AD 2) j9 (hP.lsS) hj27) (tb_cw (C := RJx4a65c) 1 hT tw_942 tw_113 tw_1000 tw_940 tw_941 rfl rfl hq_Jx4a65c_get_915e3 ⟨Nat.le_of_ble_eq_true rfl, Nat.le_of_ble_eq_true rfl⟩) (mk_preC hst hG hK hA hX hS vc_1 h_mo28) rfl rfl hl.1 rfl (lv_room (Nat.le_of_ble_eq_true rfl)) dX2_hasLike_18 ⟨Nat.le_of_ble_eq_true rfl, Nat.le_of_ble_eq_true rfl⟩) hS (fun q _ h => h) (fun q h => h) (fun r29 G30 t H locs ht hvm hw hB hz1 hk1 hS => ?_)
        have hG : mm D vwCl A G30 H := by rw [← ht]; exact hB
        clear hB hz1 hk1 hvm ht
        obtain ⟨rfl, hw⟩ := hw
        rw [hw] at hG
        refine W.eq (g2 := F0 m 21 ls [.ref (AD 2 j9)]) rfl ?_
        have k31 : Gv (AD 2 j9) = some (.inr (11, [.int (nI (j9 + 1)), .ref (AD 1 (v.S j9).1), .int ((v.S j9).2.1), .long ((v.S j9).2.2.1), .ref (LA (20 + j9)), .int ((v.S j9).2.2.2)])) := hP.elS hj27
        refine va_castS hx hb hown (tb_use hT tw_1034) (hK.1 11 _ rfl).2 (va_recv hK (hG.one k31) (q := (RX10, TX10, 6)) rfl (q0 := 0) rfl) dX2_hasLike_21 ?_
        refine lv_aload_n hx hb dX2_hasLike_24 rfl (lv_at hl 1 rfl) ?_
        refine va_calli (va_runV (As := [.ref (AD2 2 b9)]) (rest := []) ⟨hx, hb, hml, hown, (fun _ h9 => absurd h9 List.not_mem_nil : ∀ w ∈ ([] : List Cond), w.before _ s = true)⟩ (c_Q_service l D cy A X hst hXT e0 tk hXE mi hXL ax adK adV hXX Gv G0 Bx v z LA EA AD PI G1 By v2 z2 LA2 EA2 AD2 PI2 j9 b9 hP hZ hP2 hZ2 hj27 hb9) (tb_cw (C := RX10) 1 hT tw_1293 tw_128 tw_1290 tw_1291 tw_1292 rfl rfl hq_X10_isLike ⟨Nat.le_of_ble_eq_true rfl, Nat.le_of_ble_eq_true rfl⟩) (mk_preC hst hG hK hA hX hS vc_11 k31) rfl rfl hl.1 rfl (lv_room (Nat.le_of_ble_eq_true rfl)) dX2_hasLike_25 ⟨Nat.le_of_ble_eq_true rfl, Nat.le_of_ble_eq_true rfl⟩) hS (fun q _ h => h) (fun q h => h) (fun r32 G33 t H locs ht hvm hw hB hz1 hk1 hS => ?_)
        have hG : mm D vwCl A G33 H := by rw [← ht]; exact hB
        clear hB hz1 hk1 hvm ht
        obtain ⟨h_r32, hw⟩ := hw
        rw [hw] at hG
        refine lv_if_eq (tgt := 33) hx hb dX2_hasLike_28 (by decide) (fun c_28 => ?_) (fun c_28 => ?_)
        · skip
          obtain ⟨x34, ex34⟩ : ∃ y : Int32, y = (nI j9) + 1 := ⟨_, rfl⟩
          refine lv_iinc (v := x34) (lv' := [(2, .int x34), (0, .ref ed), (1, .ref (AD2 2 b9))]) hx hb dX2_hasLike_33 hl (k := 2) rfl (by rw [ex34]; rfl) (by decide) rfl (fun ls hl => ?_)
          refine lv_goto (tgt := 2) hx hb dX2_hasLike_36 (by decide) ?_
          rw [show x34 = nI (j9 + 1) by rw [ex34]; exact (nI_succ j9).symm] at hl
          exact ih (j9 + 1) (by omega) Gv v_ed rfl _ _ hG hS ls (lv_sub hl [1, 2, 0] rfl)
        · skip
          refine lv_iconst (v := 1) hx hb dX2_hasLike_31 (by decide) ?_
          exact W.zret (v := 1) hx hb hr rfl (fun t ht hW => ⟨⟨_, _, rfl, ⟨Or.inr rfl, rfl⟩, mk_end hG ht⟩, hS.F ht⟩) hS.2.2 dX2_hasLike_32
  refine lv_iconst (v := 0) hx hb dX2_hasLike_0 (by decide) ?_
  refine lv_istore_n (lv' := [(2, .int 0), (0, .ref ed), (1, .ref (AD2 2 b9))]) hx hb dX2_hasLike_1 rfl hl (by decide) rfl (fun ls hl => ?_)
  exact hloop v.nS 0 (by omega) G hed rfl _ _ hG hS ls (lv_sub hl [1, 2, 0] rfl)

set_option maxHeartbeats 4000000 in
set_option maxRecDepth 100000 in
theorem c_Q_count (l : Launch) (D : va_G) (cy : Nat → ClassId) (A : Nat → Prop) (X : State → Prop) (hst : mk_St A X) (hXT : ∀ U : State, X U → TB U) (e0 : Nat) (tk : Nat → Nat) (hXE : ∀ U : State, X U → ES e0 tk A U) (mi : Nat) (hXL : ∀ U : State, X U → EL e0 mi A U) (ax adK adV : Nat → Nat) (hXX : ∀ U : State, X U → TX ax adK adV tk A U) (G : Nat → Option va_E) (G0 : Nat → Option va_E) (Bx : Nat → Prop) (v : EdV) (z : PtV) (LA EA : Nat → Nat) (AD : Nat → Nat → Nat) (PI : Nat → Nat) (G1 : Nat → Option va_E) (By : Nat → Prop) (v2 : EdV) (z2 : PtV) (LA2 EA2 : Nat → Nat) (AD2 : Nat → Nat → Nat) (PI2 : Nat → Nat) (ed na : Nat) (nc wa : Int32) (iu rs : Option Nat) (ed2 na2 : Nat) (nc2 wa2 : Int32) (iu2 rs2 : Option Nat) (hP : EDP cy e0 tk G0 Bx G v z LA EA AD PI) (hZ : ZF v AD z) (hP2 : EDP cy e0 tk G1 By G v2 z2 LA2 EA2 AD2 PI2) (hZ2 : ZF v2 AD2 z2) (hed : G ed = some (.inr (3, [.ref (LA 0), .ref (LA 1), .ref (LA 2), .ref (LA 3), .ref (LA 4), .ref (LA 5), .ref na, .int nc, va_rf iu, .int wa, va_rf rs]))) (hed2 : G ed2 = some (.inr (3, [.ref (LA2 0), .ref (LA2 1), .ref (LA2 2), .ref (LA2 3), .ref (LA2 4), .ref (LA2 5), .ref na2, .int nc2, va_rf iu2, .int wa2, va_rf rs2]))) : Met l yX2_countUnlike [.code yX2_countUnlike cX2_countUnlike 4 (some .int)] ({ frames := 7, cells := 0, slots := 0, locals := 210 }) (mk_Pre D vwCl (tyL cy) A X G [.ref ed, .ref ed2]) (va_Qi (fun (r : Int32) (G2 : Nat → Option va_E) => G2 = G) (mk_B D vwCl A) A) 0 0 A := by
  refine Met.ofW (cc := cX2_countUnlike) (maxL := 4) (ret := (some .int)) (by decide) rfl ?_
  intro p e s m args below meth c s₁ B hml hv
  obtain ⟨rfl, hG, hK, hA, hX⟩ := hv
  have hx := B.exec
  have hb := B.bytes
  have hr := B.returns
  have hlocks := B.notSynchronized
  have hT := hXT s hX
  have hown : s.vm.findClass RX2 = some m.cls := findClass_of_methodNamed B.named
  have hf_X2 : ∀ w ∈ u_ws RX2 TX2 11, w.before ([.ref ed, .ref ed2] : List Value).toArray s = true := tb_list hT fX2
  have hS : va_S A s.heap s.heap [] := va_S.rf
  have hE := hXE s hX
  have hl := lv_entry ([.ref ed, .ref ed2]) (n := 4) (Nat.le_of_ble_eq_true rfl)
  rw [lg_entry_eq]
  generalize (lg_sl ([.ref ed, .ref ed2]) ++ List.replicate (4 - (lg_sl ([.ref ed, .ref ed2])).length) Slot.unset).toArray = ls at hl ⊢
  have hl : lv_has ls 4 [(0, .ref ed), (1, .ref ed2)] := hl
  have hQ := hXX s hX
  have hloop : ∀ (n : Nat) (j9 : Nat) (cn : Int32), (n + j9 = v.nS) → ∀ (Gv : Nat → Option va_E), (Gv ed = some (.inr (3, [.ref (LA 0), .ref (LA 1), .ref (LA 2), .ref (LA 3), .ref (LA 4), .ref (LA 5), .ref na, .int nc, va_rf iu, .int wa, va_rf rs]))) → (Gv ed2 = some (.inr (3, [.ref (LA2 0), .ref (LA2 1), .ref (LA2 2), .ref (LA2 3), .ref (LA2 4), .ref (LA2 5), .ref na2, .int nc2, va_rf iu2, .int wa2, va_rf rs2]))) → (Gv = G) → ∀ (H : Heap) (locs : List Loc), mm D vwCl A Gv H → va_S A s.heap H locs → ∀ ls : Array Slot, lv_has ls 4 [(0, .ref ed), (1, .ref ed2), (2, .int cn), (3, .int (nI j9))] → W p l e (headSpec [.code yX2_countUnlike cX2_countUnlike 4 (some .int)] ({ frames := 7, cells := 0, slots := 0, locals := 210 })).room s m ([.ref ed, .ref ed2] : List Value).toArray below meth c H locs 0 0 (MQ below (va_Qi (fun (r : Int32) (G2 : Nat → Option va_E) => G2 = G) (mk_B D vwCl A) A) ([.ref ed, .ref ed2] : List Value).toArray s 0 0 A) (F0 m 4 ls []) := by
    intro n
    induction n with
    | zero =>
      intro j9 cn hjn Gv v_ed v_ed2 hGv H locs hG hS ls hl
      have hG9 := hG
      have hS9 := hS
      have hl9 := hl
      subst hGv
      have hG := hG9
      have hS := hS9
      have hl := hl9
      have hbb := hP.b
      refine lv_iload_n hx hb dX2_countUnlike_4 rfl (lv_at hl 3 rfl) ?_
      refine lv_aload_n hx hb dX2_countUnlike_5 rfl (lv_at hl 0 rfl) ?_
      refine mm_get (v := .ref (LA 2)) hx hb hf_X2 (fun _ h9 => h9) hown hK hG v_ed rfl 2 (by decide) (tb_use hT tw_283) (fun _ h9 => h9) rfl dX2_countUnlike_6 ?_
      obtain ⟨mo21, h_mo21, -⟩ := id (hP.lsS)
      refine va_calli (va_runV (As := []) (rest := [.int (nI j9)]) ⟨hx, hb, hml, hown, (fun _ h9 => absurd h9 List.not_mem_nil : ∀ w ∈ ([] : List Cond), w.before _ s = true)⟩ (c_LS_size l D cy A X hst hXT e0 tk hXE mi hXL Gv (LA 2) (EA 2) v.nS (AD 2) (hP.lsS)) (tb_cw (C := RJx4a65c) 0 hT tw_457 tw_113 tw_999 tw_455 tw_456 rfl rfl hq_Jx4a65c_size_8abf5 ⟨Nat.le_of_ble_eq_true rfl, Nat.le_of_ble_eq_true rfl⟩) (mk_preC hst hG hK hA hX hS vc_1 h_mo21) rfl rfl hl.1 rfl (lv_room (Nat.le_of_ble_eq_true rfl)) dX2_countUnlike_9 ⟨Nat.le_of_ble_eq_true rfl, Nat.le_of_ble_eq_true rfl⟩) hS (fun q _ h => h) (fun q h => h) (fun r22 G23 t H locs ht hvm hw hB hz1 hk1 hS => ?_)
      have hG : mm D vwCl A G23 H := by rw [← ht]; exact hB
      clear hB hz1 hk1 hvm ht
      obtain ⟨rfl, hw⟩ := hw
      rw [hw] at hG
      refine lv_icmp_ge (tgt := 42) hx hb dX2_countUnlike_12 (by decide) (fun c_12 => ?_) (fun c_12 => ?_)
      · skip
        refine lv_iload_n hx hb dX2_countUnlike_42 rfl (lv_at hl 2 rfl) ?_
        exact W.iret (v := cn) hx hb hr (fun t ht hW => ⟨⟨_, _, rfl, rfl, mk_end hG ht⟩, hS.F ht⟩) hS.2.2 dX2_countUnlike_43
      · skip
        exact absurd (by rw [show j9 = v.nS by omega]; exact Int32.le_refl _) c_12
    | succ n ih =>
      intro j9 cn hjn Gv v_ed v_ed2 hGv H locs hG hS ls hl
      have hG9 := hG
      have hS9 := hS
      have hl9 := hl
      subst hGv
      have hG := hG9
      have hS := hS9
      have hl := hl9
      have hbb := hP.b
      refine lv_iload_n hx hb dX2_countUnlike_4 rfl (lv_at hl 3 rfl) ?_
      refine lv_aload_n hx hb dX2_countUnlike_5 rfl (lv_at hl 0 rfl) ?_
      refine mm_get (v := .ref (LA 2)) hx hb hf_X2 (fun _ h9 => h9) hown hK hG v_ed rfl 2 (by decide) (tb_use hT tw_283) (fun _ h9 => h9) rfl dX2_countUnlike_6 ?_
      obtain ⟨mo24, h_mo24, -⟩ := id (hP.lsS)
      refine va_calli (va_runV (As := []) (rest := [.int (nI j9)]) ⟨hx, hb, hml, hown, (fun _ h9 => absurd h9 List.not_mem_nil : ∀ w ∈ ([] : List Cond), w.before _ s = true)⟩ (c_LS_size l D cy A X hst hXT e0 tk hXE mi hXL Gv (LA 2) (EA 2) v.nS (AD 2) (hP.lsS)) (tb_cw (C := RJx4a65c) 0 hT tw_457 tw_113 tw_999 tw_455 tw_456 rfl rfl hq_Jx4a65c_size_8abf5 ⟨Nat.le_of_ble_eq_true rfl, Nat.le_of_ble_eq_true rfl⟩) (mk_preC hst hG hK hA hX hS vc_1 h_mo24) rfl rfl hl.1 rfl (lv_room (Nat.le_of_ble_eq_true rfl)) dX2_countUnlike_9 ⟨Nat.le_of_ble_eq_true rfl, Nat.le_of_ble_eq_true rfl⟩) hS (fun q _ h => h) (fun q h => h) (fun r25 G26 t H locs ht hvm hw hB hz1 hk1 hS => ?_)
      have hG : mm D vwCl A G26 H := by rw [← ht]; exact hB
      clear hB hz1 hk1 hvm ht
      obtain ⟨rfl, hw⟩ := hw
      rw [hw] at hG
      refine lv_icmp_ge (tgt := 42) hx hb dX2_countUnlike_12 (by decide) (fun c_12 => ?_) (fun c_12 => ?_)
      · skip
        exact absurd c_12 (nI_ge (by omega) (by omega))
      · skip
        refine lv_aload_n hx hb dX2_countUnlike_15 rfl (lv_at hl 1 rfl) ?_
        refine lv_aload_n hx hb dX2_countUnlike_16 rfl (lv_at hl 0 rfl) ?_
        refine mm_get (v := .ref (LA 2)) hx hb hf_X2 (fun _ h9 => h9) hown hK hG v_ed rfl 2 (by decide) (tb_use hT tw_283) (fun _ h9 => h9) rfl dX2_countUnlike_17 ?_
        refine lv_iload_n hx hb dX2_countUnlike_20 rfl (lv_at hl 3 rfl) ?_
        have hj27 : j9 < v.nS := by omega
        obtain ⟨mo28, h_mo28, -⟩ := id (hP.lsS)
        refine va_callq (va_runV (As := [.int (nI j9)]) (rest := [.ref ed2]) ⟨hx, hb, hml, hown, (fun _ h9 => absurd h9 List.not_mem_nil : ∀ w ∈ ([] : List Cond), w.before _ s = true)⟩ (c_LS_get l D cy A X hst hXT e0 tk hXE mi hXL Gv (LA 2) (EA 2) v.nS (AD 2) j9 (hP.lsS) hj27) (tb_cw (C := RJx4a65c) 1 hT tw_942 tw_113 tw_1000 tw_940 tw_941 rfl rfl hq_Jx4a65c_get_915e3 ⟨Nat.le_of_ble_eq_true rfl, Nat.le_of_ble_eq_true rfl⟩) (mk_preC hst hG hK hA hX hS vc_1 h_mo28) rfl rfl hl.1 rfl (lv_room (Nat.le_of_ble_eq_true rfl)) dX2_countUnlike_21 ⟨Nat.le_of_ble_eq_true rfl, Nat.le_of_ble_eq_true rfl⟩) hS (fun q _ h => h) (fun q h => h) (fun r29 G30 t H locs ht hvm hw hB hz1 hk1 hS => ?_)
        have hG : mm D vwCl A G30 H := by rw [← ht]; exact hB
        clear hB hz1 hk1 hvm ht
        obtain ⟨rfl, hw⟩ := hw
        rw [hw] at hG
        refine W.eq (g2 := F0 m 24 ls [.ref (AD 2 j9), .ref ed2]) rfl ?_
        have k31 : Gv (AD 2 j9) = some (.inr (11, [.int (nI (j9 + 1)), .ref (AD 1 (v.S j9).1), .int ((v.S j9).2.1), .long ((v.S j9).2.2.1), .ref (LA (20 + j9)), .int ((v.S j9).2.2.2)])) := hP.elS hj27
        refine va_castS hx hb hown (tb_use hT tw_1034) (hK.1 11 _ rfl).2 (va_recv hK (hG.one k31) (q := (RX10, TX10, 6)) rfl (q0 := 0) rfl) dX2_countUnlike_24 ?_
        refine va_calli (va_runV (As := [.ref (AD 2 j9)]) (rest := []) ⟨hx, hb, hml, hown, (fun _ h9 => absurd h9 List.not_mem_nil : ∀ w ∈ ([] : List Cond), w.before _ s = true)⟩ (c_Q_hasLike l D cy A X hst hXT e0 tk hXE mi hXL ax adK adV hXX Gv G1 By v2 z2 LA2 EA2 AD2 PI2 G0 Bx v z LA EA AD PI ed2 na2 nc2 wa2 iu2 rs2 j9 hP2 hZ2 hP hZ v_ed2 hj27) (tb_cw (C := RX2) 1 hT tw_1289 tw_110 tw_1286 tw_1288 tw_58 rfl rfl hq_X2_hasLike ⟨Nat.le_of_ble_eq_true rfl, Nat.le_of_ble_eq_true rfl⟩) (mk_preC hst hG hK hA hX hS vc_3 v_ed2) rfl rfl hl.1 rfl (lv_room (Nat.le_of_ble_eq_true rfl)) dX2_countUnlike_27 ⟨Nat.le_of_ble_eq_true rfl, Nat.le_of_ble_eq_true rfl⟩) hS (fun q _ h => h) (fun q h => h) (fun r32 G33 t H locs ht hvm hw hB hz1 hk1 hS => ?_)
        have hG : mm D vwCl A G33 H := by rw [← ht]; exact hB
        clear hB hz1 hk1 hvm ht
        obtain ⟨h_r32, hw⟩ := hw
        rw [hw] at hG
        refine lv_if_ne (tgt := 36) hx hb dX2_countUnlike_30 (by decide) (fun c_30 => ?_) (fun c_30 => ?_)
        · skip
          obtain ⟨x34, ex34⟩ : ∃ y : Int32, y = (nI j9) + 1 := ⟨_, rfl⟩
          refine lv_iinc (v := x34) (lv' := [(3, .int x34), (0, .ref ed), (1, .ref ed2), (2, .int cn)]) hx hb dX2_countUnlike_36 hl (k := 3) rfl (by rw [ex34]; rfl) (by decide) rfl (fun ls hl => ?_)
          refine lv_goto (tgt := 4) hx hb dX2_countUnlike_39 (by decide) ?_
          rw [show x34 = nI (j9 + 1) by rw [ex34]; exact (nI_succ j9).symm] at hl
          exact ih (j9 + 1) cn (by omega) Gv v_ed v_ed2 rfl _ _ hG hS ls (lv_sub hl [1, 2, 3, 0] rfl)
        · skip
          obtain ⟨x35, ex35⟩ : ∃ y : Int32, y = cn + 1 := ⟨_, rfl⟩
          refine lv_iinc (v := x35) (lv' := [(2, .int x35), (0, .ref ed), (1, .ref ed2), (3, .int (nI j9))]) hx hb dX2_countUnlike_33 hl (k := 2) rfl (by rw [ex35]; rfl) (by decide) rfl (fun ls hl => ?_)
          obtain ⟨x36, ex36⟩ : ∃ y : Int32, y = (nI j9) + 1 := ⟨_, rfl⟩
          refine lv_iinc (v := x36) (lv' := [(3, .int x36), (2, .int x35), (0, .ref ed), (1, .ref ed2)]) hx hb dX2_countUnlike_36 hl (k := 3) rfl (by rw [ex36]; rfl) (by decide) rfl (fun ls hl => ?_)
          refine lv_goto (tgt := 4) hx hb dX2_countUnlike_39 (by decide) ?_
          rw [show x36 = nI (j9 + 1) by rw [ex36]; exact (nI_succ j9).symm] at hl
          exact ih (j9 + 1) x35 (by omega) Gv v_ed v_ed2 rfl _ _ hG hS ls (lv_sub hl [2, 3, 1, 0] rfl)
  refine lv_iconst (v := 0) hx hb dX2_countUnlike_0 (by decide) ?_
  refine lv_istore_n (lv' := [(2, .int 0), (0, .ref ed), (1, .ref ed2)]) hx hb dX2_countUnlike_1 rfl hl (by decide) rfl (fun ls hl => ?_)
  refine lv_iconst (v := 0) hx hb dX2_countUnlike_2 (by decide) ?_
  refine lv_istore_n (lv' := [(3, .int 0), (2, .int 0), (0, .ref ed), (1, .ref ed2)]) hx hb dX2_countUnlike_3 rfl hl (by decide) rfl (fun ls hl => ?_)
  exact hloop v.nS 0 0 (by omega) G hed hed2 rfl _ _ hG hS ls (lv_sub hl [2, 3, 1, 0] rfl)

set_option maxHeartbeats 4000000 in
set_option maxRecDepth 100000 in
theorem c_H_compare (l : Launch) (D : va_G) (cy : Nat → ClassId) (A : Nat → Prop) (X : State → Prop) (hst : mk_St A X) (hXT : ∀ U : State, X U → TB U) (e0 : Nat) (tk : Nat → Nat) (hXE : ∀ U : State, X U → ES e0 tk A U) (mi : Nat) (hXL : ∀ U : State, X U → EL e0 mi A U) (ax adK adV : Nat → Nat) (hXX : ∀ U : State, X U → TX ax adK adV tk A U) (G : Nat → Option va_E) (G0 : Nat → Option va_E) (Bx : Nat → Prop) (v : EdV) (z : PtV) (LA EA : Nat → Nat) (AD : Nat → Nat → Nat) (PI : Nat → Nat) (G1 : Nat → Option va_E) (By : Nat → Prop) (v2 : EdV) (z2 : PtV) (LA2 EA2 : Nat → Nat) (AD2 : Nat → Nat → Nat) (PI2 : Nat → Nat) (ed na : Nat) (nc wa : Int32) (iu rs : Option Nat) (ed2 na2 : Nat) (nc2 wa2 : Int32) (iu2 rs2 : Option Nat) (o tx rd to se kp : Nat) (rg : Option Nat) (tl : Int32) (kn : Nat) (kf : Nat → Option Nat) (iv : Int32) (h0 : G o = some (.inr (14, [.ref tx, .ref rd, .ref to, .ref se, .ref kp, .int tl, .int (nI kn), .ref ed, va_rf rg]))) (hkp : G kp = some (.inl (cy 6, 4, .inr (.inr (.inr (.inr kf)))))) (hkn : kn ≤ 4) (hP : EDP cy e0 tk G0 Bx G v z LA EA AD PI) (hZ : ZF v AD z) (hP2 : EDP cy e0 tk G1 By G v2 z2 LA2 EA2 AD2 PI2) (hZ2 : ZF v2 AD2 z2) (hed : G ed = some (.inr (3, [.ref (LA 0), .ref (LA 1), .ref (LA 2), .ref (LA 3), .ref (LA 4), .ref (LA 5), .ref na, .int nc, va_rf iu, .int wa, va_rf rs]))) (hed2 : G ed2 = some (.inr (3, [.ref (LA2 0), .ref (LA2 1), .ref (LA2 2), .ref (LA2 3), .ref (LA2 4), .ref (LA2 5), .ref na2, .int nc2, va_rf iu2, .int wa2, va_rf rs2]))) (hkf : ∀ k, k < kn → iv = nI (k + 1) → kf k = some ed2) : Met l yX13_compare [.code yX13_compare cX13_compare 3 (some .int)] ({ frames := 8, cells := 0, slots := 0, locals := 240 }) (mk_Pre D vwCl (tyL cy) A X G [.ref o, .int iv]) (va_Qi (fun (r : Int32) (G2 : Nat → Option va_E) => G2 = G) (mk_B D vwCl A) A) 0 0 A := by
  refine Met.ofW (cc := cX13_compare) (maxL := 3) (ret := (some .int)) (by decide) rfl ?_
  intro p e s m args below meth c s₁ B hml hv
  obtain ⟨rfl, hG, hK, hA, hX⟩ := hv
  have hx := B.exec
  have hb := B.bytes
  have hr := B.returns
  have hlocks := B.notSynchronized
  have hT := hXT s hX
  have hown : s.vm.findClass RX13 = some m.cls := findClass_of_methodNamed B.named
  have hf_X13 : ∀ w ∈ u_ws RX13 TX13 9, w.before ([.ref o, .int iv] : List Value).toArray s = true := tb_list hT fX13
  have hS : va_S A s.heap s.heap [] := va_S.rf
  have hE := hXE s hX
  have hl := lv_entry ([.ref o, .int iv]) (n := 3) (Nat.le_of_ble_eq_true rfl)
  rw [lg_entry_eq]
  generalize (lg_sl ([.ref o, .int iv]) ++ List.replicate (3 - (lg_sl ([.ref o, .int iv])).length) Slot.unset).toArray = ls at hl ⊢
  have hl : lv_has ls 3 [(0, .ref o), (1, .int iv)] := hl
  have hQ := hXX s hX
  refine lv_aload_n hx hb dX13_compare_0 rfl (lv_at hl 0 rfl) ?_
  refine mm_get (v := .ref ed) hx hb hf_X13 (fun _ h9 => h9) hown hK hG h0 rfl 7 (by decide) (tb_use hT tw_218) (fun _ h9 => h9) rfl dX13_compare_1 ?_
  refine lv_ifnull hx hb dX13_compare_4 ?_
  refine lv_iload_n hx hb dX13_compare_7 rfl (lv_at hl 1 rfl) ?_
  refine lv_iconst (v := 1) hx hb dX13_compare_8 (by decide) ?_
  refine lv_icmp_lt (tgt := 25) hx hb dX13_compare_9 (by decide) (fun c_9 => ?_) (fun c_9 => ?_)
  · skip
    refine lv_iconst (v := (-1)) hx hb dX13_compare_25 (by decide) ?_
    exact W.iret (v := (-1)) hx hb hr (fun t ht hW => ⟨⟨_, _, rfl, rfl, mk_end hG ht⟩, hS.F ht⟩) hS.2.2 dX13_compare_26
  · skip
    refine lv_iload_n hx hb dX13_compare_12 rfl (lv_at hl 1 rfl) ?_
    refine lv_aload_n hx hb dX13_compare_13 rfl (lv_at hl 0 rfl) ?_
    refine mm_get (v := .int (nI kn)) hx hb hf_X13 (fun _ h9 => h9) hown hK hG h0 rfl 6 (by decide) (tb_use hT tw_217) (fun _ h9 => h9) rfl dX13_compare_14 ?_
    refine lv_icmp_gt (tgt := 25) hx hb dX13_compare_17 (by decide) (fun c_17 => ?_) (fun c_17 => ?_)
    · skip
      refine lv_iconst (v := (-1)) hx hb dX13_compare_25 (by decide) ?_
      exact W.iret (v := (-1)) hx hb hr (fun t ht hW => ⟨⟨_, _, rfl, rfl, mk_end hG ht⟩, hS.F ht⟩) hS.2.2 dX13_compare_26
    · skip
      refine lv_iload_n hx hb dX13_compare_20 rfl (lv_at hl 1 rfl) ?_
      refine lv_iconst (v := 4) hx hb dX13_compare_21 (by decide) ?_
      refine lv_icmp_le (tgt := 27) hx hb dX13_compare_22 (by decide) (fun c_22 => ?_) (fun c_22 => ?_)
      · skip
        obtain ⟨k9, hk9, hi9, ho9⟩ := ix_of (i := iv) (n := 4) (by decide) c_9 c_22
        refine lv_aload_n hx hb dX13_compare_27 rfl (lv_at hl 0 rfl) ?_
        refine mm_get (v := .ref kp) hx hb hf_X13 (fun _ h9 => h9) hown hK hG h0 rfl 4 (by decide) (tb_use hT tw_215) (fun _ h9 => h9) rfl dX13_compare_28 ?_
        refine lv_iload_n hx hb dX13_compare_31 rfl (lv_at hl 1 rfl) ?_
        refine lv_iconst (v := 1) hx hb dX13_compare_32 (by decide) ?_
        refine lv_isub hx hb dX13_compare_33 ?_
        rw [show iv - 1 = nI k9 by rw [hi9]; exact nI_pred k9]
        refine mm_aald hx hb hK hG 6 hkp rfl (nI_in (c := k9) (N := 4) hk9 (by decide)) dX13_compare_34 ?_
        have hk0 : k9 < kn := by have z := nI_ge_of (a := kn) (b := k9 + 1) (by omega) (by omega) (by rw [← hi9]; exact Int32.not_lt.mp c_17); omega
        rw [show kf (nI k9).toNatClampNeg = some ed2 by rw [nI_clamp (n := k9) (by omega)]; exact hkf k9 hk0 hi9]
        refine W.eq (g2 := F0 m 35 ls [.ref ed2]) rfl ?_
        refine lv_astore_n (lv' := [(2, .ref ed2), (0, .ref o), (1, .int iv)]) hx hb dX13_compare_35 rfl hl (by decide) rfl (fun ls hl => ?_)
        refine lv_aload_n hx hb dX13_compare_36 rfl (lv_at hl 0 rfl) ?_
        refine lv_ifnonnull (tgt := 44) hx hb dX13_compare_37 (by decide) ?_
        refine lv_aload_n hx hb dX13_compare_44 rfl (lv_at hl 1 rfl) ?_
        refine mm_get (v := .ref ed) hx hb hf_X13 (fun _ h9 => h9) hown hK hG h0 rfl 7 (by decide) (tb_use hT tw_218) (fun _ h9 => h9) rfl dX13_compare_45 ?_
        refine lv_aload_n hx hb dX13_compare_48 rfl (lv_at hl 0 rfl) ?_
        refine va_calli (va_runV (As := [.ref ed2]) (rest := []) ⟨hx, hb, hml, hown, (fun _ h9 => absurd h9 List.not_mem_nil : ∀ w ∈ ([] : List Cond), w.before _ s = true)⟩ (c_Q_count l D cy A X hst hXT e0 tk hXE mi hXL ax adK adV hXX G G0 Bx v z LA EA AD PI G1 By v2 z2 LA2 EA2 AD2 PI2 ed na nc wa iu rs ed2 na2 nc2 wa2 iu2 rs2 hP hZ hP2 hZ2 hed hed2) (tb_cw (C := RX2) 1 hT tw_1285 tw_110 tw_1282 tw_1283 tw_1284 rfl rfl hq_X2_countUnlike ⟨Nat.le_of_ble_eq_true rfl, Nat.le_of_ble_eq_true rfl⟩) (mk_preC hst hG hK hA hX hS vc_3 hed) rfl rfl hl.1 rfl (lv_room (Nat.le_of_ble_eq_true rfl)) dX13_compare_49 ⟨Nat.le_of_ble_eq_true rfl, Nat.le_of_ble_eq_true rfl⟩) hS (fun q _ h => h) (fun q h => h) (fun r21 G22 t H locs ht hvm hw hB hz1 hk1 hS => ?_)
        have hG : mm D vwCl A G22 H := by rw [← ht]; exact hB
        clear hB hz1 hk1 hvm ht
        rw [hw] at hG
        exact W.iret (v := r21) hx hb hr (fun t ht hW => ⟨⟨_, _, rfl, rfl, mk_end hG ht⟩, hS.F ht⟩) hS.2.2 dX13_compare_52
      · skip
        refine lv_iconst (v := (-1)) hx hb dX13_compare_25 (by decide) ?_
        exact W.iret (v := (-1)) hx hb hr (fun t ht hW => ⟨⟨_, _, rfl, rfl, mk_end hG ht⟩, hS.F ht⟩) hS.2.2 dX13_compare_26

set_option maxHeartbeats 4000000 in
set_option maxRecDepth 100000 in
theorem c_H_compareN (l : Launch) (D : va_G) (cy : Nat → ClassId) (A : Nat → Prop) (X : State → Prop) (hst : mk_St A X) (hXT : ∀ U : State, X U → TB U) (e0 : Nat) (tk : Nat → Nat) (hXE : ∀ U : State, X U → ES e0 tk A U) (mi : Nat) (hXL : ∀ U : State, X U → EL e0 mi A U) (ax adK adV : Nat → Nat) (hXX : ∀ U : State, X U → TX ax adK adV tk A U) (G : Nat → Option va_E) (G0 : Nat → Option va_E) (Bx : Nat → Prop) (v : EdV) (z : PtV) (LA EA : Nat → Nat) (AD : Nat → Nat → Nat) (PI : Nat → Nat) (ed na : Nat) (nc wa : Int32) (iu rs : Option Nat) (o tx rd to se kp : Nat) (rg : Option Nat) (tl : Int32) (kn : Nat) (kf : Nat → Option Nat) (iv : Int32) (h0 : G o = some (.inr (14, [.ref tx, .ref rd, .ref to, .ref se, .ref kp, .int tl, .int (nI kn), .ref ed, va_rf rg]))) (hkp : G kp = some (.inl (cy 6, 4, .inr (.inr (.inr (.inr kf)))))) (hkn : kn ≤ 4) (hP : EDP cy e0 tk G0 Bx G v z LA EA AD PI) (hed : G ed = some (.inr (3, [.ref (LA 0), .ref (LA 1), .ref (LA 2), .ref (LA 3), .ref (LA 4), .ref (LA 5), .ref na, .int nc, va_rf iu, .int wa, va_rf rs]))) (hno : ∀ k, k < kn → ¬ iv = nI (k + 1)) : Met l yX13_compare [.code yX13_compare cX13_compare 3 (some .int)] ({ frames := 8, cells := 0, slots := 0, locals := 240 }) (mk_Pre D vwCl (tyL cy) A X G [.ref o, .int iv]) (va_Qi (fun (r : Int32) (G2 : Nat → Option va_E) => G2 = G) (mk_B D vwCl A) A) 0 0 A := by
  refine Met.ofW (cc := cX13_compare) (maxL := 3) (ret := (some .int)) (by decide) rfl ?_
  intro p e s m args below meth c s₁ B hml hv
  obtain ⟨rfl, hG, hK, hA, hX⟩ := hv
  have hx := B.exec
  have hb := B.bytes
  have hr := B.returns
  have hlocks := B.notSynchronized
  have hT := hXT s hX
  have hown : s.vm.findClass RX13 = some m.cls := findClass_of_methodNamed B.named
  have hf_X13 : ∀ w ∈ u_ws RX13 TX13 9, w.before ([.ref o, .int iv] : List Value).toArray s = true := tb_list hT fX13
  have hS : va_S A s.heap s.heap [] := va_S.rf
  have hE := hXE s hX
  have hl := lv_entry ([.ref o, .int iv]) (n := 3) (Nat.le_of_ble_eq_true rfl)
  rw [lg_entry_eq]
  generalize (lg_sl ([.ref o, .int iv]) ++ List.replicate (3 - (lg_sl ([.ref o, .int iv])).length) Slot.unset).toArray = ls at hl ⊢
  have hl : lv_has ls 3 [(0, .ref o), (1, .int iv)] := hl
  have hQ := hXX s hX
  refine lv_aload_n hx hb dX13_compare_0 rfl (lv_at hl 0 rfl) ?_
  refine mm_get (v := .ref ed) hx hb hf_X13 (fun _ h9 => h9) hown hK hG h0 rfl 7 (by decide) (tb_use hT tw_218) (fun _ h9 => h9) rfl dX13_compare_1 ?_
  refine lv_ifnull hx hb dX13_compare_4 ?_
  refine lv_iload_n hx hb dX13_compare_7 rfl (lv_at hl 1 rfl) ?_
  refine lv_iconst (v := 1) hx hb dX13_compare_8 (by decide) ?_
  refine lv_icmp_lt (tgt := 25) hx hb dX13_compare_9 (by decide) (fun c_9 => ?_) (fun c_9 => ?_)
  · skip
    refine lv_iconst (v := (-1)) hx hb dX13_compare_25 (by decide) ?_
    exact W.iret (v := (-1)) hx hb hr (fun t ht hW => ⟨⟨_, _, rfl, rfl, mk_end hG ht⟩, hS.F ht⟩) hS.2.2 dX13_compare_26
  · skip
    refine lv_iload_n hx hb dX13_compare_12 rfl (lv_at hl 1 rfl) ?_
    refine lv_aload_n hx hb dX13_compare_13 rfl (lv_at hl 0 rfl) ?_
    refine mm_get (v := .int (nI kn)) hx hb hf_X13 (fun _ h9 => h9) hown hK hG h0 rfl 6 (by decide) (tb_use hT tw_217) (fun _ h9 => h9) rfl dX13_compare_14 ?_
    refine lv_icmp_gt (tgt := 25) hx hb dX13_compare_17 (by decide) (fun c_17 => ?_) (fun c_17 => ?_)
    · skip
      refine lv_iconst (v := (-1)) hx hb dX13_compare_25 (by decide) ?_
      exact W.iret (v := (-1)) hx hb hr (fun t ht hW => ⟨⟨_, _, rfl, rfl, mk_end hG ht⟩, hS.F ht⟩) hS.2.2 dX13_compare_26
    · skip
      refine lv_iload_n hx hb dX13_compare_20 rfl (lv_at hl 1 rfl) ?_
      refine lv_iconst (v := 4) hx hb dX13_compare_21 (by decide) ?_
      refine lv_icmp_le (tgt := 27) hx hb dX13_compare_22 (by decide) (fun c_22 => ?_) (fun c_22 => ?_)
      · skip
        obtain ⟨k9, hk9, hi9, ho9⟩ := ix_of (i := iv) (n := 4) (by decide) c_9 c_22
        have hk0 : k9 < kn := by have z := nI_ge_of (a := kn) (b := k9 + 1) (by omega) (by omega) (by rw [← hi9]; exact Int32.not_lt.mp c_17); omega
        exact absurd hi9 (hno k9 hk0)
      · skip
        refine lv_iconst (v := (-1)) hx hb dX13_compare_25 (by decide) ?_
        exact W.iret (v := (-1)) hx hb hr (fun t ht hW => ⟨⟨_, _, rfl, rfl, mk_end hG ht⟩, hS.F ht⟩) hS.2.2 dX13_compare_26
