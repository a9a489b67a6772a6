set_option maxHeartbeats 40000000 in
set_option maxRecDepth 100000 in
theorem law_loop {p : Program} {e : Env} {s : State} {m : MethodId} {below : List Frame} {meth : Method} {c : Code} (l : Launch) (hpl : ∀ e : Env, l.admits e → e.platform.stackTraces = false) {b L : Nat} {xs : Nat → Int32} (hL : L ≤ 2560) (C0 : lw_At p s m meth c b L xs) {D : va_G} {cy : Nat → ClassId} (hK : va_K D vwCl (tyL cy) s) {A : Nat → Prop} (eA : A = fun q : Nat => s.heap.size ≤ q) {X : State → Prop} (hst : mk_St A X) (hXT : ∀ U : State, X U → TB U) {e0 : Nat} {tk : Nat → Nat} (hXE : ∀ U : State, X U → ES e0 tk A U) {mi : Nat} (hXL : ∀ U : State, X U → EL e0 mi A U) {ax adK adV : Nat → Nat} (hXX : ∀ U : State, X U → TX ax adK adV tk A U) (hXH : ∀ U : State, X U → TH A U) (hX : X s) {Vq : Nat → Prop} {ox mo wa : Nat} (hVwa : ¬ Vq wa) : ∀ (n : Nat) (j uc us tn N : Nat) (ft : Nat → Int32) (fe : Nat → Nat → Int32) (ne : Nat → Nat) (ui : Option Nat) (lf : Nat → Int32) (lt ln : Nat) (fo : Nat → Int32) (lv0 : Nat → Int64), (n + j = 512) → (N ≤ j) → (uc ≤ 69 + 960 * j) → (tn ≠ 0 → uc + 960 ≤ 69 + 960 * j) → (us ≤ 60000 + 13714 * j) → ∀ (Gv : Nat → Option va_E), (CSU cy e0 tk (fun x => Vq x ∨ x = wa) Gv ox tn ft N fe ne ui lf lt ln fo) → (RSV cy Vq Gv mo tn ft N fe ne ui lf lt ln fo) → (Gv wa = some (.inl (cy 2, 1, .inr (.inl lv0)))) → ∀ (H : Heap) (locs : List Loc), mm D vwCl A Gv H → va_S A s.heap H locs → ∀ ls : Array Slot, lv_has ls 7 [(0, .ref b), (1, .ref ox), (2, .ref mo), (3, .ref wa), (4, .int (nI (5 * j)))] → W p l e room_1 s m ([.ref b] : List Value).toArray below meth c H locs uc us (lw_Z below #[Value.ref b] s) (F0 m 23 ls []) := by
  obtain ⟨hx, hb, hr, hml, hown, hts, hX0, hbl, hlocks, hgv⟩ := C0
  have hT := TB_of hts
  have hA : ∀ q : Nat, s.heap.size ≤ q → A q := fun q h => by rw [eA]; exact h
  have hbA : ¬ A b := by rw [eA]; exact Nat.not_le.mpr hbl
  intro n
  induction n with
  | zero =>
    intro j uc us tn N ft fe ne ui lf lt ln fo lv0 hjn hNj hu0 hu1 hu2 Gv hC hR hwa H locs hG hS ls hl
    refine lv_iload hx hb dL_law_23 (lv_at hl 4 rfl) ?_
    refine lv_aload_n hx hb dL_law_25 rfl (lv_at hl 0 rfl) ?_
    refine va_slen hx hb hX0 hbl hbA hS dL_law_26 ?_
    refine lv_iconst (v := 5) hx hb dL_law_27 (by decide) ?_
    refine lv_isub hx hb dL_law_28 ?_
    refine lv_topi (fun x1 ex1 => ?_)
    refine lv_icmp_gt (tgt := 585) hx hb dL_law_29 (by decide) (fun c_29 => ?_) (fun c_29 => ?_)
    · skip
      refine lv_iconst (v := 1) hx hb dL_law_585 (by decide) ?_
      refine va_forget (fun q hq => by have hz := hS.2.2 q hq; rw [eA] at hz; exact hz) ?_
      refine W.widen (k := 601024) (n := 7293034) (by omega) (by omega) ?_
      exact lw_ret hx hb hr hlocks dL_law_586
    · skip
      exact absurd (lw_cmp hL (by omega) ex1 c_29) (by omega)
  | succ n ih =>
    intro j uc us tn N ft fe ne ui lf lt ln fo lv0 hjn hNj hu0 hu1 hu2 Gv hC hR hwa H locs hG hS ls hl
    refine lv_iload hx hb dL_law_23 (lv_at hl 4 rfl) ?_
    refine lv_aload_n hx hb dL_law_25 rfl (lv_at hl 0 rfl) ?_
    refine va_slen hx hb hX0 hbl hbA hS dL_law_26 ?_
    refine lv_iconst (v := 5) hx hb dL_law_27 (by decide) ?_
    refine lv_isub hx hb dL_law_28 ?_
    refine lv_topi (fun x2 ex2 => ?_)
    refine lv_icmp_gt (tgt := 585) hx hb dL_law_29 (by decide) (fun c_29 => ?_) (fun c_29 => ?_)
    · skip
      refine lv_iconst (v := 1) hx hb dL_law_585 (by decide) ?_
      refine va_forget (fun q hq => by have hz := hS.2.2 q hq; rw [eA] at hz; exact hz) ?_
      refine W.widen (k := 601024) (n := 7293034) (by omega) (by omega) ?_
      exact lw_ret hx hb hr hlocks dL_law_586
    · skip
      have h5 : 5 * j + 5 ≤ L := lw_cmp hL (by omega) ex2 c_29
      refine lv_aload_n hx hb dL_law_32 rfl (lv_at hl 0 rfl) ?_
      refine lv_iload hx hb dL_law_33 (lv_at hl 4 rfl) ?_
      refine va_sld hx hb hX0 hbl hbA hS (i := (nI (5 * j))) (lw_in (k := 5 * j) hL rfl (by omega)) dL_law_35 ?_
      refine lv_topi (fun x3 ex3 => ?_)
      refine lv_bipush (v := 15) hx hb dL_law_36 (by decide) ?_
      refine lv_iand hx hb dL_law_38 ?_
      by_cases sw_39 : (x3 &&& 15).toInt < 0 ∨ 12 < (x3 &&& 15).toInt
      · skip
        refine lv_tableOut (tgt := 579) hx hb dL_law_39 sw_39 (by decide) ?_
        obtain ⟨x4, ex4⟩ : ∃ y : Int32, y = (nI (5 * j)) + 5 := ⟨_, rfl⟩
        refine lv_iinc (v := x4) (lv' := [(4, .int x4), (0, .ref b), (1, .ref ox), (2, .ref mo), (3, .ref wa)]) hx hb dL_law_579 hl (k := 4) rfl (by rw [ex4]; rfl) (by decide) rfl (fun ls hl => ?_)
        refine lv_goto (tgt := 23) hx hb dL_law_582 (by decide) ?_
        rw [show x4 = nI (5 * (j + 1)) by rw [ex4]; exact nI_d (5 * j) 5] at hl
        refine W.widen (k := uc) (n := us) (by omega) (by omega) ?_
        exact ih (j + 1) (uc) (us) tn N ft fe ne ui lf lt ln fo lv0 (by omega) (by omega) (by omega) (fun h => by have := hu1 h; omega) (by omega) Gv hC hR hwa _ _ hG hS ls (lv_sub hl [1, 2, 3, 4, 0] rfl)
      · skip
        have hlo : ¬ (x3 &&& 15).toInt < 0 := fun z => sw_39 (Or.inl z)
        have hhi : ¬ 12 < (x3 &&& 15).toInt := fun z => sw_39 (Or.inr z)
        have hcs : (x3 &&& 15).toInt = 0 ∨ (x3 &&& 15).toInt = 1 ∨ (x3 &&& 15).toInt = 2 ∨ (x3 &&& 15).toInt = 3 ∨ (x3 &&& 15).toInt = 4 ∨ (x3 &&& 15).toInt = 5 ∨ (x3 &&& 15).toInt = 6 ∨ (x3 &&& 15).toInt = 7 ∨ (x3 &&& 15).toInt = 8 ∨ (x3 &&& 15).toInt = 9 ∨ (x3 &&& 15).toInt = 10 ∨ (x3 &&& 15).toInt = 11 ∨ (x3 &&& 15).toInt = 12 := by omega
        rcases hcs with sw_39 | sw_39 | sw_39 | sw_39 | sw_39 | sw_39 | sw_39 | sw_39 | sw_39 | sw_39 | sw_39 | sw_39 | sw_39
        · skip
          refine lv_tableIn (tgt := 104) hx hb dL_law_39 hlo hhi (off := 65) (by rw [sw_39]; rfl) (by decide) ?_
          refine lv_aload_n hx hb dL_law_104 rfl (lv_at hl 1 rfl) ?_
          refine lv_aload_n hx hb dL_law_105 rfl (lv_at hl 0 rfl) ?_
          refine lv_iload hx hb dL_law_106 (lv_at hl 4 rfl) ?_
          refine lv_iconst (v := 1) hx hb dL_law_108 (by decide) ?_
          refine lv_iadd hx hb dL_law_109 ?_
          refine lv_topi (fun x5 ex5 => ?_)
          refine va_sld hx hb hX0 hbl hbA hS (i := x5) (lw_in (k := 5 * j + 1) hL (by rw [ex5]; exact nI_d (5 * j) 1) (by omega)) dL_law_110 ?_
          refine lv_topi (fun x6 ex6 => ?_)
          obtain ⟨tn2, ft2, hl2, hsg1, hsg2⟩ := sgmU (cv := x6) (tn := tn) (f := ft) hC.obj.2
          obtain ⟨⟨fs9, hox⟩, -⟩ := hC.obj
          refine va_callv (va_runV (As := [.int x6]) (rest := []) ⟨hx, hb, hml, hown, (fun _ h9 => absurd h9 List.not_mem_nil : ∀ w ∈ ([] : List Cond), w.before _ s = true)⟩ (k2_sign l D cy A X hst hXT e0 tk hXE mi hXL ax adK adV hXX Gv (fun x => Vq x ∨ x = wa) ox tn ft N fe ne ui lf lt ln fo hC x6 tn2 ft2 hl2 hsg1) (tb_cw (C := RX13) 1 hT tw_242 tw_105 tw_239 tw_240 tw_241 rfl rfl hq_X13_sign ⟨Nat.le_of_ble_eq_true rfl, Nat.le_of_ble_eq_true rfl⟩) (mk_preC hst hG hK hA hX hS vc_14 hox) rfl rfl hl.1 rfl (lv_room (Nat.le_of_ble_eq_true rfl)) dL_law_111 ⟨(by show uc + 0 ≤ 601024; omega), (by show us + 0 ≤ 7293034; omega)⟩) hS (fun q _ h => h) (fun q h => h) (fun  G7 t H locs ht hvm hw hB hz1 hk1 hS => ?_)
          have hG : mm D vwCl A G7 H := by rw [← ht]; exact hB
          clear hB hz1 hk1 hvm ht
          obtain ⟨hC, hKW⟩ := hw
          replace hR := hR.mv (fun x e z => hKW x e (Or.inl z))
          replace hwa := hKW _ _ (Or.inr rfl) hwa
          clear hox
          refine lv_aload_n hx hb dL_law_114 rfl (lv_at hl 2 rfl) ?_
          refine lv_aload_n hx hb dL_law_115 rfl (lv_at hl 0 rfl) ?_
          refine lv_iload hx hb dL_law_116 (lv_at hl 4 rfl) ?_
          refine lv_iconst (v := 1) hx hb dL_law_118 (by decide) ?_
          refine lv_iadd hx hb dL_law_119 ?_
          refine lv_topi (fun x8 ex8 => ?_)
          refine va_sld hx hb hX0 hbl hbA hS (i := x8) (lw_in (k := 5 * j + 1) hL (by rw [ex8]; exact nI_d (5 * j) 1) (by omega)) dL_law_120 ?_
          refine lv_topi (fun x9 ex9 => ?_)
          have hsv0 : x9 = x6 := by rw [ex9, ex8, ex6, ex5]
          obtain ⟨fs9, hmo⟩ := hR.obj
          have hsg3 : ∀ f, SGR tn ft f → ∃ g, sm_n x9 4 24 (nI tn, f) = (nI tn2, g) ∧ SGR tn2 ft2 g := by rw [hsv0]; exact hsg2
          refine va_callv (va_runV (As := [.int x9]) (rest := []) ⟨hx, hb, hml, hown, (fun _ h9 => absurd h9 List.not_mem_nil : ∀ w ∈ ([] : List Cond), w.before _ s = true)⟩ (m2_sign l D cy A X hst hXT G7 Vq mo tn ft N fe ne ui lf lt ln fo hR (by omega) x9 tn2 ft2 hl2 hsg3) (tb_cw (C := RX14) 1 hT tw_1624 tw_109 tw_1621 tw_1622 tw_1623 rfl rfl hq_X14_sign ⟨Nat.le_of_ble_eq_true rfl, Nat.le_of_ble_eq_true rfl⟩) (mk_preC hst hG hK hA hX hS vc_15 hmo) rfl rfl hl.1 rfl (lv_room (Nat.le_of_ble_eq_true rfl)) dL_law_121 ⟨(by show uc + 0 + 0 ≤ 601024; omega), (by show us + 0 + 0 ≤ 7293034; omega)⟩) hS (fun q _ h => h) (fun q h => h) (fun  G10 t H locs ht hvm hw hB hz1 hk1 hS => ?_)
          have hG : mm D vwCl A G10 H := by rw [← ht]; exact hB
          clear hB hz1 hk1 hvm ht
          obtain ⟨hR, hFV⟩ := hw
          replace hC := hC.mvF hFV
          replace hwa := hFV.1 _ _ hVwa hwa
          clear hmo
          refine lv_goto (tgt := 579) hx hb dL_law_124 (by decide) ?_
          obtain ⟨x11, ex11⟩ : ∃ y : Int32, y = (nI (5 * j)) + 5 := ⟨_, rfl⟩
          refine lv_iinc (v := x11) (lv' := [(4, .int x11), (0, .ref b), (1, .ref ox), (2, .ref mo), (3, .ref wa)]) hx hb dL_law_579 hl (k := 4) rfl (by rw [ex11]; rfl) (by decide) rfl (fun ls hl => ?_)
          refine lv_goto (tgt := 23) hx hb dL_law_582 (by decide) ?_
          rw [show x11 = nI (5 * (j + 1)) by rw [ex11]; exact nI_d (5 * j) 5] at hl
          refine W.widen (k := uc) (n := us) (by omega) (by omega) ?_
          exact ih (j + 1) (uc) (us) tn2 N ft2 fe ne ui lf lt ln fo lv0 (by omega) (by omega) (by omega) (fun _ => by omega) (by omega) G10 hC hR hwa _ _ hG hS ls (lv_sub hl [1, 2, 3, 4, 0] rfl)
        · skip
          refine lv_tableIn (tgt := 127) hx hb dL_law_39 hlo hhi (off := 88) (by rw [sw_39]; rfl) (by decide) ?_
          refine lv_aload_n hx hb dL_law_127 rfl (lv_at hl 1 rfl) ?_
          have hrc := rdc_le tn
          obtain ⟨⟨fs9, hox⟩, -⟩ := hC.obj
          refine va_calli (va_runV (As := []) (rest := []) ⟨hx, hb, hml, hown, (fun _ h9 => absurd h9 List.not_mem_nil : ∀ w ∈ ([] : List Cond), w.before _ s = true)⟩ (k2_readc l D cy A X hst hXT e0 tk hXE mi hXL ax adK adV hXX Gv (fun x => Vq x ∨ x = wa) ox tn ft N fe ne ui lf lt ln fo hC ) (tb_cw (C := RX13) 0 hT tw_246 tw_105 tw_243 tw_244 tw_245 rfl rfl hq_X13_read ⟨Nat.le_of_ble_eq_true rfl, Nat.le_of_ble_eq_true rfl⟩) (mk_preC hst hG hK hA hX hS vc_14 hox) rfl rfl hl.1 rfl (lv_room (Nat.le_of_ble_eq_true rfl)) dL_law_128 ⟨(by show uc + rdc tn ≤ 601024; omega), (by show us + 13714 ≤ 7293034; omega)⟩) hS (fun q _ h => h) (fun q h => h) (fun r12 G13 t H locs ht hvm hw hB hz1 hk1 hS => ?_)
          have hG : mm D vwCl A G13 H := by rw [← ht]; exact hB
          clear hB hz1 hk1 hvm ht
          obtain ⟨er12, hCs, hCf, hKW⟩ := hw
          replace hR := hR.mv (fun x e z => hKW x e (Or.inl z))
          replace hwa := hKW _ _ (Or.inr rfl) hwa
          clear hox
          refine lv_pop hx hb dL_law_131 rfl ?_
          refine lv_aload_n hx hb dL_law_132 rfl (lv_at hl 2 rfl) ?_
          obtain ⟨fs9, hmo⟩ := hR.obj
          refine va_calli (va_runV (As := []) (rest := []) ⟨hx, hb, hml, hown, (fun _ h9 => absurd h9 List.not_mem_nil : ∀ w ∈ ([] : List Cond), w.before _ s = true)⟩ (m2_read l D cy A X hst hXT G13 Vq mo tn ft N fe ne ui lf lt ln fo hR (by omega) ) (tb_cw (C := RX14) 0 hT tw_1628 tw_109 tw_1625 tw_1626 tw_1627 rfl rfl hq_X14_read ⟨Nat.le_of_ble_eq_true rfl, Nat.le_of_ble_eq_true rfl⟩) (mk_preC hst hG hK hA hX hS vc_15 hmo) rfl rfl hl.1 rfl (lv_room (Nat.le_of_ble_eq_true rfl)) dL_law_133 ⟨(by show uc + rdc tn + 0 ≤ 601024; omega), (by show us + 13714 + 0 ≤ 7293034; omega)⟩) hS (fun q _ h => h) (fun q h => h) (fun r14 G15 t H locs ht hvm hw hB hz1 hk1 hS => ?_)
          have hG : mm D vwCl A G15 H := by rw [← ht]; exact hB
          clear hB hz1 hk1 hvm ht
          obtain ⟨er14, hRs, hRf, hFV⟩ := hw
          replace hwa := hFV.1 _ _ hVwa hwa
          clear hmo
          refine lv_pop hx hb dL_law_136 rfl ?_
          refine lv_goto (tgt := 579) hx hb dL_law_137 (by decide) ?_
          obtain ⟨x16, ex16⟩ : ∃ y : Int32, y = (nI (5 * j)) + 5 := ⟨_, rfl⟩
          refine lv_iinc (v := x16) (lv' := [(4, .int x16), (0, .ref b), (1, .ref ox), (2, .ref mo), (3, .ref wa)]) hx hb dL_law_579 hl (k := 4) rfl (by rw [ex16]; rfl) (by decide) rfl (fun ls hl => ?_)
          refine lv_goto (tgt := 23) hx hb dL_law_582 (by decide) ?_
          rw [show x16 = nI (5 * (j + 1)) by rw [ex16]; exact nI_d (5 * j) 5] at hl
          refine W.widen (k := uc + rdc tn) (n := us + 13714) (by omega) (by omega) ?_
          obtain ⟨N2, fe2, ne2, ui2, hN2, hC2, hR2⟩ : ∃ (N2 : Nat) (fe2 : Nat → Nat → Int32) (ne2 : Nat → Nat) (ui2 : Option Nat), N2 ≤ j + 1 ∧ CSU cy e0 tk (fun x => Vq x ∨ x = wa) G15 ox 0 ft N2 fe2 ne2 ui2 ft tn ln fo ∧ RSV cy Vq G15 mo 0 ft N2 fe2 ne2 ui2 ft tn ln fo := by
            by_cases hp : rdP ft tn < 0
            · exact ⟨_, _, _, _, by omega, (hCs hp).mvF hFV, hRs hp⟩
            · exact ⟨_, _, _, _, by omega, (hCf hp).mvF hFV, hRf hp⟩
          have hu2 : uc + rdc tn ≤ 69 + 960 * (j + 1) := by
            by_cases h0 : tn = 0
            · rw [rdc_0 h0]; omega
            · have := hu1 h0; have := rdc_le tn; omega
          exact ih (j + 1) (uc + rdc tn) (us + 13714) 0 N2 ft fe2 ne2 ui2 ft tn ln fo lv0 (by omega) hN2 hu2 (fun h => absurd rfl h) (by omega) G15 hC2 hR2 hwa _ _ hG hS ls (lv_sub hl [1, 2, 3, 4, 0] rfl)
        · skip
          refine lv_tableIn (tgt := 140) hx hb dL_law_39 hlo hhi (off := 101) (by rw [sw_39]; rfl) (by decide) ?_
          refine lv_aload_n hx hb dL_law_140 rfl (lv_at hl 1 rfl) ?_
          refine lv_aload_n hx hb dL_law_141 rfl (lv_at hl 0 rfl) ?_
          refine lv_iload hx hb dL_law_142 (lv_at hl 4 rfl) ?_
          refine lv_iconst (v := 1) hx hb dL_law_144 (by decide) ?_
          refine lv_iadd hx hb dL_law_145 ?_
          refine lv_topi (fun x17 ex17 => ?_)
          refine va_sld hx hb hX0 hbl hbA hS (i := x17) (lw_in (k := 5 * j + 1) hL (by rw [ex17]; exact nI_d (5 * j) 1) (by omega)) dL_law_146 ?_
          refine lv_topi (fun x18 ex18 => ?_)
          refine lv_aload_n hx hb dL_law_147 rfl (lv_at hl 0 rfl) ?_
          refine lv_iload hx hb dL_law_148 (lv_at hl 4 rfl) ?_
          refine lv_iconst (v := 2) hx hb dL_law_150 (by decide) ?_
          refine lv_iadd hx hb dL_law_151 ?_
          refine lv_topi (fun x19 ex19 => ?_)
          refine va_sld hx hb hX0 hbl hbA hS (i := x19) (lw_in (k := 5 * j + 2) hL (by rw [ex19]; exact nI_d (5 * j) 2) (by omega)) dL_law_152 ?_
          refine lv_topi (fun x20 ex20 => ?_)
          obtain ⟨⟨fs9, hox⟩, -⟩ := hC.obj
          refine va_calli (va_runV (As := [.int x18, .int x20]) (rest := []) ⟨hx, hb, hml, hown, (fun _ h9 => absurd h9 List.not_mem_nil : ∀ w ∈ ([] : List Cond), w.before _ s = true)⟩ (k2_service l D cy A X hst hXT e0 tk hXE mi hXL ax adK adV hXX Gv (fun x => Vq x ∨ x = wa) ox tn ft N fe ne ui lf lt ln fo hC x18 x20) (tb_cw (C := RX13) 2 hT tw_1086 tw_105 tw_1083 tw_1084 tw_1085 rfl rfl hq_X13_service ⟨Nat.le_of_ble_eq_true rfl, Nat.le_of_ble_eq_true rfl⟩) (mk_preC hst hG hK hA hX hS vc_14 hox) rfl rfl hl.1 rfl (lv_room (Nat.le_of_ble_eq_true rfl)) dL_law_153 ⟨(by show uc + 0 ≤ 601024; omega), (by show us + 0 ≤ 7293034; omega)⟩) hS (fun q _ h => h) (fun q h => h) (fun r21 G22 t H locs ht hvm hw hB hz1 hk1 hS => ?_)
          have hG : mm D vwCl A G22 H := by rw [← ht]; exact hB
          clear hB hz1 hk1 hvm ht
          obtain ⟨er21, hC, hKW⟩ := hw
          replace hR := hR.mv (fun x e z => hKW x e (Or.inl z))
          replace hwa := hKW _ _ (Or.inr rfl) hwa
          clear hox
          refine lv_pop hx hb dL_law_156 rfl ?_
          refine lv_aload_n hx hb dL_law_157 rfl (lv_at hl 2 rfl) ?_
          refine lv_aload_n hx hb dL_law_158 rfl (lv_at hl 0 rfl) ?_
          refine lv_iload hx hb dL_law_159 (lv_at hl 4 rfl) ?_
          refine lv_iconst (v := 1) hx hb dL_law_161 (by decide) ?_
          refine lv_iadd hx hb dL_law_162 ?_
          refine lv_topi (fun x23 ex23 => ?_)
          refine va_sld hx hb hX0 hbl hbA hS (i := x23) (lw_in (k := 5 * j + 1) hL (by rw [ex23]; exact nI_d (5 * j) 1) (by omega)) dL_law_163 ?_
          refine lv_topi (fun x24 ex24 => ?_)
          refine lv_aload_n hx hb dL_law_164 rfl (lv_at hl 0 rfl) ?_
          refine lv_iload hx hb dL_law_165 (lv_at hl 4 rfl) ?_
          refine lv_iconst (v := 2) hx hb dL_law_167 (by decide) ?_
          refine lv_iadd hx hb dL_law_168 ?_
          refine lv_topi (fun x25 ex25 => ?_)
          refine va_sld hx hb hX0 hbl hbA hS (i := x25) (lw_in (k := 5 * j + 2) hL (by rw [ex25]; exact nI_d (5 * j) 2) (by omega)) dL_law_169 ?_
          refine lv_topi (fun x26 ex26 => ?_)
          have hsv0 : x24 = x18 := by rw [ex24, ex23, ex18, ex17]
          have hsv1 : x26 = x20 := by rw [ex26, ex25, ex20, ex19]
          obtain ⟨fs9, hmo⟩ := hR.obj
          refine va_calli (va_runV (As := [.int x24, .int x26]) (rest := []) ⟨hx, hb, hml, hown, (fun _ h9 => absurd h9 List.not_mem_nil : ∀ w ∈ ([] : List Cond), w.before _ s = true)⟩ (m2_service l D cy A X hst hXT G22 Vq mo tn ft N fe ne ui lf lt ln fo hR (by omega) x24 x26) (tb_cw (C := RX14) 2 hT tw_1806 tw_109 tw_1803 tw_1804 tw_1805 rfl rfl hq_X14_service ⟨Nat.le_of_ble_eq_true rfl, Nat.le_of_ble_eq_true rfl⟩) (mk_preC hst hG hK hA hX hS vc_15 hmo) rfl rfl hl.1 rfl (lv_room (Nat.le_of_ble_eq_true rfl)) dL_law_170 ⟨(by show uc + 0 + 0 ≤ 601024; omega), (by show us + 0 + 0 ≤ 7293034; omega)⟩) hS (fun q _ h => h) (fun q h => h) (fun r27 G28 t H locs ht hvm hw hB hz1 hk1 hS => ?_)
          have hG : mm D vwCl A G28 H := by rw [← ht]; exact hB
          clear hB hz1 hk1 hvm ht
          rw [hsv0, hsv1] at hw
          obtain ⟨er27, hR, hFV⟩ := hw
          replace hC := hC.mvF hFV
          replace hwa := hFV.1 _ _ hVwa hwa
          clear hmo
          refine lv_pop hx hb dL_law_173 rfl ?_
          refine lv_goto (tgt := 579) hx hb dL_law_174 (by decide) ?_
          obtain ⟨x29, ex29⟩ : ∃ y : Int32, y = (nI (5 * j)) + 5 := ⟨_, rfl⟩
          refine lv_iinc (v := x29) (lv' := [(4, .int x29), (0, .ref b), (1, .ref ox), (2, .ref mo), (3, .ref wa)]) hx hb dL_law_579 hl (k := 4) rfl (by rw [ex29]; rfl) (by decide) rfl (fun ls hl => ?_)
          refine lv_goto (tgt := 23) hx hb dL_law_582 (by decide) ?_
          rw [show x29 = nI (5 * (j + 1)) by rw [ex29]; exact nI_d (5 * j) 5] at hl
          refine W.widen (k := uc) (n := us) (by omega) (by omega) ?_
          exact ih (j + 1) (uc) (us) tn N ft fe ne ui lf lt ln fo lv0 (by omega) (by omega) (by omega) (fun h => by have := hu1 h; omega) (by omega) G28 hC hR hwa _ _ hG hS ls (lv_sub hl [1, 2, 3, 4, 0] rfl)
        · skip
          refine lv_tableIn (tgt := 177) hx hb dL_law_39 hlo hhi (off := 138) (by rw [sw_39]; rfl) (by decide) ?_
          refine lv_aload_n hx hb dL_law_177 rfl (lv_at hl 1 rfl) ?_
          refine lv_aload_n hx hb dL_law_178 rfl (lv_at hl 0 rfl) ?_
          refine lv_iload hx hb dL_law_179 (lv_at hl 4 rfl) ?_
          refine lv_iconst (v := 1) hx hb dL_law_181 (by decide) ?_
          refine lv_iadd hx hb dL_law_182 ?_
          refine lv_topi (fun x30 ex30 => ?_)
          refine va_sld hx hb hX0 hbl hbA hS (i := x30) (lw_in (k := 5 * j + 1) hL (by rw [ex30]; exact nI_d (5 * j) 1) (by omega)) dL_law_183 ?_
          refine lv_topi (fun x31 ex31 => ?_)
          refine lv_aload_n hx hb dL_law_184 rfl (lv_at hl 0 rfl) ?_
          refine lv_iload hx hb dL_law_185 (lv_at hl 4 rfl) ?_
          refine lv_iconst (v := 2) hx hb dL_law_187 (by decide) ?_
          refine lv_iadd hx hb dL_law_188 ?_
          refine lv_topi (fun x32 ex32 => ?_)
          refine va_sld hx hb hX0 hbl hbA hS (i := x32) (lw_in (k := 5 * j + 2) hL (by rw [ex32]; exact nI_d (5 * j) 2) (by omega)) dL_law_189 ?_
          refine lv_topi (fun x33 ex33 => ?_)
          refine lv_aload_n hx hb dL_law_190 rfl (lv_at hl 0 rfl) ?_
          refine lv_iload hx hb dL_law_191 (lv_at hl 4 rfl) ?_
          refine lv_iconst (v := 3) hx hb dL_law_193 (by decide) ?_
          refine lv_iadd hx hb dL_law_194 ?_
          refine lv_topi (fun x34 ex34 => ?_)
          refine va_sld hx hb hX0 hbl hbA hS (i := x34) (lw_in (k := 5 * j + 3) hL (by rw [ex34]; exact nI_d (5 * j) 3) (by omega)) dL_law_195 ?_
          refine lv_topi (fun x35 ex35 => ?_)
          obtain ⟨⟨fs9, hox⟩, -⟩ := hC.obj
          refine va_calli (va_runV (As := [.int x31, .int x33, .int x35]) (rest := []) ⟨hx, hb, hml, hown, (fun _ h9 => absurd h9 List.not_mem_nil : ∀ w ∈ ([] : List Cond), w.before _ s = true)⟩ (k2_parameter l D cy A X hst hXT e0 tk hXE mi hXL ax adK adV hXX Gv (fun x => Vq x ∨ x = wa) ox tn ft N fe ne ui lf lt ln fo hC x31 x33 x35) (tb_cw (C := RX13) 3 hT tw_1100 tw_105 tw_1097 tw_1098 tw_1099 rfl rfl hq_X13_parameter ⟨Nat.le_of_ble_eq_true rfl, Nat.le_of_ble_eq_true rfl⟩) (mk_preC hst hG hK hA hX hS vc_14 hox) rfl rfl hl.1 rfl (lv_room (Nat.le_of_ble_eq_true rfl)) dL_law_196 ⟨(by show uc + 0 ≤ 601024; omega), (by show us + 0 ≤ 7293034; omega)⟩) hS (fun q _ h => h) (fun q h => h) (fun r36 G37 t H locs ht hvm hw hB hz1 hk1 hS => ?_)
          have hG : mm D vwCl A G37 H := by rw [← ht]; exact hB
          clear hB hz1 hk1 hvm ht
          obtain ⟨er36, hC, hKW⟩ := hw
          replace hR := hR.mv (fun x e z => hKW x e (Or.inl z))
          replace hwa := hKW _ _ (Or.inr rfl) hwa
          clear hox
          refine lv_pop hx hb dL_law_199 rfl ?_
          refine lv_aload_n hx hb dL_law_200 rfl (lv_at hl 2 rfl) ?_
          refine lv_aload_n hx hb dL_law_201 rfl (lv_at hl 0 rfl) ?_
          refine lv_iload hx hb dL_law_202 (lv_at hl 4 rfl) ?_
          refine lv_iconst (v := 1) hx hb dL_law_204 (by decide) ?_
          refine lv_iadd hx hb dL_law_205 ?_
          refine lv_topi (fun x38 ex38 => ?_)
          refine va_sld hx hb hX0 hbl hbA hS (i := x38) (lw_in (k := 5 * j + 1) hL (by rw [ex38]; exact nI_d (5 * j) 1) (by omega)) dL_law_206 ?_
          refine lv_topi (fun x39 ex39 => ?_)
          refine lv_aload_n hx hb dL_law_207 rfl (lv_at hl 0 rfl) ?_
          refine lv_iload hx hb dL_law_208 (lv_at hl 4 rfl) ?_
          refine lv_iconst (v := 2) hx hb dL_law_210 (by decide) ?_
          refine lv_iadd hx hb dL_law_211 ?_
          refine lv_topi (fun x40 ex40 => ?_)
          refine va_sld hx hb hX0 hbl hbA hS (i := x40) (lw_in (k := 5 * j + 2) hL (by rw [ex40]; exact nI_d (5 * j) 2) (by omega)) dL_law_212 ?_
          refine lv_topi (fun x41 ex41 => ?_)
          refine lv_aload_n hx hb dL_law_213 rfl (lv_at hl 0 rfl) ?_
          refine lv_iload hx hb dL_law_214 (lv_at hl 4 rfl) ?_
          refine lv_iconst (v := 3) hx hb dL_law_216 (by decide) ?_
          refine lv_iadd hx hb dL_law_217 ?_
          refine lv_topi (fun x42 ex42 => ?_)
          refine va_sld hx hb hX0 hbl hbA hS (i := x42) (lw_in (k := 5 * j + 3) hL (by rw [ex42]; exact nI_d (5 * j) 3) (by omega)) dL_law_218 ?_
          refine lv_topi (fun x43 ex43 => ?_)
          have hsv0 : x39 = x31 := by rw [ex39, ex38, ex31, ex30]
          have hsv1 : x41 = x33 := by rw [ex41, ex40, ex33, ex32]
          have hsv2 : x43 = x35 := by rw [ex43, ex42, ex35, ex34]
          obtain ⟨fs9, hmo⟩ := hR.obj
          refine va_calli (va_runV (As := [.int x39, .int x41, .int x43]) (rest := []) ⟨hx, hb, hml, hown, (fun _ h9 => absurd h9 List.not_mem_nil : ∀ w ∈ ([] : List Cond), w.before _ s = true)⟩ (m2_parameter l D cy A X hst hXT G37 Vq mo tn ft N fe ne ui lf lt ln fo hR (by omega) x39 x41 x43) (tb_cw (C := RX14) 3 hT tw_1814 tw_109 tw_1811 tw_1812 tw_1813 rfl rfl hq_X14_parameter ⟨Nat.le_of_ble_eq_true rfl, Nat.le_of_ble_eq_true rfl⟩) (mk_preC hst hG hK hA hX hS vc_15 hmo) rfl rfl hl.1 rfl (lv_room (Nat.le_of_ble_eq_true rfl)) dL_law_219 ⟨(by show uc + 0 + 0 ≤ 601024; omega), (by show us + 0 + 0 ≤ 7293034; omega)⟩) hS (fun q _ h => h) (fun q h => h) (fun r44 G45 t H locs ht hvm hw hB hz1 hk1 hS => ?_)
          have hG : mm D vwCl A G45 H := by rw [← ht]; exact hB
          clear hB hz1 hk1 hvm ht
          rw [hsv0, hsv1, hsv2] at hw
          obtain ⟨er44, hR, hFV⟩ := hw
          replace hC := hC.mvF hFV
          replace hwa := hFV.1 _ _ hVwa hwa
          clear hmo
          refine lv_pop hx hb dL_law_222 rfl ?_
          refine lv_goto (tgt := 579) hx hb dL_law_223 (by decide) ?_
          obtain ⟨x46, ex46⟩ : ∃ y : Int32, y = (nI (5 * j)) + 5 := ⟨_, rfl⟩
          refine lv_iinc (v := x46) (lv' := [(4, .int x46), (0, .ref b), (1, .ref ox), (2, .ref mo), (3, .ref wa)]) hx hb dL_law_579 hl (k := 4) rfl (by rw [ex46]; rfl) (by decide) rfl (fun ls hl => ?_)
          refine lv_goto (tgt := 23) hx hb dL_law_582 (by decide) ?_
          rw [show x46 = nI (5 * (j + 1)) by rw [ex46]; exact nI_d (5 * j) 5] at hl
          refine W.widen (k := uc) (n := us) (by omega) (by omega) ?_
          exact ih (j + 1) (uc) (us) tn N ft fe ne ui lf lt ln fo lv0 (by omega) (by omega) (by omega) (fun h => by have := hu1 h; omega) (by omega) G45 hC hR hwa _ _ hG hS ls (lv_sub hl [1, 2, 3, 4, 0] rfl)
        · skip
          refine lv_tableIn (tgt := 226) hx hb dL_law_39 hlo hhi (off := 187) (by rw [sw_39]; rfl) (by decide) ?_
          refine lv_aload_n hx hb dL_law_226 rfl (lv_at hl 1 rfl) ?_
          refine lv_aload_n hx hb dL_law_227 rfl (lv_at hl 0 rfl) ?_
          refine lv_iload hx hb dL_law_228 (lv_at hl 4 rfl) ?_
          refine lv_iconst (v := 1) hx hb dL_law_230 (by decide) ?_
          refine lv_iadd hx hb dL_law_231 ?_
          refine lv_topi (fun x47 ex47 => ?_)
          refine va_sld hx hb hX0 hbl hbA hS (i := x47) (lw_in (k := 5 * j + 1) hL (by rw [ex47]; exact nI_d (5 * j) 1) (by omega)) dL_law_232 ?_
          refine lv_topi (fun x48 ex48 => ?_)
          refine lv_aload_n hx hb dL_law_233 rfl (lv_at hl 0 rfl) ?_
          refine lv_iload hx hb dL_law_234 (lv_at hl 4 rfl) ?_
          refine lv_iconst (v := 2) hx hb dL_law_236 (by decide) ?_
          refine lv_iadd hx hb dL_law_237 ?_
          refine lv_topi (fun x49 ex49 => ?_)
          refine va_sld hx hb hX0 hbl hbA hS (i := x49) (lw_in (k := 5 * j + 2) hL (by rw [ex49]; exact nI_d (5 * j) 2) (by omega)) dL_law_238 ?_
          refine lv_topi (fun x50 ex50 => ?_)
          refine lv_aload_n hx hb dL_law_239 rfl (lv_at hl 0 rfl) ?_
          refine lv_iload hx hb dL_law_240 (lv_at hl 4 rfl) ?_
          refine lv_iconst (v := 3) hx hb dL_law_242 (by decide) ?_
          refine lv_iadd hx hb dL_law_243 ?_
          refine lv_topi (fun x51 ex51 => ?_)
          refine va_sld hx hb hX0 hbl hbA hS (i := x51) (lw_in (k := 5 * j + 3) hL (by rw [ex51]; exact nI_d (5 * j) 3) (by omega)) dL_law_244 ?_
          refine lv_topi (fun x52 ex52 => ?_)
          obtain ⟨⟨fs9, hox⟩, -⟩ := hC.obj
          refine va_calll (va_runV (As := [.int x48, .int x50, .int x52]) (rest := []) ⟨hx, hb, hml, hown, (fun _ h9 => absurd h9 List.not_mem_nil : ∀ w ∈ ([] : List Cond), w.before _ s = true)⟩ (k2_decode l D cy A X hst hXT e0 tk hXE mi hXL ax adK adV hXX Gv (fun x => Vq x ∨ x = wa) ox tn ft N fe ne ui lf lt ln fo hC x48 x50 x52) (tb_cw (C := RX13) 3 hT tw_1108 tw_105 tw_1105 tw_1106 tw_1107 rfl rfl hq_X13_decode ⟨Nat.le_of_ble_eq_true rfl, Nat.le_of_ble_eq_true rfl⟩) (mk_preC hst hG hK hA hX hS vc_14 hox) rfl rfl hl.1 rfl (lv_room (Nat.le_of_ble_eq_true rfl)) dL_law_245 ⟨(by show uc + 0 ≤ 601024; omega), (by show us + 0 ≤ 7293034; omega)⟩) hS (fun q _ h => h) (fun q h => h) (fun r53 G54 t H locs ht hvm hw hB hz1 hk1 hS => ?_)
          have hG : mm D vwCl A G54 H := by rw [← ht]; exact hB
          clear hB hz1 hk1 hvm ht
          obtain ⟨P9, er53, hC, hKW⟩ := hw
          replace hR := hR.mv (fun x e z => hKW x e (Or.inl z))
          replace hwa := hKW _ _ (Or.inr rfl) hwa
          clear hox
          refine lv_aload_n hx hb dL_law_248 rfl (lv_at hl 2 rfl) ?_
          refine lv_aload_n hx hb dL_law_249 rfl (lv_at hl 0 rfl) ?_
          refine lv_iload hx hb dL_law_250 (lv_at hl 4 rfl) ?_
          refine lv_iconst (v := 1) hx hb dL_law_252 (by decide) ?_
          refine lv_iadd hx hb dL_law_253 ?_
          refine lv_topi (fun x55 ex55 => ?_)
          refine va_sld hx hb hX0 hbl hbA hS (i := x55) (lw_in (k := 5 * j + 1) hL (by rw [ex55]; exact nI_d (5 * j) 1) (by omega)) dL_law_254 ?_
          refine lv_topi (fun x56 ex56 => ?_)
          refine lv_aload_n hx hb dL_law_255 rfl (lv_at hl 0 rfl) ?_
          refine lv_iload hx hb dL_law_256 (lv_at hl 4 rfl) ?_
          refine lv_iconst (v := 2) hx hb dL_law_258 (by decide) ?_
          refine lv_iadd hx hb dL_law_259 ?_
          refine lv_topi (fun x57 ex57 => ?_)
          refine va_sld hx hb hX0 hbl hbA hS (i := x57) (lw_in (k := 5 * j + 2) hL (by rw [ex57]; exact nI_d (5 * j) 2) (by omega)) dL_law_260 ?_
          refine lv_topi (fun x58 ex58 => ?_)
          refine lv_aload_n hx hb dL_law_261 rfl (lv_at hl 0 rfl) ?_
          refine lv_iload hx hb dL_law_262 (lv_at hl 4 rfl) ?_
          refine lv_iconst (v := 3) hx hb dL_law_264 (by decide) ?_
          refine lv_iadd hx hb dL_law_265 ?_
          refine lv_topi (fun x59 ex59 => ?_)
          refine va_sld hx hb hX0 hbl hbA hS (i := x59) (lw_in (k := 5 * j + 3) hL (by rw [ex59]; exact nI_d (5 * j) 3) (by omega)) dL_law_266 ?_
          refine lv_topi (fun x60 ex60 => ?_)
          have hsv0 : x56 = x48 := by rw [ex56, ex55, ex48, ex47]
          have hsv1 : x58 = x50 := by rw [ex58, ex57, ex50, ex49]
          have hsv2 : x60 = x52 := by rw [ex60, ex59, ex52, ex51]
          obtain ⟨fs9, hmo⟩ := hR.obj
          refine va_calll (va_runV (As := [.int x56, .int x58, .int x60]) (rest := [.long r53]) ⟨hx, hb, hml, hown, (fun _ h9 => absurd h9 List.not_mem_nil : ∀ w ∈ ([] : List Cond), w.before _ s = true)⟩ (m2_decode l D cy A X hst hXT G54 Vq mo tn ft N fe ne ui lf lt ln fo hR (by omega) x56 x58 x60 P9) (tb_cw (C := RX14) 3 hT tw_1826 tw_109 tw_1823 tw_1824 tw_1825 rfl rfl hq_X14_decode ⟨Nat.le_of_ble_eq_true rfl, Nat.le_of_ble_eq_true rfl⟩) (mk_preC hst hG hK hA hX hS vc_15 hmo) rfl rfl hl.1 rfl (lv_room (Nat.le_of_ble_eq_true rfl)) dL_law_267 ⟨(by show uc + 0 + 0 ≤ 601024; omega), (by show us + 0 + 0 ≤ 7293034; omega)⟩) hS (fun q _ h => h) (fun q h => h) (fun r61 G62 t H locs ht hvm hw hB hz1 hk1 hS => ?_)
          have hG : mm D vwCl A G62 H := by rw [← ht]; exact hB
          clear hB hz1 hk1 hvm ht
          rw [hsv0, hsv1, hsv2] at hw
          obtain ⟨er61, hR, hFV⟩ := hw
          replace hC := hC.mvF hFV
          replace hwa := hFV.1 _ _ hVwa hwa
          clear hmo
          refine W.lcmp hx hb dL_law_270 ?_
          refine lv_if_eq (tgt := 579) hx hb dL_law_271 (by decide) (fun c_271 => ?_) (fun c_271 => ?_)
          · skip
            obtain ⟨x64, ex64⟩ : ∃ y : Int32, y = (nI (5 * j)) + 5 := ⟨_, rfl⟩
            refine lv_iinc (v := x64) (lv' := [(4, .int x64), (0, .ref b), (1, .ref ox), (2, .ref mo), (3, .ref wa)]) hx hb dL_law_579 hl (k := 4) rfl (by rw [ex64]; rfl) (by decide) rfl (fun ls hl => ?_)
            refine lv_goto (tgt := 23) hx hb dL_law_582 (by decide) ?_
            rw [show x64 = nI (5 * (j + 1)) by rw [ex64]; exact nI_d (5 * j) 5] at hl
            refine W.widen (k := uc) (n := us) (by omega) (by omega) ?_
            exact ih (j + 1) (uc) (us) tn N ft fe ne ui lf lt ln fo lv0 (by omega) (by omega) (by omega) (fun h => by have := hu1 h; omega) (by omega) G62 hC hR hwa _ _ hG hS ls (lv_sub hl [1, 2, 3, 4, 0] rfl)
          · skip
            exact absurd ((lg_cmp_eq _ _).mpr (by rw [er53, er61, DC_eq])) c_271
        · skip
          refine lv_tableIn (tgt := 276) hx hb dL_law_39 hlo hhi (off := 237) (by rw [sw_39]; rfl) (by decide) ?_
          refine lv_aload_n hx hb dL_law_276 rfl (lv_at hl 1 rfl) ?_
          refine lv_aload_n hx hb dL_law_277 rfl (lv_at hl 0 rfl) ?_
          refine lv_iload hx hb dL_law_278 (lv_at hl 4 rfl) ?_
          refine lv_iconst (v := 1) hx hb dL_law_280 (by decide) ?_
          refine lv_iadd hx hb dL_law_281 ?_
          refine lv_topi (fun x65 ex65 => ?_)
          refine va_sld hx hb hX0 hbl hbA hS (i := x65) (lw_in (k := 5 * j + 1) hL (by rw [ex65]; exact nI_d (5 * j) 1) (by omega)) dL_law_282 ?_
          refine lv_topi (fun x66 ex66 => ?_)
          obtain ⟨x67, ex67⟩ : ∃ y, y = (x66 : Int32).toInt8.toInt32 := ⟨_, rfl⟩
          refine lv_i2b (v := x67) hx hb dL_law_283 ex67.symm ?_
          obtain ⟨⟨fs9, hox⟩, -⟩ := hC.obj
          refine va_callv (va_runV (As := [.int x67]) (rest := []) ⟨hx, hb, hml, hown, (fun _ h9 => absurd h9 List.not_mem_nil : ∀ w ∈ ([] : List Cond), w.before _ s = true)⟩ (k2_octet l D cy A X hst hXT e0 tk hXE mi hXL ax adK adV hXX Gv (fun x => Vq x ∨ x = wa) ox tn ft N fe ne ui lf lt ln fo hC x67) (tb_cw (C := RX13) 1 hT tw_1178 tw_105 tw_1175 tw_1176 tw_1177 rfl rfl hq_X13_octet ⟨Nat.le_of_ble_eq_true rfl, Nat.le_of_ble_eq_true rfl⟩) (mk_preC hst hG hK hA hX hS vc_14 hox) rfl rfl hl.1 rfl (lv_room (Nat.le_of_ble_eq_true rfl)) dL_law_284 ⟨(by show uc + 0 ≤ 601024; omega), (by show us + 0 ≤ 7293034; omega)⟩) hS (fun q _ h => h) (fun q h => h) (fun  G68 t H locs ht hvm hw hB hz1 hk1 hS => ?_)
          have hG : mm D vwCl A G68 H := by rw [← ht]; exact hB
          clear hB hz1 hk1 hvm ht
          obtain ⟨hC, hKW⟩ := hw
          replace hR := hR.mv (fun x e z => hKW x e (Or.inl z))
          replace hwa := hKW _ _ (Or.inr rfl) hwa
          clear hox
          refine lv_aload_n hx hb dL_law_287 rfl (lv_at hl 2 rfl) ?_
          refine lv_aload_n hx hb dL_law_288 rfl (lv_at hl 0 rfl) ?_
          refine lv_iload hx hb dL_law_289 (lv_at hl 4 rfl) ?_
          refine lv_iconst (v := 1) hx hb dL_law_291 (by decide) ?_
          refine lv_iadd hx hb dL_law_292 ?_
          refine lv_topi (fun x69 ex69 => ?_)
          refine va_sld hx hb hX0 hbl hbA hS (i := x69) (lw_in (k := 5 * j + 1) hL (by rw [ex69]; exact nI_d (5 * j) 1) (by omega)) dL_law_293 ?_
          refine lv_topi (fun x70 ex70 => ?_)
          obtain ⟨x71, ex71⟩ : ∃ y, y = (x70 : Int32).toInt8.toInt32 := ⟨_, rfl⟩
          refine lv_i2b (v := x71) hx hb dL_law_294 ex71.symm ?_
          have hsv0 : x71 = x67 := by rw [ex71, ex70, ex69, ex67, ex66, ex65]
          obtain ⟨fs9, hmo⟩ := hR.obj
          refine va_callv (va_runV (As := [.int x71]) (rest := []) ⟨hx, hb, hml, hown, (fun _ h9 => absurd h9 List.not_mem_nil : ∀ w ∈ ([] : List Cond), w.before _ s = true)⟩ (m2_octet l D cy A X hst hXT G68 Vq mo tn ft N fe ne ui lf lt ln fo hR (by omega) x71) (tb_cw (C := RX14) 1 hT tw_1822 tw_109 tw_1819 tw_1820 tw_1821 rfl rfl hq_X14_octet ⟨Nat.le_of_ble_eq_true rfl, Nat.le_of_ble_eq_true rfl⟩) (mk_preC hst hG hK hA hX hS vc_15 hmo) rfl rfl hl.1 rfl (lv_room (Nat.le_of_ble_eq_true rfl)) dL_law_295 ⟨(by show uc + 0 + 0 ≤ 601024; omega), (by show us + 0 + 0 ≤ 7293034; omega)⟩) hS (fun q _ h => h) (fun q h => h) (fun  G72 t H locs ht hvm hw hB hz1 hk1 hS => ?_)
          have hG : mm D vwCl A G72 H := by rw [← ht]; exact hB
          clear hB hz1 hk1 hvm ht
          rw [hsv0] at hw
          obtain ⟨hR, hFV⟩ := hw
          replace hC := hC.mvF hFV
          replace hwa := hFV.1 _ _ hVwa hwa
          clear hmo
          refine lv_goto (tgt := 579) hx hb dL_law_298 (by decide) ?_
          obtain ⟨x73, ex73⟩ : ∃ y : Int32, y = (nI (5 * j)) + 5 := ⟨_, rfl⟩
          refine lv_iinc (v := x73) (lv' := [(4, .int x73), (0, .ref b), (1, .ref ox), (2, .ref mo), (3, .ref wa)]) hx hb dL_law_579 hl (k := 4) rfl (by rw [ex73]; rfl) (by decide) rfl (fun ls hl => ?_)
          refine lv_goto (tgt := 23) hx hb dL_law_582 (by decide) ?_
          rw [show x73 = nI (5 * (j + 1)) by rw [ex73]; exact nI_d (5 * j) 5] at hl
          refine W.widen (k := uc) (n := us) (by omega) (by omega) ?_
          exact ih (j + 1) (uc) (us) tn N ft fe ne ui lf lt (ocN ln) (ocF ln fo x67) lv0 (by omega) (by omega) (by omega) (fun h => by have := hu1 h; omega) (by omega) G72 hC hR hwa _ _ hG hS ls (lv_sub hl [1, 2, 3, 4, 0] rfl)
        · skip
          refine lv_tableIn (tgt := 301) hx hb dL_law_39 hlo hhi (off := 262) (by rw [sw_39]; rfl) (by decide) ?_
          refine lv_aload_n hx hb dL_law_301 rfl (lv_at hl 1 rfl) ?_
          refine lv_aload_n hx hb dL_law_302 rfl (lv_at hl 0 rfl) ?_
          refine lv_iload hx hb dL_law_303 (lv_at hl 4 rfl) ?_
          refine lv_iconst (v := 1) hx hb dL_law_305 (by decide) ?_
          refine lv_iadd hx hb dL_law_306 ?_
          refine lv_topi (fun x74 ex74 => ?_)
          refine va_sld hx hb hX0 hbl hbA hS (i := x74) (lw_in (k := 5 * j + 1) hL (by rw [ex74]; exact nI_d (5 * j) 1) (by omega)) dL_law_307 ?_
          refine lv_topi (fun x75 ex75 => ?_)
          refine lv_aload_n hx hb dL_law_308 rfl (lv_at hl 0 rfl) ?_
          refine lv_iload hx hb dL_law_309 (lv_at hl 4 rfl) ?_
          refine lv_iconst (v := 2) hx hb dL_law_311 (by decide) ?_
          refine lv_iadd hx hb dL_law_312 ?_
          refine lv_topi (fun x76 ex76 => ?_)
          refine va_sld hx hb hX0 hbl hbA hS (i := x76) (lw_in (k := 5 * j + 2) hL (by rw [ex76]; exact nI_d (5 * j) 2) (by omega)) dL_law_313 ?_
          refine lv_topi (fun x77 ex77 => ?_)
          refine lv_aload_n hx hb dL_law_314 rfl (lv_at hl 0 rfl) ?_
          refine lv_iload hx hb dL_law_315 (lv_at hl 4 rfl) ?_
          refine lv_iconst (v := 3) hx hb dL_law_317 (by decide) ?_
          refine lv_iadd hx hb dL_law_318 ?_
          refine lv_topi (fun x78 ex78 => ?_)
          refine va_sld hx hb hX0 hbl hbA hS (i := x78) (lw_in (k := 5 * j + 3) hL (by rw [ex78]; exact nI_d (5 * j) 3) (by omega)) dL_law_319 ?_
          refine lv_topi (fun x79 ex79 => ?_)
          obtain ⟨x80, ex80⟩ : ∃ y, y = (x79 : Int32).toInt64 := ⟨_, rfl⟩
          refine lv_i2l (v := x80) hx hb dL_law_320 ex80.symm ?_
          refine lv_bipush (v := 32) hx hb dL_law_321 (by decide) ?_
          obtain ⟨x81, ex81⟩ : ∃ y, y = (x80 : Int64) <<< ((32 : Int32).toInt64 &&& 63) := ⟨_, rfl⟩
          refine lv_lshl (v := x81) hx hb dL_law_323 ex81.symm ?_
          refine lv_aload_n hx hb dL_law_324 rfl (lv_at hl 0 rfl) ?_
          refine lv_iload hx hb dL_law_325 (lv_at hl 4 rfl) ?_
          refine lv_iconst (v := 4) hx hb dL_law_327 (by decide) ?_
          refine lv_iadd hx hb dL_law_328 ?_
          refine lv_topi (fun x82 ex82 => ?_)
          refine va_sld hx hb hX0 hbl hbA hS (i := x82) (lw_in (k := 5 * j + 4) hL (by rw [ex82]; exact nI_d (5 * j) 4) (by omega)) dL_law_329 ?_
          refine lv_topi (fun x83 ex83 => ?_)
          obtain ⟨x84, ex84⟩ : ∃ y, y = (x83 : Int32).toInt64 := ⟨_, rfl⟩
          refine lv_i2l (v := x84) hx hb dL_law_330 ex84.symm ?_
          refine lv_ldc2 hx hb hown (tb_use hT tw_1895) dL_law_331 ?_
          refine lv_land hx hb dL_law_334 ?_
          refine lv_lor hx hb dL_law_335 ?_
          obtain ⟨⟨fs9, hox⟩, -⟩ := hC.obj
          refine va_calli (va_runV (As := [.int x75, .int x77, .long (x81 ||| (x84 &&& 4294967295))]) (rest := []) ⟨hx, hb, hml, hown, (fun _ h9 => absurd h9 List.not_mem_nil : ∀ w ∈ ([] : List Cond), w.before _ s = true)⟩ (k2_encode l D cy A X hst hXT e0 tk hXE mi hXL ax adK adV hXX Gv (fun x => Vq x ∨ x = wa) ox tn ft N fe ne ui lf lt ln fo hC x75 x77 (x81 ||| (x84 &&& 4294967295))) (tb_cw (C := RX13) 3 hT tw_1186 tw_105 tw_1183 tw_1184 tw_1185 rfl rfl hq_X13_encode ⟨Nat.le_of_ble_eq_true rfl, Nat.le_of_ble_eq_true rfl⟩) (mk_preC hst hG hK hA hX hS vc_14 hox) rfl rfl hl.1 rfl (lv_room (Nat.le_of_ble_eq_true rfl)) dL_law_336 ⟨(by show uc + 0 ≤ 601024; omega), (by show us + 0 ≤ 7293034; omega)⟩) hS (fun q _ h => h) (fun q h => h) (fun r85 G86 t H locs ht hvm hw hB hz1 hk1 hS => ?_)
          have hG : mm D vwCl A G86 H := by rw [← ht]; exact hB
          clear hB hz1 hk1 hvm ht
          obtain ⟨er85, hC, hKW⟩ := hw
          replace hR := hR.mv (fun x e z => hKW x e (Or.inl z))
          replace hwa := hKW _ _ (Or.inr rfl) hwa
          clear hox
          refine lv_pop hx hb dL_law_339 rfl ?_
          refine lv_aload_n hx hb dL_law_340 rfl (lv_at hl 2 rfl) ?_
          refine lv_aload_n hx hb dL_law_341 rfl (lv_at hl 0 rfl) ?_
          refine lv_iload hx hb dL_law_342 (lv_at hl 4 rfl) ?_
          refine lv_iconst (v := 1) hx hb dL_law_344 (by decide) ?_
          refine lv_iadd hx hb dL_law_345 ?_
          refine lv_topi (fun x87 ex87 => ?_)
          refine va_sld hx hb hX0 hbl hbA hS (i := x87) (lw_in (k := 5 * j + 1) hL (by rw [ex87]; exact nI_d (5 * j) 1) (by omega)) dL_law_346 ?_
          refine lv_topi (fun x88 ex88 => ?_)
          refine lv_aload_n hx hb dL_law_347 rfl (lv_at hl 0 rfl) ?_
          refine lv_iload hx hb dL_law_348 (lv_at hl 4 rfl) ?_
          refine lv_iconst (v := 2) hx hb dL_law_350 (by decide) ?_
          refine lv_iadd hx hb dL_law_351 ?_
          refine lv_topi (fun x89 ex89 => ?_)
          refine va_sld hx hb hX0 hbl hbA hS (i := x89) (lw_in (k := 5 * j + 2) hL (by rw [ex89]; exact nI_d (5 * j) 2) (by omega)) dL_law_352 ?_
          refine lv_topi (fun x90 ex90 => ?_)
          refine lv_aload_n hx hb dL_law_353 rfl (lv_at hl 0 rfl) ?_
          refine lv_iload hx hb dL_law_354 (lv_at hl 4 rfl) ?_
          refine lv_iconst (v := 3) hx hb dL_law_356 (by decide) ?_
          refine lv_iadd hx hb dL_law_357 ?_
          refine lv_topi (fun x91 ex91 => ?_)
          refine va_sld hx hb hX0 hbl hbA hS (i := x91) (lw_in (k := 5 * j + 3) hL (by rw [ex91]; exact nI_d (5 * j) 3) (by omega)) dL_law_358 ?_
          refine lv_topi (fun x92 ex92 => ?_)
          obtain ⟨x93, ex93⟩ : ∃ y, y = (x92 : Int32).toInt64 := ⟨_, rfl⟩
          refine lv_i2l (v := x93) hx hb dL_law_359 ex93.symm ?_
          refine lv_bipush (v := 32) hx hb dL_law_360 (by decide) ?_
          obtain ⟨x94, ex94⟩ : ∃ y, y = (x93 : Int64) <<< ((32 : Int32).toInt64 &&& 63) := ⟨_, rfl⟩
          refine lv_lshl (v := x94) hx hb dL_law_362 ex94.symm ?_
          refine lv_aload_n hx hb dL_law_363 rfl (lv_at hl 0 rfl) ?_
          refine lv_iload hx hb dL_law_364 (lv_at hl 4 rfl) ?_
          refine lv_iconst (v := 4) hx hb dL_law_366 (by decide) ?_
          refine lv_iadd hx hb dL_law_367 ?_
          refine lv_topi (fun x95 ex95 => ?_)
          refine va_sld hx hb hX0 hbl hbA hS (i := x95) (lw_in (k := 5 * j + 4) hL (by rw [ex95]; exact nI_d (5 * j) 4) (by omega)) dL_law_368 ?_
          refine lv_topi (fun x96 ex96 => ?_)
          obtain ⟨x97, ex97⟩ : ∃ y, y = (x96 : Int32).toInt64 := ⟨_, rfl⟩
          refine lv_i2l (v := x97) hx hb dL_law_369 ex97.symm ?_
          refine lv_ldc2 hx hb hown (tb_use hT tw_1895) dL_law_370 ?_
          refine lv_land hx hb dL_law_373 ?_
          refine lv_lor hx hb dL_law_374 ?_
          have hsv0 : x88 = x75 := by rw [ex88, ex87, ex75, ex74]
          have hsv1 : x90 = x77 := by rw [ex90, ex89, ex77, ex76]
          have hsv2 : (x94 ||| (x97 &&& 4294967295)) = (x81 ||| (x84 &&& 4294967295)) := by simp only [ex2, ex3, ex74, ex75, ex76, ex77, ex78, ex79, ex80, ex81, ex82, ex83, ex84, ex87, ex88, ex89, ex90, ex91, ex92, ex93, ex94, ex95, ex96, ex97]
          obtain ⟨fs9, hmo⟩ := hR.obj
          refine va_calli (va_runV (As := [.int x88, .int x90, .long (x94 ||| (x97 &&& 4294967295))]) (rest := []) ⟨hx, hb, hml, hown, (fun _ h9 => absurd h9 List.not_mem_nil : ∀ w ∈ ([] : List Cond), w.before _ s = true)⟩ (m2_encode l D cy A X hst hXT G86 Vq mo tn ft N fe ne ui lf lt ln fo hR (by omega) x88 x90 (x94 ||| (x97 &&& 4294967295))) (tb_cw (C := RX14) 3 hT tw_1853 tw_109 tw_1850 tw_1851 tw_1852 rfl rfl hq_X14_encode ⟨Nat.le_of_ble_eq_true rfl, Nat.le_of_ble_eq_true rfl⟩) (mk_preC hst hG hK hA hX hS vc_15 hmo) rfl rfl hl.1 rfl (lv_room (Nat.le_of_ble_eq_true rfl)) dL_law_375 ⟨(by show uc + 0 + 0 ≤ 601024; omega), (by show us + 0 + 0 ≤ 7293034; omega)⟩) hS (fun q _ h => h) (fun q h => h) (fun r98 G99 t H locs ht hvm hw hB hz1 hk1 hS => ?_)
          have hG : mm D vwCl A G99 H := by rw [← ht]; exact hB
          clear hB hz1 hk1 hvm ht
          rw [hsv0, hsv1, hsv2] at hw
          obtain ⟨er98, hR, hFV⟩ := hw
          replace hC := hC.mvF hFV
          replace hwa := hFV.1 _ _ hVwa hwa
          clear hmo
          refine lv_pop hx hb dL_law_378 rfl ?_
          refine lv_goto (tgt := 579) hx hb dL_law_379 (by decide) ?_
          obtain ⟨x100, ex100⟩ : ∃ y : Int32, y = (nI (5 * j)) + 5 := ⟨_, rfl⟩
          refine lv_iinc (v := x100) (lv' := [(4, .int x100), (0, .ref b), (1, .ref ox), (2, .ref mo), (3, .ref wa)]) hx hb dL_law_579 hl (k := 4) rfl (by rw [ex100]; rfl) (by decide) rfl (fun ls hl => ?_)
          refine lv_goto (tgt := 23) hx hb dL_law_582 (by decide) ?_
          rw [show x100 = nI (5 * (j + 1)) by rw [ex100]; exact nI_d (5 * j) 5] at hl
          refine W.widen (k := uc) (n := us) (by omega) (by omega) ?_
          exact ih (j + 1) (uc) (us) tn N ft fe ne ui lf lt ln fo lv0 (by omega) (by omega) (by omega) (fun h => by have := hu1 h; omega) (by omega) G99 hC hR hwa _ _ hG hS ls (lv_sub hl [1, 2, 3, 4, 0] rfl)
        · skip
          refine lv_tableIn (tgt := 382) hx hb dL_law_39 hlo hhi (off := 343) (by rw [sw_39]; rfl) (by decide) ?_
          refine lv_aload_n hx hb dL_law_382 rfl (lv_at hl 1 rfl) ?_
          refine lv_aload_n hx hb dL_law_383 rfl (lv_at hl 0 rfl) ?_
          refine lv_iload hx hb dL_law_384 (lv_at hl 4 rfl) ?_
          refine lv_iconst (v := 1) hx hb dL_law_386 (by decide) ?_
          refine lv_iadd hx hb dL_law_387 ?_
          refine lv_topi (fun x101 ex101 => ?_)
          refine va_sld hx hb hX0 hbl hbA hS (i := x101) (lw_in (k := 5 * j + 1) hL (by rw [ex101]; exact nI_d (5 * j) 1) (by omega)) dL_law_388 ?_
          refine lv_topi (fun x102 ex102 => ?_)
          refine lv_aload_n hx hb dL_law_389 rfl (lv_at hl 3 rfl) ?_
          refine va_calli (tr_runSW (hh := [(0, 9, 12, 13)]) (bytes := cL_out) (maxL := 4) (ret := some .int) (n := 3) (As := [.ref ox, .int x102, .ref wa]) (rest := []) ⟨hx, hb, hml, hown, (fun _ h9 => absurd h9 List.not_mem_nil : ∀ w ∈ ([] : List Cond), w.before _ s = true)⟩ (k2_out l D cy A X hst hXT e0 tk hXE mi hXL ax adK adV hXX Gv (fun x => Vq x ∨ x = wa) ox tn ft N fe ne ui lf lt ln fo hC hpl hXH x102 wa lv0 hwa (Or.inr rfl)) rfl rfl (Nat.le_of_ble_eq_true rfl) (Nat.le_of_ble_eq_true rfl) (tb_one hT tw_1312) (List.mem_singleton.mpr rfl) (tb_use hT tw_1312) (tb_use hT tw_104) (tb_use hT tw_1311) (by decide +kernel) (by decide +kernel) (tb_use hT tw_1310) (mk_preS hst hG hK hA hX hS) rfl rfl hl.1 rfl (lv_room (Nat.le_of_ble_eq_true rfl)) dL_law_390 ⟨(by show uc + 1 ≤ 601024; omega), (by show us + 6 ≤ 7293034; omega)⟩) hS (fun q _ h => h) (fun q h => h) (fun r103 G104 t H locs ht hvm hw hB hz1 hk1 hS => ?_)
          have hG : mm D vwCl A G104 H := by rw [← ht]; exact hB
          clear hB hz1 hk1 hvm ht
          obtain ⟨hC2, lv2, hwa2, hwf⟩ := hw
          replace hR := hR.mv (fun x e z y => hwf x e y (fun y2 => hVwa (by rw [← y2]; exact z)))
          replace hC := hC2
          replace hwa := hwa2
          refine lv_istore (lv' := [(5, .int r103), (0, .ref b), (1, .ref ox), (2, .ref mo), (3, .ref wa), (4, .int (nI (5 * j)))]) hx hb dL_law_393 hl (by decide) rfl (fun ls hl => ?_)
          refine lv_aload_n hx hb dL_law_395 rfl (lv_at hl 3 rfl) ?_
          refine lv_aload_n hx hb dL_law_396 rfl (lv_at hl 1 rfl) ?_
          refine lv_iload hx hb dL_law_397 (lv_at hl 5 rfl) ?_
          refine lv_iconst (v := 1) hx hb dL_law_399 (by decide) ?_
          refine lv_iadd hx hb dL_law_400 ?_
          refine lv_topi (fun x105 ex105 => ?_)
          refine va_sld hx hb hX0 hbl hbA hS (i := x105) (lw_in (k := 5 * j + 1) hL (by rw [ex105]; exact nI_d (5 * j) 1) (by omega)) dL_law_401 ?_
          refine lv_topi (fun x106 ex106 => ?_)
          obtain ⟨fs9, hmo⟩ := hR.obj
          refine va_calli (va_runV (As := [.int x106]) (rest := []) ⟨hx, hb, hml, hown, (fun _ h9 => absurd h9 List.not_mem_nil : ∀ w ∈ ([] : List Cond), w.before _ s = true)⟩ (m2_out l D cy A X hst hXT G104 Vq mo tn ft N fe ne ui lf lt ln fo hR (by omega) x106) (tb_cw (C := RX14) 1 hT tw_1861 tw_109 tw_1858 tw_1859 tw_1860 rfl rfl hq_X14_out ⟨Nat.le_of_ble_eq_true rfl, Nat.le_of_ble_eq_true rfl⟩) (mk_preC hst hG hK hA hX hS vc_15 hmo) rfl rfl hl.1 rfl (lv_room (Nat.le_of_ble_eq_true rfl)) dL_law_402 ⟨(by show uc + 1 + 0 ≤ 601024; omega), (by show us + 6 + 0 ≤ 7293034; omega)⟩) hS (fun q _ h => h) (fun q h => h) (fun r107 G108 t H locs ht hvm hw hB hz1 hk1 hS => ?_)
          have hG : mm D vwCl A G108 H := by rw [← ht]; exact hB
          clear hB hz1 hk1 hvm ht
          obtain ⟨hR, hFV⟩ := hw
          replace hC := hC.mvF hFV
          replace hwa := hFV.1 _ _ hVwa hwa
          clear hmo
          refine lv_istore (lv' := [(6, .int r107), (5, .int r103), (0, .ref b), (1, .ref ox), (2, .ref mo), (3, .ref wa), (4, .int (nI (5 * j)))]) hx hb dL_law_405 hl (by decide) rfl (fun ls hl => ?_)
          refine lv_goto (tgt := 579) hx hb dL_law_407 (by decide) ?_
          obtain ⟨x109, ex109⟩ : ∃ y : Int32, y = (nI (5 * j)) + 5 := ⟨_, rfl⟩
          refine lv_iinc (v := x109) (lv' := [(4, .int x109), (6, .int r107), (5, .int r103), (0, .ref b), (1, .ref ox), (2, .ref mo), (3, .ref wa)]) hx hb dL_law_579 hl (k := 6) rfl (by rw [ex109]; rfl) (by decide) rfl (fun ls hl => ?_)
          refine lv_goto (tgt := 23) hx hb dL_law_582 (by decide) ?_
          rw [show x109 = nI (5 * (j + 1)) by rw [ex109]; exact nI_d (5 * j) 5] at hl
          refine W.widen (k := uc + 1) (n := us + 6) (by omega) (by omega) ?_
          exact ih (j + 1) (uc + 1) (us + 6) tn N ft fe ne ui lf lt ln fo lv2 (by omega) (by omega) (by omega) (fun h => by have := hu1 h; omega) (by omega) G108 hC hR hwa _ _ hG hS ls (lv_sub hl [3, 4, 5, 6, 0] rfl)
        · skip
          refine lv_tableIn (tgt := 410) hx hb dL_law_39 hlo hhi (off := 371) (by rw [sw_39]; rfl) (by decide) ?_
          refine lv_aload_n hx hb dL_law_410 rfl (lv_at hl 1 rfl) ?_
          refine lv_aload_n hx hb dL_law_411 rfl (lv_at hl 0 rfl) ?_
          refine lv_iload hx hb dL_law_412 (lv_at hl 4 rfl) ?_
          refine lv_iconst (v := 1) hx hb dL_law_414 (by decide) ?_
          refine lv_iadd hx hb dL_law_415 ?_
          refine lv_topi (fun x110 ex110 => ?_)
          refine va_sld hx hb hX0 hbl hbA hS (i := x110) (lw_in (k := 5 * j + 1) hL (by rw [ex110]; exact nI_d (5 * j) 1) (by omega)) dL_law_416 ?_
          refine lv_topi (fun x111 ex111 => ?_)
          obtain ⟨⟨fs9, hox⟩, -⟩ := hC.obj
          refine va_calli (va_runV (As := [.int x111]) (rest := []) ⟨hx, hb, hml, hown, (fun _ h9 => absurd h9 List.not_mem_nil : ∀ w ∈ ([] : List Cond), w.before _ s = true)⟩ (k2_variant l D cy A X hst hXT e0 tk hXE mi hXL ax adK adV hXX Gv (fun x => Vq x ∨ x = wa) ox tn ft N fe ne ui lf lt ln fo hC x111) (tb_cw (C := RX13) 1 hT tw_1213 tw_105 tw_1210 tw_1211 tw_1212 rfl rfl hq_X13_variant ⟨Nat.le_of_ble_eq_true rfl, Nat.le_of_ble_eq_true rfl⟩) (mk_preC hst hG hK hA hX hS vc_14 hox) rfl rfl hl.1 rfl (lv_room (Nat.le_of_ble_eq_true rfl)) dL_law_417 ⟨(by show uc + 0 ≤ 601024; omega), (by show us + 0 ≤ 7293034; omega)⟩) hS (fun q _ h => h) (fun q h => h) (fun r112 G113 t H locs ht hvm hw hB hz1 hk1 hS => ?_)
          have hG : mm D vwCl A G113 H := by rw [← ht]; exact hB
          clear hB hz1 hk1 hvm ht
          obtain ⟨er112, hC, hKW⟩ := hw
          replace hR := hR.mv (fun x e z => hKW x e (Or.inl z))
          replace hwa := hKW _ _ (Or.inr rfl) hwa
          clear hox
          refine lv_pop hx hb dL_law_420 rfl ?_
          refine lv_aload_n hx hb dL_law_421 rfl (lv_at hl 2 rfl) ?_
          refine lv_aload_n hx hb dL_law_422 rfl (lv_at hl 0 rfl) ?_
          refine lv_iload hx hb dL_law_423 (lv_at hl 4 rfl) ?_
          refine lv_iconst (v := 1) hx hb dL_law_425 (by decide) ?_
          refine lv_iadd hx hb dL_law_426 ?_
          refine lv_topi (fun x114 ex114 => ?_)
          refine va_sld hx hb hX0 hbl hbA hS (i := x114) (lw_in (k := 5 * j + 1) hL (by rw [ex114]; exact nI_d (5 * j) 1) (by omega)) dL_law_427 ?_
          refine lv_topi (fun x115 ex115 => ?_)
          have hsv0 : x115 = x111 := by rw [ex115, ex114, ex111, ex110]
          obtain ⟨fs9, hmo⟩ := hR.obj
          refine va_calli (va_runV (As := [.int x115]) (rest := []) ⟨hx, hb, hml, hown, (fun _ h9 => absurd h9 List.not_mem_nil : ∀ w ∈ ([] : List Cond), w.before _ s = true)⟩ (m2_variant l D cy A X hst hXT G113 Vq mo tn ft N fe ne ui lf lt ln fo hR (by omega) x115) (tb_cw (C := RX14) 1 hT tw_1865 tw_109 tw_1862 tw_1863 tw_1864 rfl rfl hq_X14_variant ⟨Nat.le_of_ble_eq_true rfl, Nat.le_of_ble_eq_true rfl⟩) (mk_preC hst hG hK hA hX hS vc_15 hmo) rfl rfl hl.1 rfl (lv_room (Nat.le_of_ble_eq_true rfl)) dL_law_428 ⟨(by show uc + 0 + 0 ≤ 601024; omega), (by show us + 0 + 0 ≤ 7293034; omega)⟩) hS (fun q _ h => h) (fun q h => h) (fun r116 G117 t H locs ht hvm hw hB hz1 hk1 hS => ?_)
          have hG : mm D vwCl A G117 H := by rw [← ht]; exact hB
          clear hB hz1 hk1 hvm ht
          rw [hsv0] at hw
          obtain ⟨er116, hR, hFV⟩ := hw
          replace hC := hC.mvF hFV
          replace hwa := hFV.1 _ _ hVwa hwa
          clear hmo
          refine lv_pop hx hb dL_law_431 rfl ?_
          refine lv_goto (tgt := 579) hx hb dL_law_432 (by decide) ?_
          obtain ⟨x118, ex118⟩ : ∃ y : Int32, y = (nI (5 * j)) + 5 := ⟨_, rfl⟩
          refine lv_iinc (v := x118) (lv' := [(4, .int x118), (0, .ref b), (1, .ref ox), (2, .ref mo), (3, .ref wa)]) hx hb dL_law_579 hl (k := 4) rfl (by rw [ex118]; rfl) (by decide) rfl (fun ls hl => ?_)
          refine lv_goto (tgt := 23) hx hb dL_law_582 (by decide) ?_
          rw [show x118 = nI (5 * (j + 1)) by rw [ex118]; exact nI_d (5 * j) 5] at hl
          refine W.widen (k := uc) (n := us) (by omega) (by omega) ?_
          exact ih (j + 1) (uc) (us) tn N ft fe ne (VAu N (fe N) (ne N) ui x111) lf lt ln fo lv0 (by omega) (by omega) (by omega) (fun h => by have := hu1 h; omega) (by omega) G117 hC hR hwa _ _ hG hS ls (lv_sub hl [1, 2, 3, 4, 0] rfl)
        · skip
          refine lv_tableIn (tgt := 435) hx hb dL_law_39 hlo hhi (off := 396) (by rw [sw_39]; rfl) (by decide) ?_
          refine lv_aload_n hx hb dL_law_435 rfl (lv_at hl 1 rfl) ?_
          refine lv_aload_n hx hb dL_law_436 rfl (lv_at hl 0 rfl) ?_
          refine lv_iload hx hb dL_law_437 (lv_at hl 4 rfl) ?_
          refine lv_iconst (v := 1) hx hb dL_law_439 (by decide) ?_
          refine lv_iadd hx hb dL_law_440 ?_
          refine lv_topi (fun x119 ex119 => ?_)
          refine va_sld hx hb hX0 hbl hbA hS (i := x119) (lw_in (k := 5 * j + 1) hL (by rw [ex119]; exact nI_d (5 * j) 1) (by omega)) dL_law_441 ?_
          refine lv_topi (fun x120 ex120 => ?_)
          refine lv_aload_n hx hb dL_law_442 rfl (lv_at hl 0 rfl) ?_
          refine lv_iload hx hb dL_law_443 (lv_at hl 4 rfl) ?_
          refine lv_iconst (v := 2) hx hb dL_law_445 (by decide) ?_
          refine lv_iadd hx hb dL_law_446 ?_
          refine lv_topi (fun x121 ex121 => ?_)
          refine va_sld hx hb hX0 hbl hbA hS (i := x121) (lw_in (k := 5 * j + 2) hL (by rw [ex121]; exact nI_d (5 * j) 2) (by omega)) dL_law_447 ?_
          refine lv_topi (fun x122 ex122 => ?_)
          obtain ⟨x123, ex123⟩ : ∃ y, y = (x122 : Int32).toInt64 := ⟨_, rfl⟩
          refine lv_i2l (v := x123) hx hb dL_law_448 ex123.symm ?_
          refine lv_bipush (v := 32) hx hb dL_law_449 (by decide) ?_
          obtain ⟨x124, ex124⟩ : ∃ y, y = (x123 : Int64) <<< ((32 : Int32).toInt64 &&& 63) := ⟨_, rfl⟩
          refine lv_lshl (v := x124) hx hb dL_law_451 ex124.symm ?_
          refine lv_aload_n hx hb dL_law_452 rfl (lv_at hl 0 rfl) ?_
          refine lv_iload hx hb dL_law_453 (lv_at hl 4 rfl) ?_
          refine lv_iconst (v := 3) hx hb dL_law_455 (by decide) ?_
          refine lv_iadd hx hb dL_law_456 ?_
          refine lv_topi (fun x125 ex125 => ?_)
          refine va_sld hx hb hX0 hbl hbA hS (i := x125) (lw_in (k := 5 * j + 3) hL (by rw [ex125]; exact nI_d (5 * j) 3) (by omega)) dL_law_457 ?_
          refine lv_topi (fun x126 ex126 => ?_)
          obtain ⟨x127, ex127⟩ : ∃ y, y = (x126 : Int32).toInt64 := ⟨_, rfl⟩
          refine lv_i2l (v := x127) hx hb dL_law_458 ex127.symm ?_
          refine lv_ldc2 hx hb hown (tb_use hT tw_1895) dL_law_459 ?_
          refine lv_land hx hb dL_law_462 ?_
          refine lv_lor hx hb dL_law_463 ?_
          obtain ⟨⟨fs9, hox⟩, -⟩ := hC.obj
          refine va_calli (va_runV (As := [.int x120, .long (x124 ||| (x127 &&& 4294967295))]) (rest := []) ⟨hx, hb, hml, hown, (fun _ h9 => absurd h9 List.not_mem_nil : ∀ w ∈ ([] : List Cond), w.before _ s = true)⟩ (k2_job l D cy A X hst hXT e0 tk hXE mi hXL ax adK adV hXX Gv (fun x => Vq x ∨ x = wa) ox tn ft N fe ne ui lf lt ln fo hC x120 (x124 ||| (x127 &&& 4294967295))) (tb_cw (C := RX13) 2 hT tw_1225 tw_105 tw_1222 tw_1223 tw_1224 rfl rfl hq_X13_job ⟨Nat.le_of_ble_eq_true rfl, Nat.le_of_ble_eq_true rfl⟩) (mk_preC hst hG hK hA hX hS vc_14 hox) rfl rfl hl.1 rfl (lv_room (Nat.le_of_ble_eq_true rfl)) dL_law_464 ⟨(by show uc + 0 ≤ 601024; omega), (by show us + 0 ≤ 7293034; omega)⟩) hS (fun q _ h => h) (fun q h => h) (fun r128 G129 t H locs ht hvm hw hB hz1 hk1 hS => ?_)
          have hG : mm D vwCl A G129 H := by rw [← ht]; exact hB
          clear hB hz1 hk1 hvm ht
          obtain ⟨P9, pf9, sf9, er128, hC, hKW⟩ := hw
          replace hR := hR.mv (fun x e z => hKW x e (Or.inl z))
          replace hwa := hKW _ _ (Or.inr rfl) hwa
          clear hox
          refine lv_pop hx hb dL_law_467 rfl ?_
          refine lv_aload_n hx hb dL_law_468 rfl (lv_at hl 2 rfl) ?_
          refine lv_aload_n hx hb dL_law_469 rfl (lv_at hl 0 rfl) ?_
          refine lv_iload hx hb dL_law_470 (lv_at hl 4 rfl) ?_
          refine lv_iconst (v := 1) hx hb dL_law_472 (by decide) ?_
          refine lv_iadd hx hb dL_law_473 ?_
          refine lv_topi (fun x130 ex130 => ?_)
          refine va_sld hx hb hX0 hbl hbA hS (i := x130) (lw_in (k := 5 * j + 1) hL (by rw [ex130]; exact nI_d (5 * j) 1) (by omega)) dL_law_474 ?_
          refine lv_topi (fun x131 ex131 => ?_)
          refine lv_aload_n hx hb dL_law_475 rfl (lv_at hl 0 rfl) ?_
          refine lv_iload hx hb dL_law_476 (lv_at hl 4 rfl) ?_
          refine lv_iconst (v := 2) hx hb dL_law_478 (by decide) ?_
          refine lv_iadd hx hb dL_law_479 ?_
          refine lv_topi (fun x132 ex132 => ?_)
          refine va_sld hx hb hX0 hbl hbA hS (i := x132) (lw_in (k := 5 * j + 2) hL (by rw [ex132]; exact nI_d (5 * j) 2) (by omega)) dL_law_480 ?_
          refine lv_topi (fun x133 ex133 => ?_)
          obtain ⟨x134, ex134⟩ : ∃ y, y = (x133 : Int32).toInt64 := ⟨_, rfl⟩
          refine lv_i2l (v := x134) hx hb dL_law_481 ex134.symm ?_
          refine lv_bipush (v := 32) hx hb dL_law_482 (by decide) ?_
          obtain ⟨x135, ex135⟩ : ∃ y, y = (x134 : Int64) <<< ((32 : Int32).toInt64 &&& 63) := ⟨_, rfl⟩
          refine lv_lshl (v := x135) hx hb dL_law_484 ex135.symm ?_
          refine lv_aload_n hx hb dL_law_485 rfl (lv_at hl 0 rfl) ?_
          refine lv_iload hx hb dL_law_486 (lv_at hl 4 rfl) ?_
          refine lv_iconst (v := 3) hx hb dL_law_488 (by decide) ?_
          refine lv_iadd hx hb dL_law_489 ?_
          refine lv_topi (fun x136 ex136 => ?_)
          refine va_sld hx hb hX0 hbl hbA hS (i := x136) (lw_in (k := 5 * j + 3) hL (by rw [ex136]; exact nI_d (5 * j) 3) (by omega)) dL_law_490 ?_
          refine lv_topi (fun x137 ex137 => ?_)
          obtain ⟨x138, ex138⟩ : ∃ y, y = (x137 : Int32).toInt64 := ⟨_, rfl⟩
          refine lv_i2l (v := x138) hx hb dL_law_491 ex138.symm ?_
          refine lv_ldc2 hx hb hown (tb_use hT tw_1895) dL_law_492 ?_
          refine lv_land hx hb dL_law_495 ?_
          refine lv_lor hx hb dL_law_496 ?_
          have hsv0 : x131 = x120 := by rw [ex131, ex130, ex120, ex119]
          have hsv1 : (x135 ||| (x138 &&& 4294967295)) = (x124 ||| (x127 &&& 4294967295)) := by simp only [ex2, ex3, ex119, ex120, ex121, ex122, ex123, ex124, ex125, ex126, ex127, ex130, ex131, ex132, ex133, ex134, ex135, ex136, ex137, ex138]
          obtain ⟨fs9, hmo⟩ := hR.obj
          refine va_calli (va_runV (As := [.int x131, .long (x135 ||| (x138 &&& 4294967295))]) (rest := []) ⟨hx, hb, hml, hown, (fun _ h9 => absurd h9 List.not_mem_nil : ∀ w ∈ ([] : List Cond), w.before _ s = true)⟩ (m2_job l D cy A X hst hXT G129 Vq mo tn ft N fe ne ui lf lt ln fo hR (by omega) x131 (x135 ||| (x138 &&& 4294967295)) P9 pf9 sf9) (tb_cw (C := RX14) 2 hT tw_1869 tw_109 tw_1866 tw_1867 tw_1868 rfl rfl hq_X14_job ⟨Nat.le_of_ble_eq_true rfl, Nat.le_of_ble_eq_true rfl⟩) (mk_preC hst hG hK hA hX hS vc_15 hmo) rfl rfl hl.1 rfl (lv_room (Nat.le_of_ble_eq_true rfl)) dL_law_497 ⟨(by show uc + 0 + 0 ≤ 601024; omega), (by show us + 0 + 0 ≤ 7293034; omega)⟩) hS (fun q _ h => h) (fun q h => h) (fun r139 G140 t H locs ht hvm hw hB hz1 hk1 hS => ?_)
          have hG : mm D vwCl A G140 H := by rw [← ht]; exact hB
          clear hB hz1 hk1 hvm ht
          rw [hsv0, hsv1] at hw
          obtain ⟨er139, hR, hFV⟩ := hw
          replace hC := hC.mvF hFV
          replace hwa := hFV.1 _ _ hVwa hwa
          clear hmo
          refine lv_pop hx hb dL_law_500 rfl ?_
          refine lv_goto (tgt := 579) hx hb dL_law_501 (by decide) ?_
          obtain ⟨x141, ex141⟩ : ∃ y : Int32, y = (nI (5 * j)) + 5 := ⟨_, rfl⟩
          refine lv_iinc (v := x141) (lv' := [(4, .int x141), (0, .ref b), (1, .ref ox), (2, .ref mo), (3, .ref wa)]) hx hb dL_law_579 hl (k := 4) rfl (by rw [ex141]; rfl) (by decide) rfl (fun ls hl => ?_)
          refine lv_goto (tgt := 23) hx hb dL_law_582 (by decide) ?_
          rw [show x141 = nI (5 * (j + 1)) by rw [ex141]; exact nI_d (5 * j) 5] at hl
          refine W.widen (k := uc) (n := us) (by omega) (by omega) ?_
          exact ih (j + 1) (uc) (us) tn N ft fe ne ui lf lt ln fo lv0 (by omega) (by omega) (by omega) (fun h => by have := hu1 h; omega) (by omega) G140 hC hR hwa _ _ hG hS ls (lv_sub hl [1, 2, 3, 4, 0] rfl)
        · skip
          refine lv_tableIn (tgt := 504) hx hb dL_law_39 hlo hhi (off := 465) (by rw [sw_39]; rfl) (by decide) ?_
          refine lv_aload_n hx hb dL_law_504 rfl (lv_at hl 1 rfl) ?_
          refine lv_aload_n hx hb dL_law_505 rfl (lv_at hl 0 rfl) ?_
          refine lv_iload hx hb dL_law_506 (lv_at hl 4 rfl) ?_
          refine lv_iconst (v := 1) hx hb dL_law_508 (by decide) ?_
          refine lv_iadd hx hb dL_law_509 ?_
          refine lv_topi (fun x142 ex142 => ?_)
          refine va_sld hx hb hX0 hbl hbA hS (i := x142) (lw_in (k := 5 * j + 1) hL (by rw [ex142]; exact nI_d (5 * j) 1) (by omega)) dL_law_510 ?_
          refine lv_topi (fun x143 ex143 => ?_)
          obtain ⟨⟨fs9, hox⟩, -⟩ := hC.obj
          refine va_calli (va_runV (As := [.int x143]) (rest := []) ⟨hx, hb, hml, hown, (fun _ h9 => absurd h9 List.not_mem_nil : ∀ w ∈ ([] : List Cond), w.before _ s = true)⟩ (k2_ring l D cy A X hst hXT e0 tk hXE mi hXL ax adK adV hXX Gv (fun x => Vq x ∨ x = wa) ox tn ft N fe ne ui lf lt ln fo hC x143) (tb_cw (C := RX13) 1 hT tw_1277 tw_105 tw_1274 tw_1275 tw_1276 rfl rfl hq_X13_ring ⟨Nat.le_of_ble_eq_true rfl, Nat.le_of_ble_eq_true rfl⟩) (mk_preC hst hG hK hA hX hS vc_14 hox) rfl rfl hl.1 rfl (lv_room (Nat.le_of_ble_eq_true rfl)) dL_law_511 ⟨(by show uc + 0 ≤ 601024; omega), (by show us + 0 ≤ 7293034; omega)⟩) hS (fun q _ h => h) (fun q h => h) (fun r144 G145 t H locs ht hvm hw hB hz1 hk1 hS => ?_)
          have hG : mm D vwCl A G145 H := by rw [← ht]; exact hB
          clear hB hz1 hk1 hvm ht
          obtain ⟨er144, hC, hKW⟩ := hw
          replace hR := hR.mv (fun x e z => hKW x e (Or.inl z))
          replace hwa := hKW _ _ (Or.inr rfl) hwa
          clear hox
          refine lv_pop hx hb dL_law_514 rfl ?_
          refine lv_aload_n hx hb dL_law_515 rfl (lv_at hl 2 rfl) ?_
          refine lv_aload_n hx hb dL_law_516 rfl (lv_at hl 0 rfl) ?_
          refine lv_iload hx hb dL_law_517 (lv_at hl 4 rfl) ?_
          refine lv_iconst (v := 1) hx hb dL_law_519 (by decide) ?_
          refine lv_iadd hx hb dL_law_520 ?_
          refine lv_topi (fun x146 ex146 => ?_)
          refine va_sld hx hb hX0 hbl hbA hS (i := x146) (lw_in (k := 5 * j + 1) hL (by rw [ex146]; exact nI_d (5 * j) 1) (by omega)) dL_law_521 ?_
          refine lv_topi (fun x147 ex147 => ?_)
          have hsv0 : x147 = x143 := by rw [ex147, ex146, ex143, ex142]
          obtain ⟨fs9, hmo⟩ := hR.obj
          refine va_calli (va_runV (As := [.int x147]) (rest := []) ⟨hx, hb, hml, hown, (fun _ h9 => absurd h9 List.not_mem_nil : ∀ w ∈ ([] : List Cond), w.before _ s = true)⟩ (m2_ring l D cy A X hst hXT G145 Vq mo tn ft N fe ne ui lf lt ln fo hR (by omega) x147) (tb_cw (C := RX14) 1 hT tw_1802 tw_109 tw_1799 tw_1800 tw_1801 rfl rfl hq_X14_ring ⟨Nat.le_of_ble_eq_true rfl, Nat.le_of_ble_eq_true rfl⟩) (mk_preC hst hG hK hA hX hS vc_15 hmo) rfl rfl hl.1 rfl (lv_room (Nat.le_of_ble_eq_true rfl)) dL_law_522 ⟨(by show uc + 0 + 0 ≤ 601024; omega), (by show us + 0 + 0 ≤ 7293034; omega)⟩) hS (fun q _ h => h) (fun q h => h) (fun r148 G149 t H locs ht hvm hw hB hz1 hk1 hS => ?_)
          have hG : mm D vwCl A G149 H := by rw [← ht]; exact hB
          clear hB hz1 hk1 hvm ht
          rw [hsv0] at hw
          obtain ⟨er148, hR, hFV⟩ := hw
          replace hC := hC.mvF hFV
          replace hwa := hFV.1 _ _ hVwa hwa
          clear hmo
          refine lv_pop hx hb dL_law_525 rfl ?_
          refine lv_goto (tgt := 579) hx hb dL_law_526 (by decide) ?_
          obtain ⟨x150, ex150⟩ : ∃ y : Int32, y = (nI (5 * j)) + 5 := ⟨_, rfl⟩
          refine lv_iinc (v := x150) (lv' := [(4, .int x150), (0, .ref b), (1, .ref ox), (2, .ref mo), (3, .ref wa)]) hx hb dL_law_579 hl (k := 4) rfl (by rw [ex150]; rfl) (by decide) rfl (fun ls hl => ?_)
          refine lv_goto (tgt := 23) hx hb dL_law_582 (by decide) ?_
          rw [show x150 = nI (5 * (j + 1)) by rw [ex150]; exact nI_d (5 * j) 5] at hl
          refine W.widen (k := uc) (n := us) (by omega) (by omega) ?_
          exact ih (j + 1) (uc) (us) tn N ft fe ne ui lf lt ln fo lv0 (by omega) (by omega) (by omega) (fun h => by have := hu1 h; omega) (by omega) G149 hC hR hwa _ _ hG hS ls (lv_sub hl [1, 2, 3, 4, 0] rfl)
        · skip
          refine lv_tableIn (tgt := 529) hx hb dL_law_39 hlo hhi (off := 490) (by rw [sw_39]; rfl) (by decide) ?_
          refine lv_aload_n hx hb dL_law_529 rfl (lv_at hl 1 rfl) ?_
          refine lv_aload_n hx hb dL_law_530 rfl (lv_at hl 0 rfl) ?_
          refine lv_iload hx hb dL_law_531 (lv_at hl 4 rfl) ?_
          refine lv_iconst (v := 1) hx hb dL_law_533 (by decide) ?_
          refine lv_iadd hx hb dL_law_534 ?_
          refine lv_topi (fun x151 ex151 => ?_)
          refine va_sld hx hb hX0 hbl hbA hS (i := x151) (lw_in (k := 5 * j + 1) hL (by rw [ex151]; exact nI_d (5 * j) 1) (by omega)) dL_law_535 ?_
          refine lv_topi (fun x152 ex152 => ?_)
          obtain ⟨⟨fs9, hox⟩, -⟩ := hC.obj
          refine va_calli (va_runV (As := [.int x152]) (rest := []) ⟨hx, hb, hml, hown, (fun _ h9 => absurd h9 List.not_mem_nil : ∀ w ∈ ([] : List Cond), w.before _ s = true)⟩ (k2_compare l D cy A X hst hXT e0 tk hXE mi hXL ax adK adV hXX Gv (fun x => Vq x ∨ x = wa) ox tn ft N fe ne ui lf lt ln fo hC x152) (tb_cw (C := RX13) 1 hT tw_1281 tw_105 tw_1278 tw_1279 tw_1280 rfl rfl hq_X13_compare ⟨Nat.le_of_ble_eq_true rfl, Nat.le_of_ble_eq_true rfl⟩) (mk_preC hst hG hK hA hX hS vc_14 hox) rfl rfl hl.1 rfl (lv_room (Nat.le_of_ble_eq_true rfl)) dL_law_536 ⟨(by show uc + 0 ≤ 601024; omega), (by show us + 0 ≤ 7293034; omega)⟩) hS (fun q _ h => h) (fun q h => h) (fun r153 G154 t H locs ht hvm hw hB hz1 hk1 hS => ?_)
          have hG : mm D vwCl A G154 H := by rw [← ht]; exact hB
          clear hB hz1 hk1 hvm ht
          obtain ⟨hC, hKW⟩ := hw
          replace hR := hR.mv (fun x e z => hKW x e (Or.inl z))
          replace hwa := hKW _ _ (Or.inr rfl) hwa
          clear hox
          refine lv_pop hx hb dL_law_539 rfl ?_
          refine lv_aload_n hx hb dL_law_540 rfl (lv_at hl 2 rfl) ?_
          refine lv_aload_n hx hb dL_law_541 rfl (lv_at hl 0 rfl) ?_
          refine lv_iload hx hb dL_law_542 (lv_at hl 4 rfl) ?_
          refine lv_iconst (v := 1) hx hb dL_law_544 (by decide) ?_
          refine lv_iadd hx hb dL_law_545 ?_
          refine lv_topi (fun x155 ex155 => ?_)
          refine va_sld hx hb hX0 hbl hbA hS (i := x155) (lw_in (k := 5 * j + 1) hL (by rw [ex155]; exact nI_d (5 * j) 1) (by omega)) dL_law_546 ?_
          refine lv_topi (fun x156 ex156 => ?_)
          obtain ⟨fs9, hmo⟩ := hR.obj
          refine va_calli (va_runV (As := [.int x156]) (rest := []) ⟨hx, hb, hml, hown, (fun _ h9 => absurd h9 List.not_mem_nil : ∀ w ∈ ([] : List Cond), w.before _ s = true)⟩ (m2_compare l D cy A X hst hXT G154 Vq mo tn ft N fe ne ui lf lt ln fo hR (by omega) x156) (tb_cw (C := RX14) 1 hT tw_1878 tw_109 tw_1875 tw_1876 tw_1877 rfl rfl hq_X14_compare ⟨Nat.le_of_ble_eq_true rfl, Nat.le_of_ble_eq_true rfl⟩) (mk_preC hst hG hK hA hX hS vc_15 hmo) rfl rfl hl.1 rfl (lv_room (Nat.le_of_ble_eq_true rfl)) dL_law_547 ⟨(by show uc + 0 + 0 ≤ 601024; omega), (by show us + 0 + 0 ≤ 7293034; omega)⟩) hS (fun q _ h => h) (fun q h => h) (fun r157 G158 t H locs ht hvm hw hB hz1 hk1 hS => ?_)
          have hG : mm D vwCl A G158 H := by rw [← ht]; exact hB
          clear hB hz1 hk1 hvm ht
          obtain ⟨hR, hFV⟩ := hw
          replace hC := hC.mvF hFV
          replace hwa := hFV.1 _ _ hVwa hwa
          clear hmo
          refine lv_pop hx hb dL_law_550 rfl ?_
          refine lv_goto (tgt := 579) hx hb dL_law_551 (by decide) ?_
          obtain ⟨x159, ex159⟩ : ∃ y : Int32, y = (nI (5 * j)) + 5 := ⟨_, rfl⟩
          refine lv_iinc (v := x159) (lv' := [(4, .int x159), (0, .ref b), (1, .ref ox), (2, .ref mo), (3, .ref wa)]) hx hb dL_law_579 hl (k := 4) rfl (by rw [ex159]; rfl) (by decide) rfl (fun ls hl => ?_)
          refine lv_goto (tgt := 23) hx hb dL_law_582 (by decide) ?_
          rw [show x159 = nI (5 * (j + 1)) by rw [ex159]; exact nI_d (5 * j) 5] at hl
          refine W.widen (k := uc) (n := us) (by omega) (by omega) ?_
          exact ih (j + 1) (uc) (us) tn N ft fe ne ui lf lt ln fo lv0 (by omega) (by omega) (by omega) (fun h => by have := hu1 h; omega) (by omega) G158 hC hR hwa _ _ hG hS ls (lv_sub hl [1, 2, 3, 4, 0] rfl)
        · skip
          refine lv_tableIn (tgt := 554) hx hb dL_law_39 hlo hhi (off := 515) (by rw [sw_39]; rfl) (by decide) ?_
          refine lv_aload_n hx hb dL_law_554 rfl (lv_at hl 1 rfl) ?_
          refine lv_aload_n hx hb dL_law_555 rfl (lv_at hl 0 rfl) ?_
          refine lv_iload hx hb dL_law_556 (lv_at hl 4 rfl) ?_
          refine lv_iconst (v := 1) hx hb dL_law_558 (by decide) ?_
          refine lv_iadd hx hb dL_law_559 ?_
          refine lv_topi (fun x160 ex160 => ?_)
          refine va_sld hx hb hX0 hbl hbA hS (i := x160) (lw_in (k := 5 * j + 1) hL (by rw [ex160]; exact nI_d (5 * j) 1) (by omega)) dL_law_560 ?_
          refine lv_topi (fun x161 ex161 => ?_)
          obtain ⟨⟨fs9, hox⟩, -⟩ := hC.obj
          refine va_calli (va_runV (As := [.int x161]) (rest := []) ⟨hx, hb, hml, hown, (fun _ h9 => absurd h9 List.not_mem_nil : ∀ w ∈ ([] : List Cond), w.before _ s = true)⟩ (k2_code l D cy A X hst hXT e0 tk hXE mi hXL ax adK adV hXX Gv (fun x => Vq x ∨ x = wa) ox tn ft N fe ne ui lf lt ln fo hC x161) (tb_cw (C := RX13) 1 hT tw_1308 tw_105 tw_1305 tw_1306 tw_1307 rfl rfl hq_X13_code ⟨Nat.le_of_ble_eq_true rfl, Nat.le_of_ble_eq_true rfl⟩) (mk_preC hst hG hK hA hX hS vc_14 hox) rfl rfl hl.1 rfl (lv_room (Nat.le_of_ble_eq_true rfl)) dL_law_561 ⟨(by show uc + 0 ≤ 601024; omega), (by show us + 0 ≤ 7293034; omega)⟩) hS (fun q _ h => h) (fun q h => h) (fun r162 G163 t H locs ht hvm hw hB hz1 hk1 hS => ?_)
          have hG : mm D vwCl A G163 H := by rw [← ht]; exact hB
          clear hB hz1 hk1 hvm ht
          obtain ⟨er162, hC, hKW⟩ := hw
          replace hR := hR.mv (fun x e z => hKW x e (Or.inl z))
          replace hwa := hKW _ _ (Or.inr rfl) hwa
          clear hox
          refine lv_pop hx hb dL_law_564 rfl ?_
          refine lv_aload_n hx hb dL_law_565 rfl (lv_at hl 2 rfl) ?_
          refine lv_aload_n hx hb dL_law_566 rfl (lv_at hl 0 rfl) ?_
          refine lv_iload hx hb dL_law_567 (lv_at hl 4 rfl) ?_
          refine lv_iconst (v := 1) hx hb dL_law_569 (by decide) ?_
          refine lv_iadd hx hb dL_law_570 ?_
          refine lv_topi (fun x164 ex164 => ?_)
          refine va_sld hx hb hX0 hbl hbA hS (i := x164) (lw_in (k := 5 * j + 1) hL (by rw [ex164]; exact nI_d (5 * j) 1) (by omega)) dL_law_571 ?_
          refine lv_topi (fun x165 ex165 => ?_)
          have hsv0 : x165 = x161 := by rw [ex165, ex164, ex161, ex160]
          obtain ⟨fs9, hmo⟩ := hR.obj
          refine va_calli (va_runV (As := [.int x165]) (rest := []) ⟨hx, hb, hml, hown, (fun _ h9 => absurd h9 List.not_mem_nil : ∀ w ∈ ([] : List Cond), w.before _ s = true)⟩ (m2_code l D cy A X hst hXT G163 Vq mo tn ft N fe ne ui lf lt ln fo hR (by omega) x165) (tb_cw (C := RX14) 1 hT tw_1894 tw_109 tw_1891 tw_1892 tw_1893 rfl rfl hq_X14_code ⟨Nat.le_of_ble_eq_true rfl, Nat.le_of_ble_eq_true rfl⟩) (mk_preC hst hG hK hA hX hS vc_15 hmo) rfl rfl hl.1 rfl (lv_room (Nat.le_of_ble_eq_true rfl)) dL_law_572 ⟨(by show uc + 0 + 0 ≤ 601024; omega), (by show us + 0 + 0 ≤ 7293034; omega)⟩) hS (fun q _ h => h) (fun q h => h) (fun r166 G167 t H locs ht hvm hw hB hz1 hk1 hS => ?_)
          have hG : mm D vwCl A G167 H := by rw [← ht]; exact hB
          clear hB hz1 hk1 hvm ht
          rw [hsv0] at hw
          obtain ⟨er166, hR, hFV⟩ := hw
          replace hC := hC.mvF hFV
          replace hwa := hFV.1 _ _ hVwa hwa
          clear hmo
          refine lv_pop hx hb dL_law_575 rfl ?_
          refine lv_goto (tgt := 579) hx hb dL_law_576 (by decide) ?_
          obtain ⟨x168, ex168⟩ : ∃ y : Int32, y = (nI (5 * j)) + 5 := ⟨_, rfl⟩
          refine lv_iinc (v := x168) (lv' := [(4, .int x168), (0, .ref b), (1, .ref ox), (2, .ref mo), (3, .ref wa)]) hx hb dL_law_579 hl (k := 4) rfl (by rw [ex168]; rfl) (by decide) rfl (fun ls hl => ?_)
          refine lv_goto (tgt := 23) hx hb dL_law_582 (by decide) ?_
          rw [show x168 = nI (5 * (j + 1)) by rw [ex168]; exact nI_d (5 * j) 5] at hl
          refine W.widen (k := uc) (n := us) (by omega) (by omega) ?_
          exact ih (j + 1) (uc) (us) tn N ft fe ne ui lf lt ln fo lv0 (by omega) (by omega) (by omega) (fun h => by have := hu1 h; omega) (by omega) G167 hC hR hwa _ _ hG hS ls (lv_sub hl [1, 2, 3, 4, 0] rfl)
