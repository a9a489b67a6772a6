/-- one expectation: (first wrong place, ring) -/
def ex1 (rt : Bool) (at_ : Int32) (w : Int32 × Option Nat) : Int32 × Option Nat := (if b2i rt = 0 ∧ isF w.1 at_ = true then at_ else w.1, if b2i rt = 0 ∧ isF w.1 at_ = true then none else w.2)
/-- every number once -/
def exN (n : Nat) (zs za : Nat → Int32) : Nat → Nat → Int32 × Option Nat → Int32 × Option Nat
  | 0, _, w => w
  | m + 1, j, w => exN n zs za m (j + 1) (ex1 (decide (fndF (fun i => decide ((zs i).toInt64 = (zs j).toInt64)) n 0 = some j)) (za j) w)
theorem fndF_lt {p : Nat → Bool} : ∀ (n j : Nat) {k : Nat}, fndF p n j = some k → j ≤ k ∧ k < n + j
  | 0, _, _, h => by cases h
  | n + 1, j, k, h => by
    rw [fndF] at h
    split at h
    · cases h
      omega
    · have := fndF_lt n (j + 1) h
      omega
theorem fnd_eq {p : Nat → Bool} {n j : Nat} {f : Nat → Nat} (hij : ∀ a b, a < n → b < n → f a = f b → a = b) (hj : j < n) (h : some (f j) = (fndF p n 0).map f) : fndF p n 0 = some j := by
  cases hz : fndF p n 0 with
  | none => rw [hz] at h; cases h
  | some k =>
    rw [hz] at h
    have h1 := fndF_lt n 0 hz
    rw [hij j k hj (by omega) (Option.some.inj h)]
set_option maxHeartbeats 4000000 in
set_option maxRecDepth 100000 in
theorem c_X2_expectNumbersOnce (l : Launch) (D : va_G) (cy : Nat → ClassId) (A : Nat → Prop) (X : State → Prop) (hst : mk_St A X) (hXT : ∀ U : State, X U → TB U) (e0 : Nat) (tk : Nat → Nat) (hXE : ∀ U : State, X U → ES e0 tk A U) (mi : Nat) (hXL : ∀ U : State, X U → EL e0 mi A U) (G : Nat → Option va_E) (ed : Nat) (lc ly lsv lco lva ljo na : Nat) (nc wa : Int32) (iu rs : Option Nat) (al ec nC : Nat) (fC : Nat → Nat) (fs : Nat → List Value) (zs za : Nat → Int32) (hed : G ed = some (.inr (3, [.ref lc, .ref ly, .ref lsv, .ref lco, .ref lva, .ref ljo, .ref na, .int nc, va_rf iu, .int wa, va_rf rs]))) (hls : LiS cy e0 G al ec nC fC) (hnC : nC < 200) (hnm : ∀ j, j < nC → G (fC j) = some (.inr (4, fs j)) ∧ (fs j)[0]? = some (.int (zs j)) ∧ (fs j)[1]? = some (.int (za j))) (hij : ∀ a b, a < nC → b < nC → fC a = fC b → a = b) : Met l yX2_expectNumbersOnce [.code yX2_expectNumbersOnce cX2_expectNumbersOnce 4 none] ({ frames := 5, cells := 0, slots := 0, locals := 150 }) (mk_Pre D vwCl (tyL cy) A X G [.ref ed, .ref al]) (va_Qv (fun (G2 : Nat → Option va_E) => G2 ed = some (.inr (3, [.ref lc, .ref ly, .ref lsv, .ref lco, .ref lva, .ref ljo, .ref na, .int nc, va_rf iu, .int ((exN nC zs za nC 0 (wa, rs)).1), va_rf ((exN nC zs za nC 0 (wa, rs)).2)])) ∧ ∀ (x : Nat) (e : va_E), G x = some e → x ≠ ed → G2 x = some e) (mk_B D vwCl A) A) 0 0 A := by
  refine Met.ofW (cc := cX2_expectNumbersOnce) (maxL := 4) (ret := none) (by decide) rfl ?_
  intro p e s m args below meth c s₁ B hml hv
  obtain ⟨rfl, hG, hK, hA, hX⟩ := hv
  have hx := B.exec
  have hb := B.bytes
  have hr := B.returns
  have hlocks := B.notSynchronized
  have hT := hXT s hX
  have hown : s.vm.findClass RX2 = some m.cls := findClass_of_methodNamed B.named
  have hf_X3 : ∀ w ∈ u_ws RX3 TX3 5, w.before ([.ref ed, .ref al] : List Value).toArray s = true := tb_list hT fX3
  have hS : va_S A s.heap s.heap [] := va_S.rf
  have hE := hXE s hX
  have hl := lv_entry ([.ref ed, .ref al]) (n := 4) (Nat.le_of_ble_eq_true rfl)
  rw [lg_entry_eq]
  generalize (lg_sl ([.ref ed, .ref al]) ++ List.replicate (4 - (lg_sl ([.ref ed, .ref al])).length) Slot.unset).toArray = ls at hl ⊢
  have hl : lv_has ls 4 [(0, .ref ed), (1, .ref al)] := hl
  obtain ⟨RF, hR⟩ : ∃ y, exN nC zs za nC 0 (wa, rs) = y := ⟨_, rfl⟩
  have hloop : ∀ (n : Nat) (j : Nat) (wv : Int32 × Option Nat), (n + j = nC) → (exN nC zs za n j wv = RF) → ∀ (Gv : Nat → Option va_E), (Gv ed = some (.inr (3, [.ref lc, .ref ly, .ref lsv, .ref lco, .ref lva, .ref ljo, .ref na, .int nc, va_rf iu, .int wv.1, va_rf wv.2]))) → (∀ (x : Nat) (e : va_E), G x = some e → x ≠ ed → Gv x = some e) → ∀ (H : Heap) (locs : List Loc), mm D vwCl A Gv H → va_S A s.heap H locs → ∀ ls : Array Slot, lv_has ls 4 [(0, .ref ed), (1, .ref al), (2, .int (nI j))] → W p l e (headSpec [.code yX2_expectNumbersOnce cX2_expectNumbersOnce 4 none] ({ frames := 5, cells := 0, slots := 0, locals := 150 })).room s m ([.ref ed, .ref al] : List Value).toArray below meth c H locs 0 0 (MQ below (va_Qv (fun (G2 : Nat → Option va_E) => G2 ed = some (.inr (3, [.ref lc, .ref ly, .ref lsv, .ref lco, .ref lva, .ref ljo, .ref na, .int nc, va_rf iu, .int ((exN nC zs za nC 0 (wa, rs)).1), va_rf ((exN nC zs za nC 0 (wa, rs)).2)])) ∧ ∀ (x : Nat) (e : va_E), G x = some e → x ≠ ed → G2 x = some e) (mk_B D vwCl A) A) ([.ref ed, .ref al] : List Value).toArray s 0 0 A) (F0 m 2 ls []) := by
    intro n
    induction n with
    | zero =>
      intro j wv hjn hq Gv v_ed hfr H locs hG hS ls hl
      refine lv_iload_n hx hb dX2_expectNumbersOnce_2 rfl (lv_at hl 2 rfl) ?_
      refine lv_aload_n hx hb dX2_expectNumbersOnce_3 rfl (lv_at hl 1 rfl) ?_
      have hB22 : ∀ (x : Nat) (e : va_E), G x = some e → x ≠ ed → Gv x = some e := hfr
      have hL21 : LiS cy e0 Gv al ec nC fC := LiS.fr2 (fun x => x ≠ ed) hls hB22 (hls.ne hed (by decide)) (fun v _ hv => mm_ne_ao hv hed)
      obtain ⟨mo23, h_mo23, -⟩ := id hL21
      refine va_calli (va_runV (As := []) (rest := [.int (nI j)]) ⟨hx, hb, hml, hown, (fun _ h9 => absurd h9 List.not_mem_nil : ∀ w ∈ ([] : List Cond), w.before _ s = true)⟩ (c_LS_size l D cy A X hst hXT e0 tk hXE mi hXL Gv al ec nC fC hL21) (tb_cw (C := RJx4a65c) 0 hT tw_457 tw_113 tw_999 tw_455 tw_456 rfl rfl hq_Jx4a65c_size_8abf5 ⟨Nat.le_of_ble_eq_true rfl, Nat.le_of_ble_eq_true rfl⟩) (mk_preC hst hG hK hA hX hS vc_1 h_mo23) rfl rfl hl.1 rfl (lv_room (Nat.le_of_ble_eq_true rfl)) dX2_expectNumbersOnce_4 ⟨Nat.le_of_ble_eq_true rfl, Nat.le_of_ble_eq_true rfl⟩) hS (fun q _ h => h) (fun q h => h) (fun r24 G25 t H locs ht hvm hw hB hz1 hk1 hS => ?_)
      have hG : mm D vwCl A G25 H := by rw [← ht]; exact hB
      clear hB hz1 hk1 hvm ht
      obtain ⟨rfl, hw⟩ := hw
      rw [hw] at hG
      refine lv_icmp_ge (tgt := 51) hx hb dX2_expectNumbersOnce_7 (by decide) (fun c_7 => ?_) (fun c_7 => ?_)
      · skip
        exact W.vret hx hb hr (fun t ht hW => ⟨⟨_, rfl, (by rw [hR, ← hq]; exact ⟨v_ed, hfr⟩), mk_end hG ht⟩, hS.F ht⟩) hS.2.2 dX2_expectNumbersOnce_51
      · skip
        exact absurd (by rw [show j = nC by omega]; exact Int32.le_refl _) c_7
    | succ n ih =>
      intro j wv hjn hq Gv v_ed hfr H locs hG hS ls hl
      refine lv_iload_n hx hb dX2_expectNumbersOnce_2 rfl (lv_at hl 2 rfl) ?_
      refine lv_aload_n hx hb dX2_expectNumbersOnce_3 rfl (lv_at hl 1 rfl) ?_
      have hB27 : ∀ (x : Nat) (e : va_E), G x = some e → x ≠ ed → Gv x = some e := hfr
      have hL26 : LiS cy e0 Gv al ec nC fC := LiS.fr2 (fun x => x ≠ ed) hls hB27 (hls.ne hed (by decide)) (fun v _ hv => mm_ne_ao hv hed)
      obtain ⟨mo28, h_mo28, -⟩ := id hL26
      refine va_calli (va_runV (As := []) (rest := [.int (nI j)]) ⟨hx, hb, hml, hown, (fun _ h9 => absurd h9 List.not_mem_nil : ∀ w ∈ ([] : List Cond), w.before _ s = true)⟩ (c_LS_size l D cy A X hst hXT e0 tk hXE mi hXL Gv al ec nC fC hL26) (tb_cw (C := RJx4a65c) 0 hT tw_457 tw_113 tw_999 tw_455 tw_456 rfl rfl hq_Jx4a65c_size_8abf5 ⟨Nat.le_of_ble_eq_true rfl, Nat.le_of_ble_eq_true rfl⟩) (mk_preC hst hG hK hA hX hS vc_1 h_mo28) rfl rfl hl.1 rfl (lv_room (Nat.le_of_ble_eq_true rfl)) dX2_expectNumbersOnce_4 ⟨Nat.le_of_ble_eq_true rfl, Nat.le_of_ble_eq_true rfl⟩) hS (fun q _ h => h) (fun q h => h) (fun r29 G30 t H locs ht hvm hw hB hz1 hk1 hS => ?_)
      have hG : mm D vwCl A G30 H := by rw [← ht]; exact hB
      clear hB hz1 hk1 hvm ht
      obtain ⟨rfl, hw⟩ := hw
      rw [hw] at hG
      refine lv_icmp_ge (tgt := 51) hx hb dX2_expectNumbersOnce_7 (by decide) (fun c_7 => ?_) (fun c_7 => ?_)
      · skip
        exact absurd c_7 (nI_ge (by omega) (by omega))
      · skip
        refine lv_aload_n hx hb dX2_expectNumbersOnce_10 rfl (lv_at hl 1 rfl) ?_
        refine lv_iload_n hx hb dX2_expectNumbersOnce_11 rfl (lv_at hl 2 rfl) ?_
        have hB32 : ∀ (x : Nat) (e : va_E), G x = some e → x ≠ ed → Gv x = some e := hfr
        have hL31 : LiS cy e0 Gv al ec nC fC := LiS.fr2 (fun x => x ≠ ed) hls hB32 (hls.ne hed (by decide)) (fun v _ hv => mm_ne_ao hv hed)
        obtain ⟨mo33, h_mo33, -⟩ := id hL31
        refine va_callq (va_runV (As := [.int (nI j)]) (rest := []) ⟨hx, hb, hml, hown, (fun _ h9 => absurd h9 List.not_mem_nil : ∀ w ∈ ([] : List Cond), w.before _ s = true)⟩ (c_LS_get l D cy A X hst hXT e0 tk hXE mi hXL Gv al ec nC fC j hL31 (by omega)) (tb_cw (C := RJx4a65c) 1 hT tw_942 tw_113 tw_1000 tw_940 tw_941 rfl rfl hq_Jx4a65c_get_915e3 ⟨Nat.le_of_ble_eq_true rfl, Nat.le_of_ble_eq_true rfl⟩) (mk_preC hst hG hK hA hX hS vc_1 h_mo33) rfl rfl hl.1 rfl (lv_room (Nat.le_of_ble_eq_true rfl)) dX2_expectNumbersOnce_12 ⟨Nat.le_of_ble_eq_true rfl, Nat.le_of_ble_eq_true rfl⟩) hS (fun q _ h => h) (fun q h => h) (fun r34 G35 t H locs ht hvm hw hB hz1 hk1 hS => ?_)
        have hG : mm D vwCl A G35 H := by rw [← ht]; exact hB
        clear hB hz1 hk1 hvm ht
        obtain ⟨rfl, hw⟩ := hw
        rw [hw] at hG
        obtain ⟨ob, eob⟩ : ∃ y, y = fC j := ⟨_, rfl⟩
        rw [← eob]
        have k_ob : Gv ob = some (.inr (4, fs j)) := by rw [eob]; exact hB32 _ _ (hnm j (by omega)).1 (mm_ne_oo (hnm j (by omega)).1 hed (by decide))
        refine W.eq (g2 := F0 m 15 ls [.ref ob]) rfl ?_
        refine va_castS hx hb hown (tb_use hT tw_1027) (hK.1 4 _ rfl).2 (va_recv hK (hG.one k_ob) (q := (RX3, TX3, 5)) rfl (q0 := 0) rfl) dX2_expectNumbersOnce_15 ?_
        refine lv_astore_n (lv' := [(3, .ref ob), (0, .ref ed), (1, .ref al), (2, .int (nI j))]) hx hb dX2_expectNumbersOnce_18 rfl hl (by decide) rfl (fun ls hl => ?_)
        refine lv_aload_n hx hb dX2_expectNumbersOnce_19 rfl (lv_at hl 1 rfl) ?_
        refine lv_aload_n hx hb dX2_expectNumbersOnce_20 rfl (lv_at hl 2 rfl) ?_
        refine lv_aload_n hx hb dX2_expectNumbersOnce_21 rfl (lv_at hl 0 rfl) ?_
        refine mm_getN (v := .int (zs j)) hx hb hf_X3 (fun _ h9 => h9) hown hK hG k_ob rfl 0 (by decide) (tb_use hT tw_559) (fun _ h9 => h9) (hnm j (by omega)).2.1 dX2_expectNumbersOnce_22 ?_
        obtain ⟨x36, ex36⟩ : ∃ y, y = ((zs j) : Int32).toInt64 := ⟨_, rfl⟩
        refine lv_i2l (v := x36) hx hb dX2_expectNumbersOnce_25 ex36.symm ?_
        rw [ex36]
        refine va_callq (va_runSN (As := [.ref al, .long ((zs j).toInt64)]) (rest := [.ref ed]) ⟨hx, hb, hml, hown, (fun _ h9 => absurd h9 List.not_mem_nil : ∀ w ∈ ([] : List Cond), w.before _ s = true)⟩ (c_X13_firstWithNumber l D cy A X hst hXT e0 tk hXE mi hXL Gv al ec nC fC fs zs (zs j).toInt64 hL31 (by omega) (fun i hi => ⟨hB32 _ _ (hnm i hi).1 (mm_ne_oo (hnm i hi).1 hed (by decide)), (hnm i hi).2.1⟩)) ⟨tb_cn (host := "DescribeText") 2 hT tw_1030 tw_105 tw_1028 rfl rfl hq_X13_firstWithNumber ⟨Nat.le_of_ble_eq_true rfl, Nat.le_of_ble_eq_true rfl⟩, (tb_use hT tw_1029), trivial⟩ (mk_preS hst hG hK hA hX hS) rfl rfl hl.1 rfl (lv_room (Nat.le_of_ble_eq_true rfl)) dX2_expectNumbersOnce_26 ⟨Nat.le_of_ble_eq_true rfl, Nat.le_of_ble_eq_true rfl⟩) hS (fun q _ h => h) (fun q h => h) (fun r37 G38 t H locs ht hvm hw hB hz1 hk1 hS => ?_)
        have hG : mm D vwCl A G38 H := by rw [← ht]; exact hB
        clear hB hz1 hk1 hvm ht
        obtain ⟨er37, hw⟩ := hw
        rw [hw] at hG
        refine lv_aload_n hx hb dX2_expectNumbersOnce_29 rfl (lv_at hl 0 rfl) ?_
        refine lv_acmp_ne (rx := r37) (ry := some ob) (tgt := 37) hx hb dX2_expectNumbersOnce_30 (by decide) (fun c_30 => ?_) (fun c_30 => ?_)
        · skip
          refine lv_iconst (v := 0) hx hb dX2_expectNumbersOnce_37 (by decide) ?_
          refine lv_aload_n hx hb dX2_expectNumbersOnce_38 rfl (lv_at hl 0 rfl) ?_
          refine mm_getN (v := .int (za j)) hx hb hf_X3 (fun _ h9 => h9) hown hK hG k_ob rfl 1 (by decide) (tb_use hT tw_563) (fun _ h9 => h9) (hnm j (by omega)).2.2 dX2_expectNumbersOnce_39 ?_
          have hfx : (decide (fndF (fun i => decide ((zs i).toInt64 = (zs j).toInt64)) nC 0 = some j)) = false := decide_eq_false (fun z => c_30 (by rw [er37, z, eob]; rfl))
          rw [show (0 : Int32) = b2i (decide (fndF (fun i => decide ((zs i).toInt64 = (zs j).toInt64)) nC 0 = some j)) by rw [hfx]; rfl]
          refine va_callv (va_runV (As := [.int (b2i (decide (fndF (fun i => decide ((zs i).toInt64 = (zs j).toInt64)) nC 0 = some j))), .int (za j)]) (rest := []) ⟨hx, hb, hml, hown, (fun _ h9 => absurd h9 List.not_mem_nil : ∀ w ∈ ([] : List Cond), w.before _ s = true)⟩ (c_X2_expect l D cy A X hst hXT e0 tk hXE Gv ed lc ly lsv lco lva ljo na nc wv.1 iu wv.2 (b2i (decide (fndF (fun i => decide ((zs i).toInt64 = (zs j).toInt64)) nC 0 = some j))) (za j) v_ed) (tb_cw (C := RX2) 2 hT tw_1009 tw_110 tw_1006 tw_1008 tw_34 rfl rfl hq_X2_expect ⟨Nat.le_of_ble_eq_true rfl, Nat.le_of_ble_eq_true rfl⟩) (mk_preC hst hG hK hA hX hS vc_3 v_ed) rfl rfl hl.1 rfl (lv_room (Nat.le_of_ble_eq_true rfl)) dX2_expectNumbersOnce_42 ⟨Nat.le_of_ble_eq_true rfl, Nat.le_of_ble_eq_true rfl⟩) hS (fun q _ h => h) (fun q h => h) (fun  G39 t H locs ht hvm hw hB hz1 hk1 hS => ?_)
          have hG : mm D vwCl A G39 H := by rw [← ht]; exact hB
          clear hB hz1 hk1 hvm ht
          have eG39 : G39 = mm_set Gv ed (.inr (3, [.ref lc, .ref ly, .ref lsv, .ref lco, .ref lva, .ref ljo, .ref na, .int nc, va_rf iu, .int ((ex1 (decide (fndF (fun i => decide ((zs i).toInt64 = (zs j).toInt64)) nC 0 = some j)) (za j) wv).1), va_rf ((ex1 (decide (fndF (fun i => decide ((zs i).toInt64 = (zs j).toInt64)) nC 0 = some j)) (za j) wv).2)])) := hw
          have k_ed : G39 ed = some (.inr (3, [.ref lc, .ref ly, .ref lsv, .ref lco, .ref lva, .ref ljo, .ref na, .int nc, va_rf iu, .int ((ex1 (decide (fndF (fun i => decide ((zs i).toInt64 = (zs j).toInt64)) nC 0 = some j)) (za j) wv).1), va_rf ((ex1 (decide (fndF (fun i => decide ((zs i).toInt64 = (zs j).toInt64)) nC 0 = some j)) (za j) wv).2)])) := by rw [eG39]; exact mm_set_self
          obtain ⟨x40, ex40⟩ : ∃ y : Int32, y = (nI j) + 1 := ⟨_, rfl⟩
          refine lv_iinc (v := x40) (lv' := [(2, .int x40), (3, .ref ob), (0, .ref ed), (1, .ref al)]) hx hb dX2_expectNumbersOnce_45 hl (k := 3) rfl (by rw [ex40]; rfl) (by decide) rfl (fun ls hl => ?_)
          refine lv_goto (tgt := 2) hx hb dX2_expectNumbersOnce_48 (by decide) ?_
          rw [show x40 = nI (j + 1) by rw [ex40]; exact (nI_succ j).symm] at hl
          have hfr2 : ∀ (x : Nat) (e : va_E), G x = some e → x ≠ ed → G39 x = some e := fun x e h0 n1 => by rw [eG39]; exact mm_set_of (hfr x e h0 n1) n1
          exact ih (j + 1) (ex1 (decide (fndF (fun i => decide ((zs i).toInt64 = (zs j).toInt64)) nC 0 = some j)) (za j) wv) (by omega) hq G39 k_ed hfr2 _ _ hG hS ls (lv_sub hl [2, 3, 0] rfl)
        · skip
          refine lv_iconst (v := 1) hx hb dX2_expectNumbersOnce_33 (by decide) ?_
          refine lv_goto (tgt := 38) hx hb dX2_expectNumbersOnce_34 (by decide) ?_
          refine lv_aload_n hx hb dX2_expectNumbersOnce_38 rfl (lv_at hl 0 rfl) ?_
          refine mm_getN (v := .int (za j)) hx hb hf_X3 (fun _ h9 => h9) hown hK hG k_ob rfl 1 (by decide) (tb_use hT tw_563) (fun _ h9 => h9) (hnm j (by omega)).2.2 dX2_expectNumbersOnce_39 ?_
          have hfx : (decide (fndF (fun i => decide ((zs i).toInt64 = (zs j).toInt64)) nC 0 = some j)) = true := decide_eq_true (fnd_eq hij (by omega) (by rw [← er37, c_30, eob]))
          rw [show (1 : Int32) = b2i (decide (fndF (fun i => decide ((zs i).toInt64 = (zs j).toInt64)) nC 0 = some j)) by rw [hfx]; rfl]
          refine va_callv (va_runV (As := [.int (b2i (decide (fndF (fun i => decide ((zs i).toInt64 = (zs j).toInt64)) nC 0 = some j))), .int (za j)]) (rest := []) ⟨hx, hb, hml, hown, (fun _ h9 => absurd h9 List.not_mem_nil : ∀ w ∈ ([] : List Cond), w.before _ s = true)⟩ (c_X2_expect l D cy A X hst hXT e0 tk hXE Gv ed lc ly lsv lco lva ljo na nc wv.1 iu wv.2 (b2i (decide (fndF (fun i => decide ((zs i).toInt64 = (zs j).toInt64)) nC 0 = some j))) (za j) v_ed) (tb_cw (C := RX2) 2 hT tw_1009 tw_110 tw_1006 tw_1008 tw_34 rfl rfl hq_X2_expect ⟨Nat.le_of_ble_eq_true rfl, Nat.le_of_ble_eq_true rfl⟩) (mk_preC hst hG hK hA hX hS vc_3 v_ed) rfl rfl hl.1 rfl (lv_room (Nat.le_of_ble_eq_true rfl)) dX2_expectNumbersOnce_42 ⟨Nat.le_of_ble_eq_true rfl, Nat.le_of_ble_eq_true rfl⟩) hS (fun q _ h => h) (fun q h => h) (fun  G41 t H locs ht hvm hw hB hz1 hk1 hS => ?_)
          have hG : mm D vwCl A G41 H := by rw [← ht]; exact hB
          clear hB hz1 hk1 hvm ht
          have eG41 : G41 = mm_set Gv ed (.inr (3, [.ref lc, .ref ly, .ref lsv, .ref lco, .ref lva, .ref ljo, .ref na, .int nc, va_rf iu, .int ((ex1 (decide (fndF (fun i => decide ((zs i).toInt64 = (zs j).toInt64)) nC 0 = some j)) (za j) wv).1), va_rf ((ex1 (decide (fndF (fun i => decide ((zs i).toInt64 = (zs j).toInt64)) nC 0 = some j)) (za j) wv).2)])) := hw
          have k_ed : G41 ed = some (.inr (3, [.ref lc, .ref ly, .ref lsv, .ref lco, .ref lva, .ref ljo, .ref na, .int nc, va_rf iu, .int ((ex1 (decide (fndF (fun i => decide ((zs i).toInt64 = (zs j).toInt64)) nC 0 = some j)) (za j) wv).1), va_rf ((ex1 (decide (fndF (fun i => decide ((zs i).toInt64 = (zs j).toInt64)) nC 0 = some j)) (za j) wv).2)])) := by rw [eG41]; exact mm_set_self
          obtain ⟨x42, ex42⟩ : ∃ y : Int32, y = (nI j) + 1 := ⟨_, rfl⟩
          refine lv_iinc (v := x42) (lv' := [(2, .int x42), (3, .ref ob), (0, .ref ed), (1, .ref al)]) hx hb dX2_expectNumbersOnce_45 hl (k := 3) rfl (by rw [ex42]; rfl) (by decide) rfl (fun ls hl => ?_)
          refine lv_goto (tgt := 2) hx hb dX2_expectNumbersOnce_48 (by decide) ?_
          rw [show x42 = nI (j + 1) by rw [ex42]; exact (nI_succ j).symm] at hl
          have hfr2 : ∀ (x : Nat) (e : va_E), G x = some e → x ≠ ed → G41 x = some e := fun x e h0 n1 => by rw [eG41]; exact mm_set_of (hfr x e h0 n1) n1
          exact ih (j + 1) (ex1 (decide (fndF (fun i => decide ((zs i).toInt64 = (zs j).toInt64)) nC 0 = some j)) (za j) wv) (by omega) hq G41 k_ed hfr2 _ _ hG hS ls (lv_sub hl [2, 3, 0] rfl)
  refine lv_iconst (v := 0) hx hb dX2_expectNumbersOnce_0 (by decide) ?_
  refine lv_istore_n (lv' := [(2, .int 0), (0, .ref ed), (1, .ref al)]) hx hb dX2_expectNumbersOnce_1 rfl hl (by decide) rfl (fun ls hl => ?_)
  exact hloop nC 0 (wa, rs) (by omega) hR G hed (fun x e h _ => h) _ _ hG hS ls (lv_sub hl [1, 2, 0] rfl)
