theorem i64_n0 {x : Int64} (h : ¬ x < 0) : 0 ≤ x.toInt := by
  have := Int64.le_iff_toInt_le.mp (Int64.not_lt.mp h)
  rw [show (0 : Int64).toInt = 0 by decide] at this
  exact this
theorem lrm_ok {x y : Int64} {n : Nat} (hx : ¬ x < 0) (hy : ¬ y < 0) (h0 : ¬ y = 0) (hn : y.toInt.toNat ≤ n + 1) : ¬ (x - x / y * y) < 0 ∧ (x - x / y * y).toInt.toNat ≤ n := by
  have a1 := i64_n0 hx
  have a2 := i64_n0 hy
  have a3 : y.toInt ≠ 0 := fun z => h0 (Int64.toInt_inj.mp (by rw [z]; decide))
  have a4 := Int.tmod_nonneg y.toInt a1
  have a5 := Int.tmod_lt_of_pos x.toInt (show 0 < y.toInt by omega)
  have a6 : x.toInt.tdiv y.toInt * y.toInt + x.toInt.tmod y.toInt = x.toInt := by rw [Int.mul_comm]; exact Int.mul_tdiv_add_tmod _ _
  have b1 := Int64.toInt_lt x
  have b2 := Int.tdiv_nonneg a1 a2
  have b3 := Int.tdiv_le_self y.toInt a1
  have e1 : (x / y).toInt = x.toInt.tdiv y.toInt := by
    rw [Int64.toInt_div]
    apply Int.bmod_eq_of_le_mul_two <;> omega
  have b4 := Int.mul_nonneg b2 a2
  have e2 : (x / y * y).toInt = x.toInt.tdiv y.toInt * y.toInt := by
    rw [Int64.toInt_mul, e1]
    generalize x.toInt.tdiv y.toInt * y.toInt = P at *
    apply Int.bmod_eq_of_le_mul_two <;> omega
  have e : (x - x / y * y).toInt = x.toInt.tmod y.toInt := by
    rw [Int64.toInt_sub, e2]
    generalize x.toInt.tdiv y.toInt * y.toInt = P at *
    rw [show x.toInt - P = x.toInt.tmod y.toInt by omega]
    apply Int.bmod_eq_of_le_mul_two <;> omega
  refine ⟨Int64.not_lt.mpr (Int64.le_iff_toInt_le.mpr ?_), by rw [e]; omega⟩
  rw [e, show (0 : Int64).toInt = 0 by decide]
  exact a4

set_option maxHeartbeats 4000000 in
set_option maxRecDepth 100000 in
theorem c_M_common (l : Launch) (D : va_G) (cy : Nat → ClassId) (A : Nat → Prop) (X : State → Prop) (hst : mk_St A X) (hXT : ∀ U : State, X U → TB U) (G : Nat → Option va_E) (xa xb : Int64) (N9 : Nat) (h1 : ¬ labs xa < 0) (h2 : ¬ xb < 0) (h3 : xb.toInt.toNat ≤ N9) : Met l yX14_common [.code yX14_common cX14_common 10 (some .long)] ({ frames := 0, cells := 0, slots := 0, locals := 0 }) (mk_Pre D vwCl (tyL cy) A X G [.long xa, .long xb]) (va_Ql (fun (r : Int64) (G2 : Nat → Option va_E) => r = cdv N9 (labs xa) xb ∧ G2 = G) (mk_B D vwCl A) A) 0 0 A := by
  refine Met.ofW (cc := cX14_common) (maxL := 10) (ret := (some .long)) (by decide) rfl ?_
  intro p e s m args below meth c s₁ B hml hv
  obtain ⟨rfl, hG, hK, hA, hX⟩ := hv
  have hx := B.exec
  have hb := B.bytes
  have hr := B.returns
  have hlocks := B.notSynchronized
  have hT := hXT s hX
  have hown : s.vm.findClass RX14 = some m.cls := findClass_of_methodNamed B.named
  have hS : va_S A s.heap s.heap [] := va_S.rf
  have hl := lv_entry ([.long xa, .long xb]) (n := 10) (Nat.le_of_ble_eq_true rfl)
  rw [lg_entry_eq]
  generalize (lg_sl ([.long xa, .long xb]) ++ List.replicate (10 - (lg_sl ([.long xa, .long xb])).length) Slot.unset).toArray = ls at hl ⊢
  have hl : lv_has ls 10 [(0, .long xa), (2, .long xb)] := hl
  obtain ⟨RF, hR⟩ : ∃ y, cdv N9 (labs xa) xb = y := ⟨_, rfl⟩
  have hloop : ∀ (n : Nat) (ya yb : Int64), (¬ ya < 0) → (¬ yb < 0) → (yb.toInt.toNat ≤ n) → (cdv n ya yb = RF) → ∀ (Gv : Nat → Option va_E), (Gv = G) → ∀ (H : Heap) (locs : List Loc), mm D vwCl A Gv H → va_S A s.heap H locs → ∀ ls : Array Slot, lv_has ls 10 [(4, .long ya), (6, .long yb)] → W p l e (headSpec [.code yX14_common cX14_common 10 (some .long)] ({ frames := 0, cells := 0, slots := 0, locals := 0 })).room s m ([.long xa, .long xb] : List Value).toArray below meth c H locs 0 0 (MQ below (va_Ql (fun (r : Int64) (G2 : Nat → Option va_E) => r = cdv N9 (labs xa) xb ∧ G2 = G) (mk_B D vwCl A) A) ([.long xa, .long xb] : List Value).toArray s 0 0 A) (F0 m 17 ls []) := by
    intro n
    induction n with
    | zero =>
      intro ya yb hya hyb hn hq Gv hGe H locs hG hS ls hl
      refine lv_lload hx hb dX14_common_17 (lv_at hl 1 rfl) ?_
      refine lv_lconst (v := 0) hx hb dX14_common_19 (by decide) ?_
      refine W.lcmp hx hb dX14_common_20 ?_
      refine lv_if_eq (tgt := 42) hx hb dX14_common_21 (by decide) (fun c_21 => ?_) (fun c_21 => ?_)
      · skip
        refine lv_lload hx hb dX14_common_42 (lv_at hl 0 rfl) ?_
        have hy0 : yb = 0 := (lg_cmp_eq _ _).mp c_21
        exact W.lret (v := ya) hx hb hr (fun t ht hW => ⟨⟨_, _, rfl, ⟨(by rw [hR, ← hq]; first | rfl | (rw [cdv, if_pos hy0])), hGe⟩, mk_end hG ht⟩, hS.F ht⟩) hS.2.2 dX14_common_44
      · skip
        exact absurd ((lg_cmp_eq _ _).mpr (Int64.toInt_inj.mp (by have := i64_n0 hyb; rw [show (0 : Int64).toInt = 0 by decide]; omega))) c_21
    | succ n ih =>
      intro ya yb hya hyb hn hq Gv hGe H locs hG hS ls hl
      refine lv_lload hx hb dX14_common_17 (lv_at hl 1 rfl) ?_
      refine lv_lconst (v := 0) hx hb dX14_common_19 (by decide) ?_
      refine W.lcmp hx hb dX14_common_20 ?_
      refine lv_if_eq (tgt := 42) hx hb dX14_common_21 (by decide) (fun c_21 => ?_) (fun c_21 => ?_)
      · skip
        refine lv_lload hx hb dX14_common_42 (lv_at hl 0 rfl) ?_
        have hy0 : yb = 0 := (lg_cmp_eq _ _).mp c_21
        exact W.lret (v := ya) hx hb hr (fun t ht hW => ⟨⟨_, _, rfl, ⟨(by rw [hR, ← hq]; first | rfl | (rw [cdv, if_pos hy0])), hGe⟩, mk_end hG ht⟩, hS.F ht⟩) hS.2.2 dX14_common_44
      · skip
        refine lv_lload hx hb dX14_common_24 (lv_at hl 0 rfl) ?_
        refine lv_lload hx hb dX14_common_26 (lv_at hl 1 rfl) ?_
        refine lv_lrem hx hb dX14_common_28 (fun z => c_21 ((lg_cmp_eq _ _).mpr z)) ?_
        refine lv_topl (fun x3 ex3 => ?_)
        refine lv_lstore (lv' := [(8, .long x3), (4, .long ya), (6, .long yb)]) hx hb dX14_common_29 hl (by decide) rfl (fun ls hl => ?_)
        refine lv_lload hx hb dX14_common_31 (lv_at hl 2 rfl) ?_
        refine lv_lstore (lv' := [(4, .long yb), (8, .long x3), (6, .long yb)]) hx hb dX14_common_33 hl (by decide) rfl (fun ls hl => ?_)
        refine lv_lload hx hb dX14_common_35 (lv_at hl 1 rfl) ?_
        refine lv_lstore (lv' := [(6, .long x3), (4, .long yb), (8, .long x3)]) hx hb dX14_common_37 hl (by decide) rfl (fun ls hl => ?_)
        refine lv_goto (tgt := 17) hx hb dX14_common_39 (by decide) ?_
        have hy0 : ¬ yb = 0 := fun z => c_21 ((lg_cmp_eq _ _).mpr z)
        have hrm := lrm_ok hya hyb hy0 hn
        have hq2 : cdv n yb x3 = RF := by rw [← hq, cdv, if_neg hy0, ex3]
        rw [← ex3] at hrm
        exact ih yb x3 hyb hrm.1 hrm.2 hq2 Gv hGe _ _ hG hS ls (lv_sub hl [1, 0] rfl)
  refine lv_lload_n hx hb dX14_common_0 rfl (lv_at hl 0 rfl) ?_
  refine lv_lconst (v := 0) hx hb dX14_common_1 (by decide) ?_
  refine W.lcmp hx hb dX14_common_2 ?_
  refine lv_if_ge (tgt := 11) hx hb dX14_common_3 (by decide) (fun c_3 => ?_) (fun c_3 => ?_)
  · skip
    refine lv_lload_n hx hb dX14_common_11 rfl (lv_at hl 0 rfl) ?_
    refine lv_lstore (lv' := [(4, .long xa), (0, .long xa), (2, .long xb)]) hx hb dX14_common_12 hl (by decide) rfl (fun ls hl => ?_)
    refine lv_lload_n hx hb dX14_common_14 rfl (lv_at hl 2 rfl) ?_
    refine lv_lstore (lv' := [(6, .long xb), (4, .long xa), (0, .long xa), (2, .long xb)]) hx hb dX14_common_15 hl (by decide) rfl (fun ls hl => ?_)
    exact hloop N9 xa xb (by rw [show xa = labs xa by rw [labs, if_neg (Int64.not_lt.mpr ((lg_cmp_ge _ _).mp c_3))]]; exact h1) h2 h3 (by rw [show xa = labs xa by rw [labs, if_neg (Int64.not_lt.mpr ((lg_cmp_ge _ _).mp c_3))]]; exact hR) G rfl _ _ hG hS ls (lv_sub hl [1, 0] rfl)
  · skip
    refine lv_lload_n hx hb dX14_common_6 rfl (lv_at hl 0 rfl) ?_
    refine lv_lneg hx hb dX14_common_7 ?_
    refine lv_goto (tgt := 12) hx hb dX14_common_8 (by decide) ?_
    refine lv_topl (fun x5 ex5 => ?_)
    refine lv_lstore (lv' := [(4, .long x5), (0, .long xa), (2, .long xb)]) hx hb dX14_common_12 hl (by decide) rfl (fun ls hl => ?_)
    refine lv_lload_n hx hb dX14_common_14 rfl (lv_at hl 2 rfl) ?_
    refine lv_lstore (lv' := [(6, .long xb), (4, .long x5), (0, .long xa), (2, .long xb)]) hx hb dX14_common_15 hl (by decide) rfl (fun ls hl => ?_)
    exact hloop N9 x5 xb (by rw [show x5 = labs xa by rw [labs, if_pos (Int64.not_le.mp (fun z => c_3 ((lg_cmp_ge _ _).mpr z))), ex5]]; exact h1) h2 h3 (by rw [show x5 = labs xa by rw [labs, if_pos (Int64.not_le.mp (fun z => c_3 ((lg_cmp_ge _ _).mpr z))), ex5]]; exact hR) G rfl _ _ hG hS ls (lv_sub hl [1, 0] rfl)
