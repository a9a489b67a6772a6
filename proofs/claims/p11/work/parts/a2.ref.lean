/-- the reference's words by their packed signs -/
def lkW (d : Int32) : List (Int64 × Int32) → Int64 → Int32
  | [], _ => d
  | x :: r, v => if v = x.1 then x.2 else lkW d r v
def owL : List (Int64 × Int32) := [(32772461958422902, 13), (6451050, 14), (7632240, 15), (7628135, 16), (6579297, 17), (6452595, 18), (7107949, 19), (7370084, 20), (1885435763, 21), (1886351972, 22), (1684956531, 23), (435610544247, 24)]
def woL : List (Int64 × Int32) := [(113723912253283, 1), (126943755527023, 2), (110386806745459, 3), (435610018675, 4), (1937075312, 5), (491328725356, 6), (26223, 7), (28538277257700723, 8), (469786321264, 9), (1852139639, 10), (495622908276, 11), (1701080931, 12)]
def owF (v : Int64) : Int32 := lkW 0 owL v
def woF (v : Int64) : Int32 := lkW (owF v) woL v
theorem nI_sb {a b : Nat} (h : a ≤ b) : nI b - nI a = nI (b - a) := by
  have e : nI b = nI (b - a) + nI a := by rw [nI_add]; congr 1; omega
  rw [e, Int32.add_sub_cancel]

set_option maxHeartbeats 4000000 in
set_option maxRecDepth 100000 in
theorem c_M_other (l : Launch) (D : va_G) (cy : Nat → ClassId) (A : Nat → Prop) (X : State → Prop) (hst : mk_St A X) (hXT : ∀ U : State, X U → TB U) (G : Nat → Option va_E) (xa : Int64)  : Met l yX14_otherWord [.code yX14_otherWord cX14_otherWord 2 (some .int)] ({ frames := 0, cells := 0, slots := 0, locals := 0 }) (mk_Pre D vwCl (tyL cy) A X G [.long xa]) (va_Qi (fun (r : Int32) (G2 : Nat → Option va_E) => r = owF xa ∧ G2 = G) (mk_B D vwCl A) A) 0 0 A := by
  refine Met.ofW (cc := cX14_otherWord) (maxL := 2) (ret := (some .int)) (by decide) rfl ?_
  intro p e s m args below meth c s₁ B hml hv
  obtain ⟨rfl, hG, hK, hA, hX⟩ := hv
  have hx := B.exec
  have hb := B.bytes
  have hr := B.returns
  have hlocks := B.notSynchronized
  have hT := hXT s hX
  have hown : s.vm.findClass RX14 = some m.cls := findClass_of_methodNamed B.named
  have hS : va_S A s.heap s.heap [] := va_S.rf
  have hl := lv_entry ([.long xa]) (n := 2) (Nat.le_of_ble_eq_true rfl)
  rw [lg_entry_eq]
  generalize (lg_sl ([.long xa]) ++ List.replicate (2 - (lg_sl ([.long xa])).length) Slot.unset).toArray = ls at hl ⊢
  have hl : lv_has ls 2 [(0, .long xa)] := hl
  refine lv_lload_n hx hb dX14_otherWord_0 rfl (lv_at hl 0 rfl) ?_
  refine lv_ldc2 hx hb hown (tb_use hT tw_1674) dX14_otherWord_1 ?_
  refine W.lcmp hx hb dX14_otherWord_4 ?_
  refine lv_if_ne (tgt := 13) hx hb dX14_otherWord_5 (by decide) (fun c_5 => ?_) (fun c_5 => ?_)
  · skip
    refine lv_lload_n hx hb dX14_otherWord_13 rfl (lv_at hl 0 rfl) ?_
    refine lv_ldc2 hx hb hown (tb_use hT tw_1675) dX14_otherWord_14 ?_
    refine W.lcmp hx hb dX14_otherWord_17 ?_
    refine lv_if_ne (tgt := 26) hx hb dX14_otherWord_18 (by decide) (fun c_18 => ?_) (fun c_18 => ?_)
    · skip
      refine lv_lload_n hx hb dX14_otherWord_26 rfl (lv_at hl 0 rfl) ?_
      refine lv_ldc2 hx hb hown (tb_use hT tw_1676) dX14_otherWord_27 ?_
      refine W.lcmp hx hb dX14_otherWord_30 ?_
      refine lv_if_ne (tgt := 39) hx hb dX14_otherWord_31 (by decide) (fun c_31 => ?_) (fun c_31 => ?_)
      · skip
        refine lv_lload_n hx hb dX14_otherWord_39 rfl (lv_at hl 0 rfl) ?_
        refine lv_ldc2 hx hb hown (tb_use hT tw_1677) dX14_otherWord_40 ?_
        refine W.lcmp hx hb dX14_otherWord_43 ?_
        refine lv_if_ne (tgt := 52) hx hb dX14_otherWord_44 (by decide) (fun c_44 => ?_) (fun c_44 => ?_)
        · skip
          refine lv_lload_n hx hb dX14_otherWord_52 rfl (lv_at hl 0 rfl) ?_
          refine lv_ldc2 hx hb hown (tb_use hT tw_1678) dX14_otherWord_53 ?_
          refine W.lcmp hx hb dX14_otherWord_56 ?_
          refine lv_if_ne (tgt := 65) hx hb dX14_otherWord_57 (by decide) (fun c_57 => ?_) (fun c_57 => ?_)
          · skip
            refine lv_lload_n hx hb dX14_otherWord_65 rfl (lv_at hl 0 rfl) ?_
            refine lv_ldc2 hx hb hown (tb_use hT tw_1679) dX14_otherWord_66 ?_
            refine W.lcmp hx hb dX14_otherWord_69 ?_
            refine lv_if_ne (tgt := 78) hx hb dX14_otherWord_70 (by decide) (fun c_70 => ?_) (fun c_70 => ?_)
            · skip
              refine lv_lload_n hx hb dX14_otherWord_78 rfl (lv_at hl 0 rfl) ?_
              refine lv_ldc2 hx hb hown (tb_use hT tw_1680) dX14_otherWord_79 ?_
              refine W.lcmp hx hb dX14_otherWord_82 ?_
              refine lv_if_ne (tgt := 91) hx hb dX14_otherWord_83 (by decide) (fun c_83 => ?_) (fun c_83 => ?_)
              · skip
                refine lv_lload_n hx hb dX14_otherWord_91 rfl (lv_at hl 0 rfl) ?_
                refine lv_ldc2 hx hb hown (tb_use hT tw_1681) dX14_otherWord_92 ?_
                refine W.lcmp hx hb dX14_otherWord_95 ?_
                refine lv_if_ne (tgt := 104) hx hb dX14_otherWord_96 (by decide) (fun c_96 => ?_) (fun c_96 => ?_)
                · skip
                  refine lv_lload_n hx hb dX14_otherWord_104 rfl (lv_at hl 0 rfl) ?_
                  refine lv_ldc2 hx hb hown (tb_use hT tw_1682) dX14_otherWord_105 ?_
                  refine W.lcmp hx hb dX14_otherWord_108 ?_
                  refine lv_if_ne (tgt := 117) hx hb dX14_otherWord_109 (by decide) (fun c_109 => ?_) (fun c_109 => ?_)
                  · skip
                    refine lv_lload_n hx hb dX14_otherWord_117 rfl (lv_at hl 0 rfl) ?_
                    refine lv_ldc2 hx hb hown (tb_use hT tw_1683) dX14_otherWord_118 ?_
                    refine W.lcmp hx hb dX14_otherWord_121 ?_
                    refine lv_if_ne (tgt := 130) hx hb dX14_otherWord_122 (by decide) (fun c_122 => ?_) (fun c_122 => ?_)
                    · skip
                      refine lv_lload_n hx hb dX14_otherWord_130 rfl (lv_at hl 0 rfl) ?_
                      refine lv_ldc2 hx hb hown (tb_use hT tw_1684) dX14_otherWord_131 ?_
                      refine W.lcmp hx hb dX14_otherWord_134 ?_
                      refine lv_if_ne (tgt := 143) hx hb dX14_otherWord_135 (by decide) (fun c_135 => ?_) (fun c_135 => ?_)
                      · skip
                        refine lv_lload_n hx hb dX14_otherWord_143 rfl (lv_at hl 0 rfl) ?_
                        refine lv_ldc2 hx hb hown (tb_use hT tw_1685) dX14_otherWord_144 ?_
                        refine W.lcmp hx hb dX14_otherWord_147 ?_
                        refine lv_if_ne (tgt := 156) hx hb dX14_otherWord_148 (by decide) (fun c_148 => ?_) (fun c_148 => ?_)
                        · skip
                          refine lv_iconst (v := 0) hx hb dX14_otherWord_156 (by decide) ?_
                          exact W.iret (v := 0) hx hb hr (fun t ht hW => ⟨⟨_, _, rfl, ⟨(by rw [owF, owL, lkW, if_neg (fun z => c_5 ((lg_cmp_eq _ _).mpr z)), lkW, if_neg (fun z => c_18 ((lg_cmp_eq _ _).mpr z)), lkW, if_neg (fun z => c_31 ((lg_cmp_eq _ _).mpr z)), lkW, if_neg (fun z => c_44 ((lg_cmp_eq _ _).mpr z)), lkW, if_neg (fun z => c_57 ((lg_cmp_eq _ _).mpr z)), lkW, if_neg (fun z => c_70 ((lg_cmp_eq _ _).mpr z)), lkW, if_neg (fun z => c_83 ((lg_cmp_eq _ _).mpr z)), lkW, if_neg (fun z => c_96 ((lg_cmp_eq _ _).mpr z)), lkW, if_neg (fun z => c_109 ((lg_cmp_eq _ _).mpr z)), lkW, if_neg (fun z => c_122 ((lg_cmp_eq _ _).mpr z)), lkW, if_neg (fun z => c_135 ((lg_cmp_eq _ _).mpr z)), lkW, if_neg (fun z => c_148 ((lg_cmp_eq _ _).mpr z))]; rfl), rfl⟩, mk_end hG ht⟩, hS.F ht⟩) hS.2.2 dX14_otherWord_157
                        · skip
                          refine lv_bipush (v := 24) hx hb dX14_otherWord_151 (by decide) ?_
                          refine lv_goto (tgt := 157) hx hb dX14_otherWord_153 (by decide) ?_
                          exact W.iret (v := 24) hx hb hr (fun t ht hW => ⟨⟨_, _, rfl, ⟨(by rw [owF, owL, lkW, if_neg (fun z => c_5 ((lg_cmp_eq _ _).mpr z)), lkW, if_neg (fun z => c_18 ((lg_cmp_eq _ _).mpr z)), lkW, if_neg (fun z => c_31 ((lg_cmp_eq _ _).mpr z)), lkW, if_neg (fun z => c_44 ((lg_cmp_eq _ _).mpr z)), lkW, if_neg (fun z => c_57 ((lg_cmp_eq _ _).mpr z)), lkW, if_neg (fun z => c_70 ((lg_cmp_eq _ _).mpr z)), lkW, if_neg (fun z => c_83 ((lg_cmp_eq _ _).mpr z)), lkW, if_neg (fun z => c_96 ((lg_cmp_eq _ _).mpr z)), lkW, if_neg (fun z => c_109 ((lg_cmp_eq _ _).mpr z)), lkW, if_neg (fun z => c_122 ((lg_cmp_eq _ _).mpr z)), lkW, if_neg (fun z => c_135 ((lg_cmp_eq _ _).mpr z)), lkW, if_pos ((lg_cmp_eq _ _).mp c_148)]), rfl⟩, mk_end hG ht⟩, hS.F ht⟩) hS.2.2 dX14_otherWord_157
                      · skip
                        refine lv_bipush (v := 23) hx hb dX14_otherWord_138 (by decide) ?_
                        refine lv_goto (tgt := 157) hx hb dX14_otherWord_140 (by decide) ?_
                        exact W.iret (v := 23) hx hb hr (fun t ht hW => ⟨⟨_, _, rfl, ⟨(by rw [owF, owL, lkW, if_neg (fun z => c_5 ((lg_cmp_eq _ _).mpr z)), lkW, if_neg (fun z => c_18 ((lg_cmp_eq _ _).mpr z)), lkW, if_neg (fun z => c_31 ((lg_cmp_eq _ _).mpr z)), lkW, if_neg (fun z => c_44 ((lg_cmp_eq _ _).mpr z)), lkW, if_neg (fun z => c_57 ((lg_cmp_eq _ _).mpr z)), lkW, if_neg (fun z => c_70 ((lg_cmp_eq _ _).mpr z)), lkW, if_neg (fun z => c_83 ((lg_cmp_eq _ _).mpr z)), lkW, if_neg (fun z => c_96 ((lg_cmp_eq _ _).mpr z)), lkW, if_neg (fun z => c_109 ((lg_cmp_eq _ _).mpr z)), lkW, if_neg (fun z => c_122 ((lg_cmp_eq _ _).mpr z)), lkW, if_pos ((lg_cmp_eq _ _).mp c_135)]), rfl⟩, mk_end hG ht⟩, hS.F ht⟩) hS.2.2 dX14_otherWord_157
                    · skip
                      refine lv_bipush (v := 22) hx hb dX14_otherWord_125 (by decide) ?_
                      refine lv_goto (tgt := 157) hx hb dX14_otherWord_127 (by decide) ?_
                      exact W.iret (v := 22) hx hb hr (fun t ht hW => ⟨⟨_, _, rfl, ⟨(by rw [owF, owL, lkW, if_neg (fun z => c_5 ((lg_cmp_eq _ _).mpr z)), lkW, if_neg (fun z => c_18 ((lg_cmp_eq _ _).mpr z)), lkW, if_neg (fun z => c_31 ((lg_cmp_eq _ _).mpr z)), lkW, if_neg (fun z => c_44 ((lg_cmp_eq _ _).mpr z)), lkW, if_neg (fun z => c_57 ((lg_cmp_eq _ _).mpr z)), lkW, if_neg (fun z => c_70 ((lg_cmp_eq _ _).mpr z)), lkW, if_neg (fun z => c_83 ((lg_cmp_eq _ _).mpr z)), lkW, if_neg (fun z => c_96 ((lg_cmp_eq _ _).mpr z)), lkW, if_neg (fun z => c_109 ((lg_cmp_eq _ _).mpr z)), lkW, if_pos ((lg_cmp_eq _ _).mp c_122)]), rfl⟩, mk_end hG ht⟩, hS.F ht⟩) hS.2.2 dX14_otherWord_157
                  · skip
                    refine lv_bipush (v := 21) hx hb dX14_otherWord_112 (by decide) ?_
                    refine lv_goto (tgt := 157) hx hb dX14_otherWord_114 (by decide) ?_
                    exact W.iret (v := 21) hx hb hr (fun t ht hW => ⟨⟨_, _, rfl, ⟨(by rw [owF, owL, lkW, if_neg (fun z => c_5 ((lg_cmp_eq _ _).mpr z)), lkW, if_neg (fun z => c_18 ((lg_cmp_eq _ _).mpr z)), lkW, if_neg (fun z => c_31 ((lg_cmp_eq _ _).mpr z)), lkW, if_neg (fun z => c_44 ((lg_cmp_eq _ _).mpr z)), lkW, if_neg (fun z => c_57 ((lg_cmp_eq _ _).mpr z)), lkW, if_neg (fun z => c_70 ((lg_cmp_eq _ _).mpr z)), lkW, if_neg (fun z => c_83 ((lg_cmp_eq _ _).mpr z)), lkW, if_neg (fun z => c_96 ((lg_cmp_eq _ _).mpr z)), lkW, if_pos ((lg_cmp_eq _ _).mp c_109)]), rfl⟩, mk_end hG ht⟩, hS.F ht⟩) hS.2.2 dX14_otherWord_157
                · skip
                  refine lv_bipush (v := 20) hx hb dX14_otherWord_99 (by decide) ?_
                  refine lv_goto (tgt := 157) hx hb dX14_otherWord_101 (by decide) ?_
                  exact W.iret (v := 20) hx hb hr (fun t ht hW => ⟨⟨_, _, rfl, ⟨(by rw [owF, owL, lkW, if_neg (fun z => c_5 ((lg_cmp_eq _ _).mpr z)), lkW, if_neg (fun z => c_18 ((lg_cmp_eq _ _).mpr z)), lkW, if_neg (fun z => c_31 ((lg_cmp_eq _ _).mpr z)), lkW, if_neg (fun z => c_44 ((lg_cmp_eq _ _).mpr z)), lkW, if_neg (fun z => c_57 ((lg_cmp_eq _ _).mpr z)), lkW, if_neg (fun z => c_70 ((lg_cmp_eq _ _).mpr z)), lkW, if_neg (fun z => c_83 ((lg_cmp_eq _ _).mpr z)), lkW, if_pos ((lg_cmp_eq _ _).mp c_96)]), rfl⟩, mk_end hG ht⟩, hS.F ht⟩) hS.2.2 dX14_otherWord_157
              · skip
                refine lv_bipush (v := 19) hx hb dX14_otherWord_86 (by decide) ?_
                refine lv_goto (tgt := 157) hx hb dX14_otherWord_88 (by decide) ?_
                exact W.iret (v := 19) hx hb hr (fun t ht hW => ⟨⟨_, _, rfl, ⟨(by rw [owF, owL, lkW, if_neg (fun z => c_5 ((lg_cmp_eq _ _).mpr z)), lkW, if_neg (fun z => c_18 ((lg_cmp_eq _ _).mpr z)), lkW, if_neg (fun z => c_31 ((lg_cmp_eq _ _).mpr z)), lkW, if_neg (fun z => c_44 ((lg_cmp_eq _ _).mpr z)), lkW, if_neg (fun z => c_57 ((lg_cmp_eq _ _).mpr z)), lkW, if_neg (fun z => c_70 ((lg_cmp_eq _ _).mpr z)), lkW, if_pos ((lg_cmp_eq _ _).mp c_83)]), rfl⟩, mk_end hG ht⟩, hS.F ht⟩) hS.2.2 dX14_otherWord_157
            · skip
              refine lv_bipush (v := 18) hx hb dX14_otherWord_73 (by decide) ?_
              refine lv_goto (tgt := 157) hx hb dX14_otherWord_75 (by decide) ?_
              exact W.iret (v := 18) hx hb hr (fun t ht hW => ⟨⟨_, _, rfl, ⟨(by rw [owF, owL, lkW, if_neg (fun z => c_5 ((lg_cmp_eq _ _).mpr z)), lkW, if_neg (fun z => c_18 ((lg_cmp_eq _ _).mpr z)), lkW, if_neg (fun z => c_31 ((lg_cmp_eq _ _).mpr z)), lkW, if_neg (fun z => c_44 ((lg_cmp_eq _ _).mpr z)), lkW, if_neg (fun z => c_57 ((lg_cmp_eq _ _).mpr z)), lkW, if_pos ((lg_cmp_eq _ _).mp c_70)]), rfl⟩, mk_end hG ht⟩, hS.F ht⟩) hS.2.2 dX14_otherWord_157
          · skip
            refine lv_bipush (v := 17) hx hb dX14_otherWord_60 (by decide) ?_
            refine lv_goto (tgt := 157) hx hb dX14_otherWord_62 (by decide) ?_
            exact W.iret (v := 17) hx hb hr (fun t ht hW => ⟨⟨_, _, rfl, ⟨(by rw [owF, owL, lkW, if_neg (fun z => c_5 ((lg_cmp_eq _ _).mpr z)), lkW, if_neg (fun z => c_18 ((lg_cmp_eq _ _).mpr z)), lkW, if_neg (fun z => c_31 ((lg_cmp_eq _ _).mpr z)), lkW, if_neg (fun z => c_44 ((lg_cmp_eq _ _).mpr z)), lkW, if_pos ((lg_cmp_eq _ _).mp c_57)]), rfl⟩, mk_end hG ht⟩, hS.F ht⟩) hS.2.2 dX14_otherWord_157
        · skip
          refine lv_bipush (v := 16) hx hb dX14_otherWord_47 (by decide) ?_
          refine lv_goto (tgt := 157) hx hb dX14_otherWord_49 (by decide) ?_
          exact W.iret (v := 16) hx hb hr (fun t ht hW => ⟨⟨_, _, rfl, ⟨(by rw [owF, owL, lkW, if_neg (fun z => c_5 ((lg_cmp_eq _ _).mpr z)), lkW, if_neg (fun z => c_18 ((lg_cmp_eq _ _).mpr z)), lkW, if_neg (fun z => c_31 ((lg_cmp_eq _ _).mpr z)), lkW, if_pos ((lg_cmp_eq _ _).mp c_44)]), rfl⟩, mk_end hG ht⟩, hS.F ht⟩) hS.2.2 dX14_otherWord_157
      · skip
        refine lv_bipush (v := 15) hx hb dX14_otherWord_34 (by decide) ?_
        refine lv_goto (tgt := 157) hx hb dX14_otherWord_36 (by decide) ?_
        exact W.iret (v := 15) hx hb hr (fun t ht hW => ⟨⟨_, _, rfl, ⟨(by rw [owF, owL, lkW, if_neg (fun z => c_5 ((lg_cmp_eq _ _).mpr z)), lkW, if_neg (fun z => c_18 ((lg_cmp_eq _ _).mpr z)), lkW, if_pos ((lg_cmp_eq _ _).mp c_31)]), rfl⟩, mk_end hG ht⟩, hS.F ht⟩) hS.2.2 dX14_otherWord_157
    · skip
      refine lv_bipush (v := 14) hx hb dX14_otherWord_21 (by decide) ?_
      refine lv_goto (tgt := 157) hx hb dX14_otherWord_23 (by decide) ?_
      exact W.iret (v := 14) hx hb hr (fun t ht hW => ⟨⟨_, _, rfl, ⟨(by rw [owF, owL, lkW, if_neg (fun z => c_5 ((lg_cmp_eq _ _).mpr z)), lkW, if_pos ((lg_cmp_eq _ _).mp c_18)]), rfl⟩, mk_end hG ht⟩, hS.F ht⟩) hS.2.2 dX14_otherWord_157
  · skip
    refine lv_bipush (v := 13) hx hb dX14_otherWord_8 (by decide) ?_
    refine lv_goto (tgt := 157) hx hb dX14_otherWord_10 (by decide) ?_
    exact W.iret (v := 13) hx hb hr (fun t ht hW => ⟨⟨_, _, rfl, ⟨(by rw [owF, owL, lkW, if_pos ((lg_cmp_eq _ _).mp c_5)]), rfl⟩, mk_end hG ht⟩, hS.F ht⟩) hS.2.2 dX14_otherWord_157

def woR (sf : Nat → Int32) (a b : Nat) : Int32 := if b - a ≤ 8 then woF (pk8 sf a (b - a)) else 0
set_option maxHeartbeats 4000000 in
set_option maxRecDepth 100000 in
theorem c_M_wordOf (l : Launch) (D : va_G) (cy : Nat → ClassId) (A : Nat → Prop) (X : State → Prop) (hst : mk_St A X) (hXT : ∀ U : State, X U → TB U) (G : Nat → Option va_E) (o : Nat) (Ar : Nat → Nat) (Iv : Nat → Int32) (F : Nat → Nat → Int32) (L : Nat → Nat → Int64) (sN : Nat) (sf : Nat → Int32) (a9 b9 : Nat) (hM : MD cy G o Ar Iv F L) (hs : G (Ar 47) = some (.inl (cy 1, sN, .inl sf))) (hsN : sN < 2 ^ 31) (hab : a9 ≤ b9) (hbN : b9 ≤ sN) : Met l yX14_wordOf [.code yX14_wordOf cX14_wordOf 5 (some .int)] ({ frames := 1, cells := 0, slots := 0, locals := 30 }) (mk_Pre D vwCl (tyL cy) A X G [.ref o, .int (nI a9), .int (nI b9)]) (va_Qi (fun (r : Int32) (G2 : Nat → Option va_E) => r = woR sf a9 b9 ∧ G2 = G) (mk_B D vwCl A) A) 0 0 A := by
  refine Met.ofW (cc := cX14_wordOf) (maxL := 5) (ret := (some .int)) (by decide) rfl ?_
  intro p e s m args below meth c s₁ B hml hv
  obtain ⟨rfl, hG, hK, hA, hX⟩ := hv
  have hx := B.exec
  have hb := B.bytes
  have hr := B.returns
  have hlocks := B.notSynchronized
  have hT := hXT s hX
  have hown : s.vm.findClass RX14 = some m.cls := findClass_of_methodNamed B.named
  have hS : va_S A s.heap s.heap [] := va_S.rf
  have hl := lv_entry ([.ref o, .int (nI a9), .int (nI b9)]) (n := 5) (Nat.le_of_ble_eq_true rfl)
  rw [lg_entry_eq]
  generalize (lg_sl ([.ref o, .int (nI a9), .int (nI b9)]) ++ List.replicate (5 - (lg_sl ([.ref o, .int (nI a9), .int (nI b9)])).length) Slot.unset).toArray = ls at hl ⊢
  have hl : lv_has ls 5 [(0, .ref o), (1, .int (nI a9)), (2, .int (nI b9))] := hl
  refine lv_iload_n hx hb dX14_wordOf_0 rfl (lv_at hl 2 rfl) ?_
  refine lv_iload_n hx hb dX14_wordOf_1 rfl (lv_at hl 1 rfl) ?_
  refine lv_isub hx hb dX14_wordOf_2 ?_
  refine lv_bipush (v := 8) hx hb dX14_wordOf_3 (by decide) ?_
  refine lv_icmp_le (tgt := 10) hx hb dX14_wordOf_5 (by decide) (fun c_5 => ?_) (fun c_5 => ?_)
  · skip
    refine lv_aload_n hx hb dX14_wordOf_10 rfl (lv_at hl 0 rfl) ?_
    refine lv_iload_n hx hb dX14_wordOf_11 rfl (lv_at hl 1 rfl) ?_
    refine lv_iload_n hx hb dX14_wordOf_12 rfl (lv_at hl 2 rfl) ?_
    refine va_calll (va_runV (As := [.int (nI a9), .int (nI b9)]) (rest := []) ⟨hx, hb, hml, hown, (fun _ h9 => absurd h9 List.not_mem_nil : ∀ w ∈ ([] : List Cond), w.before _ s = true)⟩ (c_M_packed l D cy A X hst hXT G o Ar Iv F L sN sf a9 b9 hM hs hsN hab hbN) (tb_cw (C := RX14) 2 hT tw_1658 tw_109 tw_1655 tw_1657 tw_65 rfl rfl hq_X14_packed ⟨Nat.le_of_ble_eq_true rfl, Nat.le_of_ble_eq_true rfl⟩) (mk_preC hst hG hK hA hX hS vc_15 hM.1) rfl rfl hl.1 rfl (lv_room (Nat.le_of_ble_eq_true rfl)) dX14_wordOf_13 ⟨Nat.le_of_ble_eq_true rfl, Nat.le_of_ble_eq_true rfl⟩) hS (fun q _ h => h) (fun q h => h) (fun r1 G2 t H locs ht hvm hw hB hz1 hk1 hS => ?_)
    have hG : mm D vwCl A G2 H := by rw [← ht]; exact hB
    clear hB hz1 hk1 hvm ht
    obtain ⟨er1, hw⟩ := hw
    rw [hw] at hG
    refine lv_lstore_n (lv' := [(3, .long r1), (0, .ref o), (1, .int (nI a9)), (2, .int (nI b9))]) hx hb dX14_wordOf_16 rfl hl (by decide) rfl (fun ls hl => ?_)
    refine lv_lload_n hx hb dX14_wordOf_17 rfl (lv_at hl 0 rfl) ?_
    refine lv_ldc2 hx hb hown (tb_use hT tw_1659) dX14_wordOf_18 ?_
    refine W.lcmp hx hb dX14_wordOf_21 ?_
    refine lv_if_ne (tgt := 29) hx hb dX14_wordOf_22 (by decide) (fun c_22 => ?_) (fun c_22 => ?_)
    · skip
      refine lv_lload_n hx hb dX14_wordOf_29 rfl (lv_at hl 0 rfl) ?_
      refine lv_ldc2 hx hb hown (tb_use hT tw_1660) dX14_wordOf_30 ?_
      refine W.lcmp hx hb dX14_wordOf_33 ?_
      refine lv_if_ne (tgt := 41) hx hb dX14_wordOf_34 (by decide) (fun c_34 => ?_) (fun c_34 => ?_)
      · skip
        refine lv_lload_n hx hb dX14_wordOf_41 rfl (lv_at hl 0 rfl) ?_
        refine lv_ldc2 hx hb hown (tb_use hT tw_1661) dX14_wordOf_42 ?_
        refine W.lcmp hx hb dX14_wordOf_45 ?_
        refine lv_if_ne (tgt := 53) hx hb dX14_wordOf_46 (by decide) (fun c_46 => ?_) (fun c_46 => ?_)
        · skip
          refine lv_lload_n hx hb dX14_wordOf_53 rfl (lv_at hl 0 rfl) ?_
          refine lv_ldc2 hx hb hown (tb_use hT tw_1662) dX14_wordOf_54 ?_
          refine W.lcmp hx hb dX14_wordOf_57 ?_
          refine lv_if_ne (tgt := 65) hx hb dX14_wordOf_58 (by decide) (fun c_58 => ?_) (fun c_58 => ?_)
          · skip
            refine lv_lload_n hx hb dX14_wordOf_65 rfl (lv_at hl 0 rfl) ?_
            refine lv_ldc2 hx hb hown (tb_use hT tw_1663) dX14_wordOf_66 ?_
            refine W.lcmp hx hb dX14_wordOf_69 ?_
            refine lv_if_ne (tgt := 77) hx hb dX14_wordOf_70 (by decide) (fun c_70 => ?_) (fun c_70 => ?_)
            · skip
              refine lv_lload_n hx hb dX14_wordOf_77 rfl (lv_at hl 0 rfl) ?_
              refine lv_ldc2 hx hb hown (tb_use hT tw_1664) dX14_wordOf_78 ?_
              refine W.lcmp hx hb dX14_wordOf_81 ?_
              refine lv_if_ne (tgt := 90) hx hb dX14_wordOf_82 (by decide) (fun c_82 => ?_) (fun c_82 => ?_)
              · skip
                refine lv_lload_n hx hb dX14_wordOf_90 rfl (lv_at hl 0 rfl) ?_
                refine lv_ldc2 hx hb hown (tb_use hT tw_1665) dX14_wordOf_91 ?_
                refine W.lcmp hx hb dX14_wordOf_94 ?_
                refine lv_if_ne (tgt := 103) hx hb dX14_wordOf_95 (by decide) (fun c_95 => ?_) (fun c_95 => ?_)
                · skip
                  refine lv_lload_n hx hb dX14_wordOf_103 rfl (lv_at hl 0 rfl) ?_
                  refine lv_ldc2 hx hb hown (tb_use hT tw_1666) dX14_wordOf_104 ?_
                  refine W.lcmp hx hb dX14_wordOf_107 ?_
                  refine lv_if_ne (tgt := 116) hx hb dX14_wordOf_108 (by decide) (fun c_108 => ?_) (fun c_108 => ?_)
                  · skip
                    refine lv_lload_n hx hb dX14_wordOf_116 rfl (lv_at hl 0 rfl) ?_
                    refine lv_ldc2 hx hb hown (tb_use hT tw_1667) dX14_wordOf_117 ?_
                    refine W.lcmp hx hb dX14_wordOf_120 ?_
                    refine lv_if_ne (tgt := 129) hx hb dX14_wordOf_121 (by decide) (fun c_121 => ?_) (fun c_121 => ?_)
                    · skip
                      refine lv_lload_n hx hb dX14_wordOf_129 rfl (lv_at hl 0 rfl) ?_
                      refine lv_ldc2 hx hb hown (tb_use hT tw_1668) dX14_wordOf_130 ?_
                      refine W.lcmp hx hb dX14_wordOf_133 ?_
                      refine lv_if_ne (tgt := 142) hx hb dX14_wordOf_134 (by decide) (fun c_134 => ?_) (fun c_134 => ?_)
                      · skip
                        refine lv_lload_n hx hb dX14_wordOf_142 rfl (lv_at hl 0 rfl) ?_
                        refine lv_ldc2 hx hb hown (tb_use hT tw_1669) dX14_wordOf_143 ?_
                        refine W.lcmp hx hb dX14_wordOf_146 ?_
                        refine lv_if_ne (tgt := 155) hx hb dX14_wordOf_147 (by decide) (fun c_147 => ?_) (fun c_147 => ?_)
                        · skip
                          refine lv_lload_n hx hb dX14_wordOf_155 rfl (lv_at hl 0 rfl) ?_
                          refine lv_ldc2 hx hb hown (tb_use hT tw_1670) dX14_wordOf_156 ?_
                          refine W.lcmp hx hb dX14_wordOf_159 ?_
                          refine lv_if_ne (tgt := 168) hx hb dX14_wordOf_160 (by decide) (fun c_160 => ?_) (fun c_160 => ?_)
                          · skip
                            refine lv_lload_n hx hb dX14_wordOf_168 rfl (lv_at hl 0 rfl) ?_
                            refine va_calli (va_runS (As := [.long r1]) (rest := []) ⟨hx, hb, hml, hown, (fun _ h9 => absurd h9 List.not_mem_nil : ∀ w ∈ ([] : List Cond), w.before _ s = true)⟩ (c_M_other l D cy A X hst hXT G r1) (tb_cs 1 hT tw_1673 tw_109 tw_1671 tw_1672 rfl rfl hq_X14_otherWord ⟨Nat.le_of_ble_eq_true rfl, Nat.le_of_ble_eq_true rfl⟩) (mk_preS hst hG hK hA hX hS) rfl rfl hl.1 rfl (lv_room (Nat.le_of_ble_eq_true rfl)) dX14_wordOf_169 ⟨Nat.le_of_ble_eq_true rfl, Nat.le_of_ble_eq_true rfl⟩) hS (fun q _ h => h) (fun q h => h) (fun r15 G16 t H locs ht hvm hw hB hz1 hk1 hS => ?_)
                            have hG : mm D vwCl A G16 H := by rw [← ht]; exact hB
                            clear hB hz1 hk1 hvm ht
                            obtain ⟨er15, hw⟩ := hw
                            rw [hw] at hG
                            have hle8 : b9 - a9 ≤ 8 := nI_ge_of (a := 8) (b := b9 - a9) (by decide) (by omega) (by rw [← nI_sb hab]; exact c_5)
                            exact W.iret (v := r15) hx hb hr (fun t ht hW => ⟨⟨_, _, rfl, ⟨(by rw [woR, if_pos hle8, ← er1, woF, woL, lkW, if_neg (fun z => c_22 ((lg_cmp_eq _ _).mpr z)), lkW, if_neg (fun z => c_34 ((lg_cmp_eq _ _).mpr z)), lkW, if_neg (fun z => c_46 ((lg_cmp_eq _ _).mpr z)), lkW, if_neg (fun z => c_58 ((lg_cmp_eq _ _).mpr z)), lkW, if_neg (fun z => c_70 ((lg_cmp_eq _ _).mpr z)), lkW, if_neg (fun z => c_82 ((lg_cmp_eq _ _).mpr z)), lkW, if_neg (fun z => c_95 ((lg_cmp_eq _ _).mpr z)), lkW, if_neg (fun z => c_108 ((lg_cmp_eq _ _).mpr z)), lkW, if_neg (fun z => c_121 ((lg_cmp_eq _ _).mpr z)), lkW, if_neg (fun z => c_134 ((lg_cmp_eq _ _).mpr z)), lkW, if_neg (fun z => c_147 ((lg_cmp_eq _ _).mpr z)), lkW, if_neg (fun z => c_160 ((lg_cmp_eq _ _).mpr z))]; exact er15), rfl⟩, mk_end hG ht⟩, hS.F ht⟩) hS.2.2 dX14_wordOf_172
                          · skip
                            refine lv_bipush (v := 12) hx hb dX14_wordOf_163 (by decide) ?_
                            refine lv_goto (tgt := 172) hx hb dX14_wordOf_165 (by decide) ?_
                            have hle8 : b9 - a9 ≤ 8 := nI_ge_of (a := 8) (b := b9 - a9) (by decide) (by omega) (by rw [← nI_sb hab]; exact c_5)
                            exact W.iret (v := 12) hx hb hr (fun t ht hW => ⟨⟨_, _, rfl, ⟨(by rw [woR, if_pos hle8, ← er1, woF, woL, lkW, if_neg (fun z => c_22 ((lg_cmp_eq _ _).mpr z)), lkW, if_neg (fun z => c_34 ((lg_cmp_eq _ _).mpr z)), lkW, if_neg (fun z => c_46 ((lg_cmp_eq _ _).mpr z)), lkW, if_neg (fun z => c_58 ((lg_cmp_eq _ _).mpr z)), lkW, if_neg (fun z => c_70 ((lg_cmp_eq _ _).mpr z)), lkW, if_neg (fun z => c_82 ((lg_cmp_eq _ _).mpr z)), lkW, if_neg (fun z => c_95 ((lg_cmp_eq _ _).mpr z)), lkW, if_neg (fun z => c_108 ((lg_cmp_eq _ _).mpr z)), lkW, if_neg (fun z => c_121 ((lg_cmp_eq _ _).mpr z)), lkW, if_neg (fun z => c_134 ((lg_cmp_eq _ _).mpr z)), lkW, if_neg (fun z => c_147 ((lg_cmp_eq _ _).mpr z)), lkW, if_pos ((lg_cmp_eq _ _).mp c_160)]), rfl⟩, mk_end hG ht⟩, hS.F ht⟩) hS.2.2 dX14_wordOf_172
                        · skip
                          refine lv_bipush (v := 11) hx hb dX14_wordOf_150 (by decide) ?_
                          refine lv_goto (tgt := 172) hx hb dX14_wordOf_152 (by decide) ?_
                          have hle8 : b9 - a9 ≤ 8 := nI_ge_of (a := 8) (b := b9 - a9) (by decide) (by omega) (by rw [← nI_sb hab]; exact c_5)
                          exact W.iret (v := 11) hx hb hr (fun t ht hW => ⟨⟨_, _, rfl, ⟨(by rw [woR, if_pos hle8, ← er1, woF, woL, lkW, if_neg (fun z => c_22 ((lg_cmp_eq _ _).mpr z)), lkW, if_neg (fun z => c_34 ((lg_cmp_eq _ _).mpr z)), lkW, if_neg (fun z => c_46 ((lg_cmp_eq _ _).mpr z)), lkW, if_neg (fun z => c_58 ((lg_cmp_eq _ _).mpr z)), lkW, if_neg (fun z => c_70 ((lg_cmp_eq _ _).mpr z)), lkW, if_neg (fun z => c_82 ((lg_cmp_eq _ _).mpr z)), lkW, if_neg (fun z => c_95 ((lg_cmp_eq _ _).mpr z)), lkW, if_neg (fun z => c_108 ((lg_cmp_eq _ _).mpr z)), lkW, if_neg (fun z => c_121 ((lg_cmp_eq _ _).mpr z)), lkW, if_neg (fun z => c_134 ((lg_cmp_eq _ _).mpr z)), lkW, if_pos ((lg_cmp_eq _ _).mp c_147)]), rfl⟩, mk_end hG ht⟩, hS.F ht⟩) hS.2.2 dX14_wordOf_172
                      · skip
                        refine lv_bipush (v := 10) hx hb dX14_wordOf_137 (by decide) ?_
                        refine lv_goto (tgt := 172) hx hb dX14_wordOf_139 (by decide) ?_
                        have hle8 : b9 - a9 ≤ 8 := nI_ge_of (a := 8) (b := b9 - a9) (by decide) (by omega) (by rw [← nI_sb hab]; exact c_5)
                        exact W.iret (v := 10) hx hb hr (fun t ht hW => ⟨⟨_, _, rfl, ⟨(by rw [woR, if_pos hle8, ← er1, woF, woL, lkW, if_neg (fun z => c_22 ((lg_cmp_eq _ _).mpr z)), lkW, if_neg (fun z => c_34 ((lg_cmp_eq _ _).mpr z)), lkW, if_neg (fun z => c_46 ((lg_cmp_eq _ _).mpr z)), lkW, if_neg (fun z => c_58 ((lg_cmp_eq _ _).mpr z)), lkW, if_neg (fun z => c_70 ((lg_cmp_eq _ _).mpr z)), lkW, if_neg (fun z => c_82 ((lg_cmp_eq _ _).mpr z)), lkW, if_neg (fun z => c_95 ((lg_cmp_eq _ _).mpr z)), lkW, if_neg (fun z => c_108 ((lg_cmp_eq _ _).mpr z)), lkW, if_neg (fun z => c_121 ((lg_cmp_eq _ _).mpr z)), lkW, if_pos ((lg_cmp_eq _ _).mp c_134)]), rfl⟩, mk_end hG ht⟩, hS.F ht⟩) hS.2.2 dX14_wordOf_172
                    · skip
                      refine lv_bipush (v := 9) hx hb dX14_wordOf_124 (by decide) ?_
                      refine lv_goto (tgt := 172) hx hb dX14_wordOf_126 (by decide) ?_
                      have hle8 : b9 - a9 ≤ 8 := nI_ge_of (a := 8) (b := b9 - a9) (by decide) (by omega) (by rw [← nI_sb hab]; exact c_5)
                      exact W.iret (v := 9) hx hb hr (fun t ht hW => ⟨⟨_, _, rfl, ⟨(by rw [woR, if_pos hle8, ← er1, woF, woL, lkW, if_neg (fun z => c_22 ((lg_cmp_eq _ _).mpr z)), lkW, if_neg (fun z => c_34 ((lg_cmp_eq _ _).mpr z)), lkW, if_neg (fun z => c_46 ((lg_cmp_eq _ _).mpr z)), lkW, if_neg (fun z => c_58 ((lg_cmp_eq _ _).mpr z)), lkW, if_neg (fun z => c_70 ((lg_cmp_eq _ _).mpr z)), lkW, if_neg (fun z => c_82 ((lg_cmp_eq _ _).mpr z)), lkW, if_neg (fun z => c_95 ((lg_cmp_eq _ _).mpr z)), lkW, if_neg (fun z => c_108 ((lg_cmp_eq _ _).mpr z)), lkW, if_pos ((lg_cmp_eq _ _).mp c_121)]), rfl⟩, mk_end hG ht⟩, hS.F ht⟩) hS.2.2 dX14_wordOf_172
                  · skip
                    refine lv_bipush (v := 8) hx hb dX14_wordOf_111 (by decide) ?_
                    refine lv_goto (tgt := 172) hx hb dX14_wordOf_113 (by decide) ?_
                    have hle8 : b9 - a9 ≤ 8 := nI_ge_of (a := 8) (b := b9 - a9) (by decide) (by omega) (by rw [← nI_sb hab]; exact c_5)
                    exact W.iret (v := 8) hx hb hr (fun t ht hW => ⟨⟨_, _, rfl, ⟨(by rw [woR, if_pos hle8, ← er1, woF, woL, lkW, if_neg (fun z => c_22 ((lg_cmp_eq _ _).mpr z)), lkW, if_neg (fun z => c_34 ((lg_cmp_eq _ _).mpr z)), lkW, if_neg (fun z => c_46 ((lg_cmp_eq _ _).mpr z)), lkW, if_neg (fun z => c_58 ((lg_cmp_eq _ _).mpr z)), lkW, if_neg (fun z => c_70 ((lg_cmp_eq _ _).mpr z)), lkW, if_neg (fun z => c_82 ((lg_cmp_eq _ _).mpr z)), lkW, if_neg (fun z => c_95 ((lg_cmp_eq _ _).mpr z)), lkW, if_pos ((lg_cmp_eq _ _).mp c_108)]), rfl⟩, mk_end hG ht⟩, hS.F ht⟩) hS.2.2 dX14_wordOf_172
                · skip
                  refine lv_bipush (v := 7) hx hb dX14_wordOf_98 (by decide) ?_
                  refine lv_goto (tgt := 172) hx hb dX14_wordOf_100 (by decide) ?_
                  have hle8 : b9 - a9 ≤ 8 := nI_ge_of (a := 8) (b := b9 - a9) (by decide) (by omega) (by rw [← nI_sb hab]; exact c_5)
                  exact W.iret (v := 7) hx hb hr (fun t ht hW => ⟨⟨_, _, rfl, ⟨(by rw [woR, if_pos hle8, ← er1, woF, woL, lkW, if_neg (fun z => c_22 ((lg_cmp_eq _ _).mpr z)), lkW, if_neg (fun z => c_34 ((lg_cmp_eq _ _).mpr z)), lkW, if_neg (fun z => c_46 ((lg_cmp_eq _ _).mpr z)), lkW, if_neg (fun z => c_58 ((lg_cmp_eq _ _).mpr z)), lkW, if_neg (fun z => c_70 ((lg_cmp_eq _ _).mpr z)), lkW, if_neg (fun z => c_82 ((lg_cmp_eq _ _).mpr z)), lkW, if_pos ((lg_cmp_eq _ _).mp c_95)]), rfl⟩, mk_end hG ht⟩, hS.F ht⟩) hS.2.2 dX14_wordOf_172
              · skip
                refine lv_bipush (v := 6) hx hb dX14_wordOf_85 (by decide) ?_
                refine lv_goto (tgt := 172) hx hb dX14_wordOf_87 (by decide) ?_
                have hle8 : b9 - a9 ≤ 8 := nI_ge_of (a := 8) (b := b9 - a9) (by decide) (by omega) (by rw [← nI_sb hab]; exact c_5)
                exact W.iret (v := 6) hx hb hr (fun t ht hW => ⟨⟨_, _, rfl, ⟨(by rw [woR, if_pos hle8, ← er1, woF, woL, lkW, if_neg (fun z => c_22 ((lg_cmp_eq _ _).mpr z)), lkW, if_neg (fun z => c_34 ((lg_cmp_eq _ _).mpr z)), lkW, if_neg (fun z => c_46 ((lg_cmp_eq _ _).mpr z)), lkW, if_neg (fun z => c_58 ((lg_cmp_eq _ _).mpr z)), lkW, if_neg (fun z => c_70 ((lg_cmp_eq _ _).mpr z)), lkW, if_pos ((lg_cmp_eq _ _).mp c_82)]), rfl⟩, mk_end hG ht⟩, hS.F ht⟩) hS.2.2 dX14_wordOf_172
            · skip
              refine lv_iconst (v := 5) hx hb dX14_wordOf_73 (by decide) ?_
              refine lv_goto (tgt := 172) hx hb dX14_wordOf_74 (by decide) ?_
              have hle8 : b9 - a9 ≤ 8 := nI_ge_of (a := 8) (b := b9 - a9) (by decide) (by omega) (by rw [← nI_sb hab]; exact c_5)
              exact W.iret (v := 5) hx hb hr (fun t ht hW => ⟨⟨_, _, rfl, ⟨(by rw [woR, if_pos hle8, ← er1, woF, woL, lkW, if_neg (fun z => c_22 ((lg_cmp_eq _ _).mpr z)), lkW, if_neg (fun z => c_34 ((lg_cmp_eq _ _).mpr z)), lkW, if_neg (fun z => c_46 ((lg_cmp_eq _ _).mpr z)), lkW, if_neg (fun z => c_58 ((lg_cmp_eq _ _).mpr z)), lkW, if_pos ((lg_cmp_eq _ _).mp c_70)]), rfl⟩, mk_end hG ht⟩, hS.F ht⟩) hS.2.2 dX14_wordOf_172
          · skip
            refine lv_iconst (v := 4) hx hb dX14_wordOf_61 (by decide) ?_
            refine lv_goto (tgt := 172) hx hb dX14_wordOf_62 (by decide) ?_
            have hle8 : b9 - a9 ≤ 8 := nI_ge_of (a := 8) (b := b9 - a9) (by decide) (by omega) (by rw [← nI_sb hab]; exact c_5)
            exact W.iret (v := 4) hx hb hr (fun t ht hW => ⟨⟨_, _, rfl, ⟨(by rw [woR, if_pos hle8, ← er1, woF, woL, lkW, if_neg (fun z => c_22 ((lg_cmp_eq _ _).mpr z)), lkW, if_neg (fun z => c_34 ((lg_cmp_eq _ _).mpr z)), lkW, if_neg (fun z => c_46 ((lg_cmp_eq _ _).mpr z)), lkW, if_pos ((lg_cmp_eq _ _).mp c_58)]), rfl⟩, mk_end hG ht⟩, hS.F ht⟩) hS.2.2 dX14_wordOf_172
        · skip
          refine lv_iconst (v := 3) hx hb dX14_wordOf_49 (by decide) ?_
          refine lv_goto (tgt := 172) hx hb dX14_wordOf_50 (by decide) ?_
          have hle8 : b9 - a9 ≤ 8 := nI_ge_of (a := 8) (b := b9 - a9) (by decide) (by omega) (by rw [← nI_sb hab]; exact c_5)
          exact W.iret (v := 3) hx hb hr (fun t ht hW => ⟨⟨_, _, rfl, ⟨(by rw [woR, if_pos hle8, ← er1, woF, woL, lkW, if_neg (fun z => c_22 ((lg_cmp_eq _ _).mpr z)), lkW, if_neg (fun z => c_34 ((lg_cmp_eq _ _).mpr z)), lkW, if_pos ((lg_cmp_eq _ _).mp c_46)]), rfl⟩, mk_end hG ht⟩, hS.F ht⟩) hS.2.2 dX14_wordOf_172
      · skip
        refine lv_iconst (v := 2) hx hb dX14_wordOf_37 (by decide) ?_
        refine lv_goto (tgt := 172) hx hb dX14_wordOf_38 (by decide) ?_
        have hle8 : b9 - a9 ≤ 8 := nI_ge_of (a := 8) (b := b9 - a9) (by decide) (by omega) (by rw [← nI_sb hab]; exact c_5)
        exact W.iret (v := 2) hx hb hr (fun t ht hW => ⟨⟨_, _, rfl, ⟨(by rw [woR, if_pos hle8, ← er1, woF, woL, lkW, if_neg (fun z => c_22 ((lg_cmp_eq _ _).mpr z)), lkW, if_pos ((lg_cmp_eq _ _).mp c_34)]), rfl⟩, mk_end hG ht⟩, hS.F ht⟩) hS.2.2 dX14_wordOf_172
    · skip
      refine lv_iconst (v := 1) hx hb dX14_wordOf_25 (by decide) ?_
      refine lv_goto (tgt := 172) hx hb dX14_wordOf_26 (by decide) ?_
      have hle8 : b9 - a9 ≤ 8 := nI_ge_of (a := 8) (b := b9 - a9) (by decide) (by omega) (by rw [← nI_sb hab]; exact c_5)
      exact W.iret (v := 1) hx hb hr (fun t ht hW => ⟨⟨_, _, rfl, ⟨(by rw [woR, if_pos hle8, ← er1, woF, woL, lkW, if_pos ((lg_cmp_eq _ _).mp c_22)]), rfl⟩, mk_end hG ht⟩, hS.F ht⟩) hS.2.2 dX14_wordOf_172
  · skip
    refine lv_iconst (v := 0) hx hb dX14_wordOf_8 (by decide) ?_
    exact W.iret (v := 0) hx hb hr (fun t ht hW => ⟨⟨_, _, rfl, ⟨(by rw [woR, if_neg (fun z => c_5 (by rw [nI_sb hab]; exact nI_le (b := 8) z (by decide)))]), rfl⟩, mk_end hG ht⟩, hS.F ht⟩) hS.2.2 dX14_wordOf_9
