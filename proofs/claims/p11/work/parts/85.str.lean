/-! ===== tokens' texts ===== -/
def tyLn : List Nat := [0, 1, 1, 1, 1, 1, 1, 1, 6, 6, 6, 5, 4, 5, 2, 7, 5, 4, 5, 4, 7, 3, 3, 3, 3, 3, 3, 3, 4, 4, 4, 5]
def tyBy : List (List Int32) := [[], [123], [125], [59], [58], [61], [47], [45], [99, 111, 100, 105, 110, 103], [111, 99, 116, 101, 116, 115], [115, 105, 103, 110, 101, 100], [115, 99, 97, 108, 101], [112, 108, 117, 115], [108, 97, 121, 101, 114], [111, 102], [115, 101, 114, 118, 105, 99, 101], [112, 97, 114, 97, 109], [119, 104, 101, 110], [116, 105, 109, 101, 115], [99, 111, 100, 101], [118, 97, 114, 105, 97, 110, 116], [106, 111, 98], [112, 117, 116], [103, 101, 116], [97, 100, 100], [115, 117, 98], [109, 117, 108], [100, 117, 112], [115, 119, 97, 112], [100, 114, 111, 112], [115, 101, 110, 100], [119, 104, 105, 108, 101]]
def txL : List Nat := [0, 0, 0, 0, 1, 2, 3, 4, 5, 6, 7, 8, 9, 10, 11, 12, 13, 14, 15, 16, 17, 18, 19, 20, 21, 22, 23, 24, 25, 26, 27, 28, 29, 30, 31]
def swL : List Int32 := [0, 0, 0, 0, 0, 0, 0, 0, 0, 0, 0, 1, 0, 0, 0, 0, 2, 0, 0, 0, 0, 0, 3, 4, 5, 6, 7, 11, 12, 13, 10, 0, 8, 9, 0]
/-- which text a token has -/
def tix (i : Nat) : Nat := txL.getD i 0
def tLn (i : Nat) : Nat := tyLn.getD (tix i) 0
def tBy (i j : Nat) : Int32 := (tyBy.getD (tix i) []).getD j 0
theorem tix_lt : ∀ i, i < 35 → tix i < 32 := by decide +kernel
def TX (ax adK adV tk : Nat → Nat) (A : Nat → Prop) (U : State) : Prop := vk_S 32 tyLn tyBy adK adV A U U.heap ∧ va_Ef 35 "DescribeText$Token" "text" "Ljava/lang/String;" (fun i => .ref (adK (tix i))) tk A U U.heap ∧ va_Z "DescribeText$Token" "ALL" "[LDescribeText$Token;" (.ref (ax 0)) A U U.heap ∧ va_T (.object "DescribeText$Token") (ax 0) 35 (fun j => .ref (tk j)) A U U.heap ∧ va_Z "DescribeText$1" "$SwitchMap$DescribeText$Token" "[I" (.ref (ax 1)) A U U.heap ∧ va_T .int (ax 1) 35 (fun j => .int (swL.getD j 0)) A U U.heap ∧ va_Z "java/lang/String" "COMPACT_STRINGS" "Z" (.int 1) A U U.heap ∧ va_Zq "jdk/internal/util/Preconditions" "SIOOBE_FORMATTER" "Ljava/util/function/BiFunction;" A U U.heap
theorem TX_st {ax adK adV tk : Nat → Nat} {A : Nat → Prop} : mk_St A (TX ax adK adV tk A) := by
  intro s U hW hk h
  exact ⟨(vk_S.moved hW.alike h.1).kept hk, (va_Ef.moved hW.alike h.2.1).kept hk, (va_Z.moved hW.alike h.2.2.1).kept hk, (va_T.moved hW.alike h.2.2.2.1).kept hk, (va_Z.moved hW.alike h.2.2.2.2.1).kept hk, (va_T.moved hW.alike h.2.2.2.2.2.1).kept hk, (va_Z.moved hW.alike h.2.2.2.2.2.2.1).kept hk, (va_Zq.moved hW.alike h.2.2.2.2.2.2.2).kept hk⟩
theorem mk_preK {D : va_G} {tys : List (ClassId × FieldType)} {A : Nat → Prop} {X : State → Prop} {G : Nat → Option va_E} {H : Heap} {s : State} {locs : List Loc} {As : List Value} {ki : Nat} {ax adK adV tk : Nat → Nat} (hst : mk_St A X) (hG : mm D vwCl A G H) (hK : va_K D vwCl tys s) (hA : ∀ q : Nat, s.heap.size ≤ q → A q) (hX : X s) (hS : va_S A s.heap H locs) (hQ : TX ax adK adV tk A s) (hi : ki < 32) : PreV s H RJ0 (adK ki) (mk_Pre D vwCl tys A X G (.ref (adK ki) :: As)) As :=
  ⟨mk_blind hst, va_Orecv (hQ.1.1 ki hi).1 hS, mk_at hst hG hK hA hX hS⟩
theorem sh_ok : ∀ ki, ki < 32 → nI (tyLn.getD ki 0) >>> ((0 : Int32) &&& 31) = nI (tyLn.getD ki 0) := by decide +kernel
theorem ch_ok : ∀ ki, ki < 32 → ∀ j, j < tyLn.getD ki 0 → ((((tyBy.getD ki []).getD j 0 &&& (255 : Int32)) : Int32).toUInt32 % 65536).toInt32 = (tyBy.getD ki []).getD j 0 := by decide +kernel
theorem nar_ok : ∀ ki, ki < 32 → ∀ j, j < tyLn.getD ki 0 → (((tyBy.getD ki []).getD j 0 : Int32).toUInt32 % 65536).toInt32 = (tyBy.getD ki []).getD j 0 := by decide +kernel
theorem nar_ch : ∀ ki, ki < 32 → ∀ j, j < tyLn.getD ki 0 → narrow FieldType.char (Value.int ((tyBy.getD ki []).getD j 0)) = Value.int ((tyBy.getD ki []).getD j 0) := by
  intro ki hki j hj
  show Value.int _ = _
  exact congrArg Value.int (nar_ok ki hki j hj)
theorem ln_lt : ∀ ki, ki < 32 → tyLn.getD ki 0 < 10 := by decide +kernel
set_option maxHeartbeats 4000000 in
set_option maxRecDepth 100000 in
theorem c_J0_coder (l : Launch) (D : va_G) (cy : Nat → ClassId) (A : Nat → Prop) (X : State → Prop) (hst : mk_St A X) (hXT : ∀ U : State, X U → TB U) (e0 : Nat) (tk : Nat → Nat) (hXE : ∀ U : State, X U → ES e0 tk A U) (mi : Nat) (hXL : ∀ U : State, X U → EL e0 mi A U) (ax adK adV : Nat → Nat) (hXX : ∀ U : State, X U → TX ax adK adV tk A U) (G : Nat → Option va_E) (ki : Nat) (hki : ki < 32) : Met l yJ0_coder_7d493 [.code yJ0_coder_7d493 cJ0_coder_7d493 1 (some .byte)] ({ frames := 0, cells := 0, slots := 0, locals := 0 }) (mk_Pre D vwCl (tyL cy) A X G [.ref (adK ki)]) (va_Qi (fun (r : Int32) (G2 : Nat → Option va_E) => r = 0 ∧ G2 = G) (mk_B D vwCl A) A) 0 0 A := by
  refine Met.ofW (cc := cJ0_coder_7d493) (maxL := 1) (ret := (some .byte)) (by decide) rfl ?_
  intro p e s m args below meth c s₁ B hml hv
  obtain ⟨rfl, hG, hK, hA, hX⟩ := hv
  have hx := B.exec
  have hb := B.bytes
  have hr := B.returns
  have hlocks := B.notSynchronized
  have hT := hXT s hX
  have hown : s.vm.findClass RJ0 = some m.cls := findClass_of_methodNamed B.named
  have hS : va_S A s.heap s.heap [] := va_S.rf
  have hE := hXE s hX
  have hl := lv_entry ([.ref (adK ki)]) (n := 1) (Nat.le_of_ble_eq_true rfl)
  rw [lg_entry_eq]
  generalize (lg_sl ([.ref (adK ki)]) ++ List.replicate (1 - (lg_sl ([.ref (adK ki)])).length) Slot.unset).toArray = ls at hl ⊢
  have hl : lv_has ls 1 [(0, .ref (adK ki))] := hl
  have hQ := hXX s hX
  refine va_gets (v := .int 1) hx hb hQ.2.2.2.2.2.2.1 hS hown (tb_use hT tw_382) (fun _ h9 => h9) dJ0_coder_7d493_0 ?_
  refine lv_if_eq (tgt := 13) hx hb dJ0_coder_7d493_3 (by decide) (fun c_3 => ?_) (fun c_3 => ?_)
  · skip
    exact absurd c_3 (by decide)
  · skip
    refine lv_aload_n hx hb dJ0_coder_7d493_6 rfl (lv_at hl 0 rfl) ?_
    refine vk_getf (v := .int 0) hx hb (hQ.1.1 ki hki).2.1 hS hown (tb_use hT tw_1923) (fun _ h9 => h9) dJ0_coder_7d493_7 ?_
    refine lv_goto (tgt := 14) hx hb dJ0_coder_7d493_10 (by decide) ?_
    exact W.zret (v := 0) hx hb hr rfl (fun t ht hW => ⟨⟨_, _, rfl, ⟨rfl, rfl⟩, mk_end hG ht⟩, hS.F ht⟩) hS.2.2 dJ0_coder_7d493_14

set_option maxHeartbeats 4000000 in
set_option maxRecDepth 100000 in
theorem c_J0_length (l : Launch) (D : va_G) (cy : Nat → ClassId) (A : Nat → Prop) (X : State → Prop) (hst : mk_St A X) (hXT : ∀ U : State, X U → TB U) (e0 : Nat) (tk : Nat → Nat) (hXE : ∀ U : State, X U → ES e0 tk A U) (mi : Nat) (hXL : ∀ U : State, X U → EL e0 mi A U) (ax adK adV : Nat → Nat) (hXX : ∀ U : State, X U → TX ax adK adV tk A U) (G : Nat → Option va_E) (ki : Nat) (hki : ki < 32) : Met l yJ0_length_8abf5 [.code yJ0_length_8abf5 cJ0_length_8abf5 1 (some .int)] ({ frames := 1, cells := 0, slots := 0, locals := 30 }) (mk_Pre D vwCl (tyL cy) A X G [.ref (adK ki)]) (va_Qi (fun (r : Int32) (G2 : Nat → Option va_E) => r = nI (tyLn.getD ki 0) ∧ G2 = G) (mk_B D vwCl A) A) 0 0 A := by
  refine Met.ofW (cc := cJ0_length_8abf5) (maxL := 1) (ret := (some .int)) (by decide) rfl ?_
  intro p e s m args below meth c s₁ B hml hv
  obtain ⟨rfl, hG, hK, hA, hX⟩ := hv
  have hx := B.exec
  have hb := B.bytes
  have hr := B.returns
  have hlocks := B.notSynchronized
  have hT := hXT s hX
  have hown : s.vm.findClass RJ0 = some m.cls := findClass_of_methodNamed B.named
  have hS : va_S A s.heap s.heap [] := va_S.rf
  have hE := hXE s hX
  have hl := lv_entry ([.ref (adK ki)]) (n := 1) (Nat.le_of_ble_eq_true rfl)
  rw [lg_entry_eq]
  generalize (lg_sl ([.ref (adK ki)]) ++ List.replicate (1 - (lg_sl ([.ref (adK ki)])).length) Slot.unset).toArray = ls at hl ⊢
  have hl : lv_has ls 1 [(0, .ref (adK ki))] := hl
  have hQ := hXX s hX
  refine lv_aload_n hx hb dJ0_length_8abf5_0 rfl (lv_at hl 0 rfl) ?_
  refine vk_getf (v := .ref (adV ki)) hx hb (hQ.1.1 ki hki).2.2.1 hS hown (tb_use hT tw_1922) (fun _ h9 => h9) dJ0_length_8abf5_1 ?_
  refine va_tlen (v := (nI (tyLn.getD ki 0))) hx hb (hQ.1.1 ki hki).2.2.2 hS rfl dJ0_length_8abf5_4 ?_
  refine lv_aload_n hx hb dJ0_length_8abf5_5 rfl (lv_at hl 0 rfl) ?_
  refine va_calli (va_runV (As := []) (rest := [.int (nI (tyLn.getD ki 0))]) ⟨hx, hb, hml, hown, (fun _ h9 => absurd h9 List.not_mem_nil : ∀ w ∈ ([] : List Cond), w.before _ s = true)⟩ (c_J0_coder l D cy A X hst hXT e0 tk hXE mi hXL ax adK adV hXX G ki hki) (tb_cw (C := RJ0) 0 hT tw_381 tw_117 tw_378 tw_379 tw_380 rfl rfl hq_J0_coder_7d493 ⟨Nat.le_of_ble_eq_true rfl, Nat.le_of_ble_eq_true rfl⟩) (mk_preK hst hG hK hA hX hS hQ hki) rfl rfl hl.1 rfl (lv_room (Nat.le_of_ble_eq_true rfl)) dJ0_length_8abf5_6 ⟨Nat.le_of_ble_eq_true rfl, Nat.le_of_ble_eq_true rfl⟩) hS (fun q _ h => h) (fun q h => h) (fun r1 G2 t H locs ht hvm hw hB hz1 hk1 hS => ?_)
  have hG : mm D vwCl A G2 H := by rw [← ht]; exact hB
  clear hB hz1 hk1 hvm ht
  obtain ⟨er1, hw⟩ := hw
  rw [hw] at hG
  refine lv_ishr hx hb dJ0_length_8abf5_9 ?_
  exact W.iret (v := ((nI (tyLn.getD ki 0)) >>> (r1 &&& 31))) hx hb hr (fun t ht hW => ⟨⟨_, _, rfl, ⟨(by rw [er1]; exact sh_ok ki hki), rfl⟩, mk_end hG ht⟩, hS.F ht⟩) hS.2.2 dJ0_length_8abf5_10

set_option maxHeartbeats 4000000 in
set_option maxRecDepth 100000 in
theorem c_J0_isLatin1 (l : Launch) (D : va_G) (cy : Nat → ClassId) (A : Nat → Prop) (X : State → Prop) (hst : mk_St A X) (hXT : ∀ U : State, X U → TB U) (e0 : Nat) (tk : Nat → Nat) (hXE : ∀ U : State, X U → ES e0 tk A U) (mi : Nat) (hXL : ∀ U : State, X U → EL e0 mi A U) (ax adK adV : Nat → Nat) (hXX : ∀ U : State, X U → TX ax adK adV tk A U) (G : Nat → Option va_E) (ki : Nat) (hki : ki < 32) : Met l yJ0_isLatin1_aae02 [.code yJ0_isLatin1_aae02 cJ0_isLatin1_aae02 1 (some .boolean)] ({ frames := 0, cells := 0, slots := 0, locals := 0 }) (mk_Pre D vwCl (tyL cy) A X G [.ref (adK ki)]) (va_Qi (fun (r : Int32) (G2 : Nat → Option va_E) => r = 1 ∧ G2 = G) (mk_B D vwCl A) A) 0 0 A := by
  refine Met.ofW (cc := cJ0_isLatin1_aae02) (maxL := 1) (ret := (some .boolean)) (by decide) rfl ?_
  intro p e s m args below meth c s₁ B hml hv
  obtain ⟨rfl, hG, hK, hA, hX⟩ := hv
  have hx := B.exec
  have hb := B.bytes
  have hr := B.returns
  have hlocks := B.notSynchronized
  have hT := hXT s hX
  have hown : s.vm.findClass RJ0 = some m.cls := findClass_of_methodNamed B.named
  have hS : va_S A s.heap s.heap [] := va_S.rf
  have hE := hXE s hX
  have hl := lv_entry ([.ref (adK ki)]) (n := 1) (Nat.le_of_ble_eq_true rfl)
  rw [lg_entry_eq]
  generalize (lg_sl ([.ref (adK ki)]) ++ List.replicate (1 - (lg_sl ([.ref (adK ki)])).length) Slot.unset).toArray = ls at hl ⊢
  have hl : lv_has ls 1 [(0, .ref (adK ki))] := hl
  have hQ := hXX s hX
  refine va_gets (v := .int 1) hx hb hQ.2.2.2.2.2.2.1 hS hown (tb_use hT tw_382) (fun _ h9 => h9) dJ0_isLatin1_aae02_0 ?_
  refine lv_if_eq (tgt := 17) hx hb dJ0_isLatin1_aae02_3 (by decide) (fun c_3 => ?_) (fun c_3 => ?_)
  · skip
    exact absurd c_3 (by decide)
  · skip
    refine lv_aload_n hx hb dJ0_isLatin1_aae02_6 rfl (lv_at hl 0 rfl) ?_
    refine vk_getf (v := .int 0) hx hb (hQ.1.1 ki hki).2.1 hS hown (tb_use hT tw_1923) (fun _ h9 => h9) dJ0_isLatin1_aae02_7 ?_
    refine lv_if_ne (tgt := 17) hx hb dJ0_isLatin1_aae02_10 (by decide) (fun c_10 => ?_) (fun c_10 => ?_)
    · skip
      exact absurd rfl c_10
    · skip
      refine lv_iconst (v := 1) hx hb dJ0_isLatin1_aae02_13 (by decide) ?_
      refine lv_goto (tgt := 18) hx hb dJ0_isLatin1_aae02_14 (by decide) ?_
      exact W.zret (v := 1) hx hb hr rfl (fun t ht hW => ⟨⟨_, _, rfl, ⟨rfl, rfl⟩, mk_end hG ht⟩, hS.F ht⟩) hS.2.2 dJ0_isLatin1_aae02_18

set_option maxHeartbeats 4000000 in
set_option maxRecDepth 100000 in
theorem c_J3_checkIndexR (l : Launch) (D : va_G) (cy : Nat → ClassId) (A : Nat → Prop) (X : State → Prop) (hst : mk_St A X) (hXT : ∀ U : State, X U → TB U) (e0 : Nat) (tk : Nat → Nat) (hXE : ∀ U : State, X U → ES e0 tk A U) (G : Nat → Option va_E) (iv nv : Int32) (fm : Nat) (hi0 : ¬ iv < 0) (hin : iv < nv) : Met l yJ3_checkIndex_8e157 [.code yJ3_checkIndex_8e157 cJ3_checkIndex_8e157 3 (some .int)] ({ frames := 0, cells := 0, slots := 0, locals := 0 }) (mk_Pre D vwCl (tyL cy) A X G [.int iv, .int nv, .ref fm]) (va_Qi (fun (r : Int32) (G2 : Nat → Option va_E) => r = iv ∧ G2 = G) (mk_B D vwCl A) A) 0 0 A := by
  refine Met.ofW (cc := cJ3_checkIndex_8e157) (maxL := 3) (ret := (some .int)) (by decide) rfl ?_
  intro p e s m args below meth c s₁ B hml hv
  obtain ⟨rfl, hG, hK, hA, hX⟩ := hv
  have hx := B.exec
  have hb := B.bytes
  have hr := B.returns
  have hlocks := B.notSynchronized
  have hT := hXT s hX
  have hown : s.vm.findClass RJ3 = some m.cls := findClass_of_methodNamed B.named
  have hS : va_S A s.heap s.heap [] := va_S.rf
  have hE := hXE s hX
  have hl := lv_entry ([.int iv, .int nv, .ref fm]) (n := 3) (Nat.le_of_ble_eq_true rfl)
  rw [lg_entry_eq]
  generalize (lg_sl ([.int iv, .int nv, .ref fm]) ++ List.replicate (3 - (lg_sl ([.int iv, .int nv, .ref fm])).length) Slot.unset).toArray = ls at hl ⊢
  have hl : lv_has ls 3 [(0, .int iv), (1, .int nv), (2, .ref fm)] := hl
  refine lv_iload_n hx hb dJ3_checkIndex_8e157_0 rfl (lv_at hl 0 rfl) ?_
  refine lv_if_lt (tgt := 9) hx hb dJ3_checkIndex_8e157_1 (by decide) (fun c_1 => ?_) (fun c_1 => ?_)
  · skip
    exact absurd c_1 hi0
  · skip
    refine lv_iload_n hx hb dJ3_checkIndex_8e157_4 rfl (lv_at hl 0 rfl) ?_
    refine lv_iload_n hx hb dJ3_checkIndex_8e157_5 rfl (lv_at hl 1 rfl) ?_
    refine lv_icmp_lt (tgt := 16) hx hb dJ3_checkIndex_8e157_6 (by decide) (fun c_6 => ?_) (fun c_6 => ?_)
    · skip
      refine lv_iload_n hx hb dJ3_checkIndex_8e157_16 rfl (lv_at hl 0 rfl) ?_
      exact W.iret (v := iv) hx hb hr (fun t ht hW => ⟨⟨_, _, rfl, ⟨rfl, rfl⟩, mk_end hG ht⟩, hS.F ht⟩) hS.2.2 dJ3_checkIndex_8e157_17
    · skip
      exact absurd hin c_6

set_option maxHeartbeats 4000000 in
set_option maxRecDepth 100000 in
theorem c_J0_checkIndex (l : Launch) (D : va_G) (cy : Nat → ClassId) (A : Nat → Prop) (X : State → Prop) (hst : mk_St A X) (hXT : ∀ U : State, X U → TB U) (e0 : Nat) (tk : Nat → Nat) (hXE : ∀ U : State, X U → ES e0 tk A U) (mi : Nat) (hXL : ∀ U : State, X U → EL e0 mi A U) (ax adK adV : Nat → Nat) (hXX : ∀ U : State, X U → TX ax adK adV tk A U) (G : Nat → Option va_E) (iv nv : Int32) (hi0 : ¬ iv < 0) (hin : iv < nv) : Met l yJ0_checkIndex_df160 [.code yJ0_checkIndex_df160 cJ0_checkIndex_df160 2 none] ({ frames := 1, cells := 0, slots := 0, locals := 30 }) (mk_Pre D vwCl (tyL cy) A X G [.int iv, .int nv]) (va_Qv (fun (G2 : Nat → Option va_E) => G2 = G) (mk_B D vwCl A) A) 0 0 A := by
  refine Met.ofW (cc := cJ0_checkIndex_df160) (maxL := 2) (ret := none) (by decide) rfl ?_
  intro p e s m args below meth c s₁ B hml hv
  obtain ⟨rfl, hG, hK, hA, hX⟩ := hv
  have hx := B.exec
  have hb := B.bytes
  have hr := B.returns
  have hlocks := B.notSynchronized
  have hT := hXT s hX
  have hown : s.vm.findClass RJ0 = some m.cls := findClass_of_methodNamed B.named
  have hS : va_S A s.heap s.heap [] := va_S.rf
  have hE := hXE s hX
  have hl := lv_entry ([.int iv, .int nv]) (n := 2) (Nat.le_of_ble_eq_true rfl)
  rw [lg_entry_eq]
  generalize (lg_sl ([.int iv, .int nv]) ++ List.replicate (2 - (lg_sl ([.int iv, .int nv])).length) Slot.unset).toArray = ls at hl ⊢
  have hl : lv_has ls 2 [(0, .int iv), (1, .int nv)] := hl
  have hQ := hXX s hX
  rcases hQ.2.2.2.2.2.2.2 with hz9 | ⟨fm9, hz9⟩
  · skip
    refine lv_iload_n hx hb dJ0_checkIndex_df160_0 rfl (lv_at hl 0 rfl) ?_
    refine lv_iload_n hx hb dJ0_checkIndex_df160_1 rfl (lv_at hl 1 rfl) ?_
    refine va_gets (v := .null) hx hb hz9 hS hown (tb_use hT tw_398) (fun _ h9 => h9) dJ0_checkIndex_df160_2 ?_
    refine va_calli (va_runS (As := [.int iv, .int nv, .null]) (rest := []) ⟨hx, hb, hml, hown, (fun _ h9 => absurd h9 List.not_mem_nil : ∀ w ∈ ([] : List Cond), w.before _ s = true)⟩ (c_J3_checkIndex_8e157 l D cy A X hst hXT e0 tk hXE G iv nv hi0 hin) (tb_cs 3 hT tw_402 tw_119 tw_400 tw_401 rfl rfl hq_J3_checkIndex_8e157 ⟨Nat.le_of_ble_eq_true rfl, Nat.le_of_ble_eq_true rfl⟩) (mk_preS hst hG hK hA hX hS) rfl rfl hl.1 rfl (lv_room (Nat.le_of_ble_eq_true rfl)) dJ0_checkIndex_df160_5 ⟨Nat.le_of_ble_eq_true rfl, Nat.le_of_ble_eq_true rfl⟩) hS (fun q _ h => h) (fun q h => h) (fun r1 G2 t H locs ht hvm hw hB hz1 hk1 hS => ?_)
    have hG : mm D vwCl A G2 H := by rw [← ht]; exact hB
    clear hB hz1 hk1 hvm ht
    obtain ⟨er1, hw⟩ := hw
    rw [hw] at hG
    refine lv_pop hx hb dJ0_checkIndex_df160_8 rfl ?_
    exact W.vret hx hb hr (fun t ht hW => ⟨⟨_, rfl, rfl, mk_end hG ht⟩, hS.F ht⟩) hS.2.2 dJ0_checkIndex_df160_9
  · skip
    refine lv_iload_n hx hb dJ0_checkIndex_df160_0 rfl (lv_at hl 0 rfl) ?_
    refine lv_iload_n hx hb dJ0_checkIndex_df160_1 rfl (lv_at hl 1 rfl) ?_
    refine va_gets (v := .ref fm9) hx hb hz9 hS hown (tb_use hT tw_398) (fun _ h9 => h9) dJ0_checkIndex_df160_2 ?_
    refine va_calli (va_runS (As := [.int iv, .int nv, .ref fm9]) (rest := []) ⟨hx, hb, hml, hown, (fun _ h9 => absurd h9 List.not_mem_nil : ∀ w ∈ ([] : List Cond), w.before _ s = true)⟩ (c_J3_checkIndexR l D cy A X hst hXT e0 tk hXE G iv nv fm9 hi0 hin) (tb_cs 3 hT tw_402 tw_119 tw_400 tw_401 rfl rfl hq_J3_checkIndex_8e157 ⟨Nat.le_of_ble_eq_true rfl, Nat.le_of_ble_eq_true rfl⟩) (mk_preS hst hG hK hA hX hS) rfl rfl hl.1 rfl (lv_room (Nat.le_of_ble_eq_true rfl)) dJ0_checkIndex_df160_5 ⟨Nat.le_of_ble_eq_true rfl, Nat.le_of_ble_eq_true rfl⟩) hS (fun q _ h => h) (fun q h => h) (fun r1 G2 t H locs ht hvm hw hB hz1 hk1 hS => ?_)
    have hG : mm D vwCl A G2 H := by rw [← ht]; exact hB
    clear hB hz1 hk1 hvm ht
    obtain ⟨er1, hw⟩ := hw
    rw [hw] at hG
    refine lv_pop hx hb dJ0_checkIndex_df160_8 rfl ?_
    exact W.vret hx hb hr (fun t ht hW => ⟨⟨_, rfl, rfl, mk_end hG ht⟩, hS.F ht⟩) hS.2.2 dJ0_checkIndex_df160_9

set_option maxHeartbeats 4000000 in
set_option maxRecDepth 100000 in
theorem c_J1_charAt (l : Launch) (D : va_G) (cy : Nat → ClassId) (A : Nat → Prop) (X : State → Prop) (hst : mk_St A X) (hXT : ∀ U : State, X U → TB U) (e0 : Nat) (tk : Nat → Nat) (hXE : ∀ U : State, X U → ES e0 tk A U) (mi : Nat) (hXL : ∀ U : State, X U → EL e0 mi A U) (ax adK adV : Nat → Nat) (hXX : ∀ U : State, X U → TX ax adK adV tk A U) (G : Nat → Option va_E) (ki : Nat) (j9 : Nat) (hki : ki < 32) (hj : j9 < tyLn.getD ki 0) : Met l yJ1_charAt_3b067 [.code yJ1_charAt_3b067 cJ1_charAt_3b067 2 (some .char)] ({ frames := 2, cells := 0, slots := 0, locals := 60 }) (mk_Pre D vwCl (tyL cy) A X G [.ref (adV ki), .int (nI j9)]) (va_Qi (fun (r : Int32) (G2 : Nat → Option va_E) => r = (tyBy.getD ki []).getD j9 0 ∧ G2 = G) (mk_B D vwCl A) A) 0 0 A := by
  refine Met.ofW (cc := cJ1_charAt_3b067) (maxL := 2) (ret := (some .char)) (by decide) rfl ?_
  intro p e s m args below meth c s₁ B hml hv
  obtain ⟨rfl, hG, hK, hA, hX⟩ := hv
  have hx := B.exec
  have hb := B.bytes
  have hr := B.returns
  have hlocks := B.notSynchronized
  have hT := hXT s hX
  have hown : s.vm.findClass RJ1 = some m.cls := findClass_of_methodNamed B.named
  have hS : va_S A s.heap s.heap [] := va_S.rf
  have hE := hXE s hX
  have hl := lv_entry ([.ref (adV ki), .int (nI j9)]) (n := 2) (Nat.le_of_ble_eq_true rfl)
  rw [lg_entry_eq]
  generalize (lg_sl ([.ref (adV ki), .int (nI j9)]) ++ List.replicate (2 - (lg_sl ([.ref (adV ki), .int (nI j9)])).length) Slot.unset).toArray = ls at hl ⊢
  have hl : lv_has ls 2 [(0, .ref (adV ki)), (1, .int (nI j9))] := hl
  have hQ := hXX s hX
  have hl9 := ln_lt ki hki
  refine lv_iload_n hx hb dJ1_charAt_3b067_0 rfl (lv_at hl 1 rfl) ?_
  refine lv_aload_n hx hb dJ1_charAt_3b067_1 rfl (lv_at hl 0 rfl) ?_
  refine va_tlen (v := (nI (tyLn.getD ki 0))) hx hb (hQ.1.1 ki hki).2.2.2 hS rfl dJ1_charAt_3b067_2 ?_
  refine va_callv (va_runS (As := [.int (nI j9), .int (nI (tyLn.getD ki 0))]) (rest := []) ⟨hx, hb, hml, hown, (fun _ h9 => absurd h9 List.not_mem_nil : ∀ w ∈ ([] : List Cond), w.before _ s = true)⟩ (c_J0_checkIndex l D cy A X hst hXT e0 tk hXE mi hXL ax adK adV hXX G (nI j9) (nI (tyLn.getD ki 0)) (nI_pos (by omega)) (nI_lt hj (by omega))) (tb_cs 2 hT tw_397 tw_117 tw_395 tw_396 rfl rfl hq_J0_checkIndex_df160 ⟨Nat.le_of_ble_eq_true rfl, Nat.le_of_ble_eq_true rfl⟩) (mk_preS hst hG hK hA hX hS) rfl rfl hl.1 rfl (lv_room (Nat.le_of_ble_eq_true rfl)) dJ1_charAt_3b067_3 ⟨Nat.le_of_ble_eq_true rfl, Nat.le_of_ble_eq_true rfl⟩) hS (fun q _ h => h) (fun q h => h) (fun  G1 t H locs ht hvm hw hB hz1 hk1 hS => ?_)
  have hG : mm D vwCl A G1 H := by rw [← ht]; exact hB
  clear hB hz1 hk1 hvm ht
  rw [hw] at hG
  refine lv_aload_n hx hb dJ1_charAt_3b067_6 rfl (lv_at hl 0 rfl) ?_
  refine lv_iload_n hx hb dJ1_charAt_3b067_7 rfl (lv_at hl 1 rfl) ?_
  refine va_tb (v := .int ((tyBy.getD ki []).getD j9 0)) hx hb (hQ.1.1 ki hki).2.2.2 hS (nI_in (N := tyLn.getD ki 0) hj (by omega)) (by rw [nI_clamp (n := j9) (by omega)]) dJ1_charAt_3b067_8 ?_
  refine lv_sipush (v := 255) hx hb dJ1_charAt_3b067_9 (by decide) ?_
  refine lv_iand hx hb dJ1_charAt_3b067_12 ?_
  obtain ⟨x2, ex2⟩ : ∃ y, y = (((((tyBy.getD ki []).getD j9 0) &&& 255) : Int32).toUInt32 % 65536).toInt32 := ⟨_, rfl⟩
  refine lv_i2c (v := x2) hx hb dJ1_charAt_3b067_13 ex2.symm ?_
  exact W.zret (v := x2) hx hb hr (by rw [ex2, ch_ok ki hki j9 hj]; exact nar_ch ki hki j9 hj) (fun t ht hW => ⟨⟨_, _, rfl, ⟨(by rw [ex2]; exact ch_ok ki hki j9 hj), rfl⟩, mk_end hG ht⟩, hS.F ht⟩) hS.2.2 dJ1_charAt_3b067_14

set_option maxHeartbeats 4000000 in
set_option maxRecDepth 100000 in
theorem c_J0_charAt (l : Launch) (D : va_G) (cy : Nat → ClassId) (A : Nat → Prop) (X : State → Prop) (hst : mk_St A X) (hXT : ∀ U : State, X U → TB U) (e0 : Nat) (tk : Nat → Nat) (hXE : ∀ U : State, X U → ES e0 tk A U) (mi : Nat) (hXL : ∀ U : State, X U → EL e0 mi A U) (ax adK adV : Nat → Nat) (hXX : ∀ U : State, X U → TX ax adK adV tk A U) (G : Nat → Option va_E) (ki : Nat) (j9 : Nat) (hki : ki < 32) (hj : j9 < tyLn.getD ki 0) : Met l yJ0_charAt_5068e [.code yJ0_charAt_5068e cJ0_charAt_5068e 2 (some .char)] ({ frames := 3, cells := 0, slots := 0, locals := 90 }) (mk_Pre D vwCl (tyL cy) A X G [.ref (adK ki), .int (nI j9)]) (va_Qi (fun (r : Int32) (G2 : Nat → Option va_E) => r = (tyBy.getD ki []).getD j9 0 ∧ G2 = G) (mk_B D vwCl A) A) 0 0 A := by
  refine Met.ofW (cc := cJ0_charAt_5068e) (maxL := 2) (ret := (some .char)) (by decide) rfl ?_
  intro p e s m args below meth c s₁ B hml hv
  obtain ⟨rfl, hG, hK, hA, hX⟩ := hv
  have hx := B.exec
  have hb := B.bytes
  have hr := B.returns
  have hlocks := B.notSynchronized
  have hT := hXT s hX
  have hown : s.vm.findClass RJ0 = some m.cls := findClass_of_methodNamed B.named
  have hS : va_S A s.heap s.heap [] := va_S.rf
  have hE := hXE s hX
  have hl := lv_entry ([.ref (adK ki), .int (nI j9)]) (n := 2) (Nat.le_of_ble_eq_true rfl)
  rw [lg_entry_eq]
  generalize (lg_sl ([.ref (adK ki), .int (nI j9)]) ++ List.replicate (2 - (lg_sl ([.ref (adK ki), .int (nI j9)])).length) Slot.unset).toArray = ls at hl ⊢
  have hl : lv_has ls 2 [(0, .ref (adK ki)), (1, .int (nI j9))] := hl
  have hQ := hXX s hX
  refine lv_aload_n hx hb dJ0_charAt_5068e_0 rfl (lv_at hl 0 rfl) ?_
  refine va_calli (va_runV (As := []) (rest := []) ⟨hx, hb, hml, hown, (fun _ h9 => absurd h9 List.not_mem_nil : ∀ w ∈ ([] : List Cond), w.before _ s = true)⟩ (c_J0_isLatin1 l D cy A X hst hXT e0 tk hXE mi hXL ax adK adV hXX G ki hki) (tb_cw (C := RJ0) 0 hT tw_391 tw_117 tw_388 tw_389 tw_390 rfl rfl hq_J0_isLatin1_aae02 ⟨Nat.le_of_ble_eq_true rfl, Nat.le_of_ble_eq_true rfl⟩) (mk_preK hst hG hK hA hX hS hQ hki) rfl rfl hl.1 rfl (lv_room (Nat.le_of_ble_eq_true rfl)) dJ0_charAt_5068e_1 ⟨Nat.le_of_ble_eq_true rfl, Nat.le_of_ble_eq_true rfl⟩) hS (fun q _ h => h) (fun q h => h) (fun r1 G2 t H locs ht hvm hw hB hz1 hk1 hS => ?_)
  have hG : mm D vwCl A G2 H := by rw [← ht]; exact hB
  clear hB hz1 hk1 hvm ht
  obtain ⟨er1, hw⟩ := hw
  rw [hw] at hG
  refine lv_if_eq (tgt := 16) hx hb dJ0_charAt_5068e_4 (by decide) (fun c_4 => ?_) (fun c_4 => ?_)
  · skip
    exact absurd (er1.symm.trans c_4) (by decide)
  · skip
    refine lv_aload_n hx hb dJ0_charAt_5068e_7 rfl (lv_at hl 0 rfl) ?_
    refine vk_getf (v := .ref (adV ki)) hx hb (hQ.1.1 ki hki).2.2.1 hS hown (tb_use hT tw_1922) (fun _ h9 => h9) dJ0_charAt_5068e_8 ?_
    refine lv_iload_n hx hb dJ0_charAt_5068e_11 rfl (lv_at hl 1 rfl) ?_
    refine va_calli (va_runS (As := [.ref (adV ki), .int (nI j9)]) (rest := []) ⟨hx, hb, hml, hown, (fun _ h9 => absurd h9 List.not_mem_nil : ∀ w ∈ ([] : List Cond), w.before _ s = true)⟩ (c_J1_charAt l D cy A X hst hXT e0 tk hXE mi hXL ax adK adV hXX G ki j9 hki hj) (tb_cs 2 hT tw_394 tw_118 tw_392 tw_393 rfl rfl hq_J1_charAt_3b067 ⟨Nat.le_of_ble_eq_true rfl, Nat.le_of_ble_eq_true rfl⟩) (mk_preS hst hG hK hA hX hS) rfl rfl hl.1 rfl (lv_room (Nat.le_of_ble_eq_true rfl)) dJ0_charAt_5068e_12 ⟨Nat.le_of_ble_eq_true rfl, Nat.le_of_ble_eq_true rfl⟩) hS (fun q _ h => h) (fun q h => h) (fun r3 G4 t H locs ht hvm hw hB hz1 hk1 hS => ?_)
    have hG : mm D vwCl A G4 H := by rw [← ht]; exact hB
    clear hB hz1 hk1 hvm ht
    obtain ⟨er3, hw⟩ := hw
    rw [hw] at hG
    exact W.zret (v := r3) hx hb hr (by rw [er3]; exact nar_ch ki hki j9 hj) (fun t ht hW => ⟨⟨_, _, rfl, ⟨er3, rfl⟩, mk_end hG ht⟩, hS.F ht⟩) hS.2.2 dJ0_charAt_5068e_15
