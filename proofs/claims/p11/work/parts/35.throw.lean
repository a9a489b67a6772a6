def aioC : String := "java/lang/ArrayIndexOutOfBoundsException"
def aioN : List String := ["java/lang/IndexOutOfBoundsException", "java/lang/RuntimeException", "java/lang/Exception"]
set_option maxRecDepth 100000 in
theorem aio_words : ∀ w ∈ Bundle.ownAtoms0 "DescribeText" 180 aioC aioN, w = (Cond.isRef (.static "java/lang/Throwable" "UNASSIGNED_STACK" "[Ljava/lang/StackTraceElement;")) ∨ w = (Cond.isRef (.static "java/lang/Throwable" "SUPPRESSED_SENTINEL" "Ljava/util/List;")) ∨ w = (Cond.laysStatic "java/lang/Throwable" "UNASSIGNED_STACK" "[Ljava/lang/StackTraceElement;") ∨ w = (Cond.laysStatic "java/lang/Throwable" "SUPPRESSED_SENTINEL" "Ljava/util/List;") ∨ (w ∈ lw_tbl ∧ (tb_ok w && w.onTables) = true) :=
  List.forall_mem_append.mpr ⟨List.forall_mem_append.mpr ⟨List.forall_mem_cons.mpr ⟨Or.inr (Or.inr (Or.inr (Or.inr ⟨tw_133, (by first | rfl | decide +kernel)⟩))), List.forall_mem_cons.mpr ⟨Or.inr (Or.inr (Or.inr (Or.inr ⟨tw_1342, (by first | rfl | decide +kernel)⟩))), List.forall_mem_cons.mpr ⟨Or.inr (Or.inr (Or.inr (Or.inr ⟨tw_1351, (by first | rfl | decide +kernel)⟩))), List.forall_mem_cons.mpr ⟨Or.inr (Or.inr (Or.inr (Or.inr ⟨tw_1353, (by first | rfl | decide +kernel)⟩))), List.forall_mem_cons.mpr ⟨Or.inr (Or.inr (Or.inr (Or.inr ⟨tw_1356, (by first | rfl | decide +kernel)⟩))), List.forall_mem_cons.mpr ⟨Or.inr (Or.inr (Or.inr (Or.inr ⟨tw_1358, (by first | rfl | decide +kernel)⟩))), List.forall_mem_cons.mpr ⟨Or.inr (Or.inr (Or.inr (Or.inr ⟨tw_1343, (by first | rfl | decide +kernel)⟩))), List.forall_mem_cons.mpr ⟨Or.inr (Or.inr (Or.inr (Or.inr ⟨tw_1344, (by first | rfl | decide +kernel)⟩))), List.forall_mem_cons.mpr ⟨Or.inr (Or.inr (Or.inr (Or.inr ⟨tw_144, (by first | rfl | decide +kernel)⟩))), List.forall_mem_cons.mpr ⟨Or.inr (Or.inr (Or.inr (Or.inr ⟨tw_145, (by first | rfl | decide +kernel)⟩))), List.forall_mem_cons.mpr ⟨Or.inr (Or.inr (Or.inr (Or.inr ⟨tw_1345, (by first | rfl | decide +kernel)⟩))), List.forall_mem_cons.mpr ⟨Or.inr (Or.inr (Or.inr (Or.inr ⟨tw_1350, (by first | rfl | decide +kernel)⟩))), List.forall_mem_cons.mpr ⟨Or.inr (Or.inr (Or.inr (Or.inr ⟨tw_1354, (by first | rfl | decide +kernel)⟩))), List.forall_mem_cons.mpr ⟨Or.inr (Or.inr (Or.inr (Or.inr ⟨tw_1373, (by first | rfl | decide +kernel)⟩))), List.forall_mem_cons.mpr ⟨Or.inr (Or.inr (Or.inr (Or.inr ⟨tw_1332, (by first | rfl | decide +kernel)⟩))), List.forall_mem_cons.mpr ⟨Or.inr (Or.inr (Or.inr (Or.inr ⟨tw_1374, (by first | rfl | decide +kernel)⟩))), List.forall_mem_cons.mpr ⟨Or.inr (Or.inr (Or.inr (Or.inr ⟨tw_1334, (by first | rfl | decide +kernel)⟩))), List.forall_mem_cons.mpr ⟨Or.inr (Or.inr (Or.inr (Or.inr ⟨tw_1375, (by first | rfl | decide +kernel)⟩))), List.forall_mem_cons.mpr ⟨Or.inr (Or.inr (Or.inr (Or.inr ⟨tw_1336, (by first | rfl | decide +kernel)⟩))), List.forall_mem_cons.mpr ⟨Or.inr (Or.inr (Or.inr (Or.inr ⟨tw_1346, (by first | rfl | decide +kernel)⟩))), List.forall_mem_cons.mpr ⟨Or.inr (Or.inr (Or.inl rfl)), List.forall_mem_cons.mpr ⟨Or.inr (Or.inr (Or.inr (Or.inr ⟨tw_1348, (by first | rfl | decide +kernel)⟩))), List.forall_mem_cons.mpr ⟨Or.inr (Or.inr (Or.inr (Or.inl rfl))), List.forall_mem_cons.mpr ⟨Or.inr (Or.inr (Or.inr (Or.inr ⟨tw_1338, (by first | rfl | decide +kernel)⟩))), List.forall_mem_nil _⟩⟩⟩⟩⟩⟩⟩⟩⟩⟩⟩⟩⟩⟩⟩⟩⟩⟩⟩⟩⟩⟩⟩⟩, List.forall_mem_append.mpr ⟨List.forall_mem_cons.mpr ⟨Or.inr (Or.inr (Or.inr (Or.inr ⟨tw_1360, (by first | rfl | decide +kernel)⟩))), List.forall_mem_cons.mpr ⟨Or.inr (Or.inr (Or.inr (Or.inr ⟨tw_1361, (by first | rfl | decide +kernel)⟩))), List.forall_mem_cons.mpr ⟨Or.inr (Or.inr (Or.inr (Or.inr ⟨tw_1362, (by first | rfl | decide +kernel)⟩))), List.forall_mem_cons.mpr ⟨Or.inr (Or.inr (Or.inr (Or.inr ⟨tw_1363, (by first | rfl | decide +kernel)⟩))), List.forall_mem_cons.mpr ⟨Or.inr (Or.inr (Or.inr (Or.inr ⟨tw_1321, (by first | rfl | decide +kernel)⟩))), List.forall_mem_nil _⟩⟩⟩⟩⟩, List.forall_mem_append.mpr ⟨List.forall_mem_cons.mpr ⟨Or.inr (Or.inr (Or.inr (Or.inr ⟨tw_1363, (by first | rfl | decide +kernel)⟩))), List.forall_mem_cons.mpr ⟨Or.inr (Or.inr (Or.inr (Or.inr ⟨tw_1364, (by first | rfl | decide +kernel)⟩))), List.forall_mem_cons.mpr ⟨Or.inr (Or.inr (Or.inr (Or.inr ⟨tw_1365, (by first | rfl | decide +kernel)⟩))), List.forall_mem_cons.mpr ⟨Or.inr (Or.inr (Or.inr (Or.inr ⟨tw_1366, (by first | rfl | decide +kernel)⟩))), List.forall_mem_cons.mpr ⟨Or.inr (Or.inr (Or.inr (Or.inr ⟨tw_1323, (by first | rfl | decide +kernel)⟩))), List.forall_mem_nil _⟩⟩⟩⟩⟩, List.forall_mem_append.mpr ⟨List.forall_mem_cons.mpr ⟨Or.inr (Or.inr (Or.inr (Or.inr ⟨tw_1366, (by first | rfl | decide +kernel)⟩))), List.forall_mem_cons.mpr ⟨Or.inr (Or.inr (Or.inr (Or.inr ⟨tw_1367, (by first | rfl | decide +kernel)⟩))), List.forall_mem_cons.mpr ⟨Or.inr (Or.inr (Or.inr (Or.inr ⟨tw_1368, (by first | rfl | decide +kernel)⟩))), List.forall_mem_cons.mpr ⟨Or.inr (Or.inr (Or.inr (Or.inr ⟨tw_1369, (by first | rfl | decide +kernel)⟩))), List.forall_mem_cons.mpr ⟨Or.inr (Or.inr (Or.inr (Or.inr ⟨tw_1325, (by first | rfl | decide +kernel)⟩))), List.forall_mem_nil _⟩⟩⟩⟩⟩, List.forall_mem_cons.mpr ⟨Or.inr (Or.inr (Or.inr (Or.inr ⟨tw_1369, (by first | rfl | decide +kernel)⟩))), List.forall_mem_cons.mpr ⟨Or.inr (Or.inr (Or.inr (Or.inr ⟨tw_1370, (by first | rfl | decide +kernel)⟩))), List.forall_mem_cons.mpr ⟨Or.inr (Or.inr (Or.inr (Or.inr ⟨tw_1371, (by first | rfl | decide +kernel)⟩))), List.forall_mem_cons.mpr ⟨Or.inr (Or.inr (Or.inr (Or.inr ⟨tw_1343, (by first | rfl | decide +kernel)⟩))), List.forall_mem_cons.mpr ⟨Or.inr (Or.inr (Or.inr (Or.inr ⟨tw_1327, (by first | rfl | decide +kernel)⟩))), List.forall_mem_nil _⟩⟩⟩⟩⟩⟩⟩⟩⟩, List.forall_mem_cons.mpr ⟨Or.inr (Or.inr (Or.inr (Or.inr ⟨tw_1359, (by first | rfl | decide +kernel)⟩))), List.forall_mem_cons.mpr ⟨Or.inr (Or.inr (Or.inr (Or.inr ⟨tw_1319, (by first | rfl | decide +kernel)⟩))), List.forall_mem_cons.mpr ⟨Or.inr (Or.inr (Or.inr (Or.inr ⟨tw_1320, (by first | rfl | decide +kernel)⟩))), List.forall_mem_cons.mpr ⟨Or.inr (Or.inr (Or.inr (Or.inr ⟨tw_1329, (by first | rfl | decide +kernel)⟩))), List.forall_mem_cons.mpr ⟨Or.inr (Or.inr (Or.inr (Or.inr ⟨tw_1330, (by first | rfl | decide +kernel)⟩))), List.forall_mem_cons.mpr ⟨Or.inr (Or.inr (Or.inr (Or.inr ⟨tw_1331, (by first | rfl | decide +kernel)⟩))), List.forall_mem_cons.mpr ⟨Or.inr (Or.inr (Or.inr (Or.inr ⟨tw_1333, (by first | rfl | decide +kernel)⟩))), List.forall_mem_cons.mpr ⟨Or.inr (Or.inr (Or.inr (Or.inr ⟨tw_1335, (by first | rfl | decide +kernel)⟩))), List.forall_mem_cons.mpr ⟨Or.inr (Or.inr (Or.inr (Or.inr ⟨tw_1337, (by first | rfl | decide +kernel)⟩))), List.forall_mem_cons.mpr ⟨Or.inl rfl, List.forall_mem_cons.mpr ⟨Or.inr (Or.inl rfl), List.forall_mem_cons.mpr ⟨Or.inr (Or.inr (Or.inr (Or.inr ⟨tw_1341, (by first | rfl | decide +kernel)⟩))), List.forall_mem_cons.mpr ⟨Or.inr (Or.inr (Or.inr (Or.inr ⟨tw_1340, (by first | rfl | decide +kernel)⟩))), List.forall_mem_cons.mpr ⟨Or.inr (Or.inr (Or.inr (Or.inr ⟨tw_1339, (by first | rfl | decide +kernel)⟩))), List.forall_mem_nil _⟩⟩⟩⟩⟩⟩⟩⟩⟩⟩⟩⟩⟩⟩⟩
theorem aio_ok {A : Nat → Prop} {s : State} {args : Array Value} (hT : TB s) (hH : TH A s) : ∀ w ∈ Bundle.ownAtoms0 "DescribeText" 180 aioC aioN, w.before args s = true := by
  intro w hw
  rcases aio_words w hw with rfl | rfl | rfl | rfl | h
  · exact tr_isRef hH.1.1
  · exact tr_isRef hH.1.2
  · exact tr_L_use hH.2.1
  · exact tr_L_use hH.2.2
  · exact tb_use hT h.1 h.2
set_option maxHeartbeats 4000000 in
set_option maxRecDepth 100000 in
theorem c_X13_out_t (l : Launch) (hpl : ∀ e : Env, l.admits e → e.platform.stackTraces = false) (D : va_G) (cy : Nat → ClassId) (A : Nat → Prop) (X : State → Prop) (hst : mk_St A X) (hXT : ∀ U : State, X U → TB U) (hXH : ∀ U : State, X U → TH A U) (G : Nat → Option va_E) (o tx rd to se kp : Nat) (hd rg : Option Nat) (tl kc : Int32) (rs : Nat) (n i : Int32) (h0 : G o = some (.inr (14, [.ref tx, .ref rd, .ref to, .ref se, .ref kp, .int tl, .int kc, va_rf hd, va_rf rg]))) (h1 : G se = some (.inr (7, [.ref rs, .int n]))) (hi : i < 0 ∨ ¬ i < n) : MetT l yX13_out [.code yX13_out cX13_out 2 (some .byte)] ({ frames := 7, cells := 1, slots := 6, locals := 100 }) (mk_Pre D vwCl (tyL cy) A X G [.ref o, .int i]) (tr_Q D vwCl A G aioC) 1 6 (fun _ => False) := by
  refine MetT.ofW (cc := cX13_out) (maxL := 2) (ret := (some .byte)) (by decide) rfl ?_
  intro p e s m args below meth c s₁ B hml hv
  obtain ⟨rfl, hG, hK, hA, hX⟩ := hv
  have hx := B.exec
  have hb := B.bytes
  have hlocks := B.notSynchronized
  have hT := hXT s hX
  have hown : s.vm.findClass RX13 = some m.cls := findClass_of_methodNamed B.named
  have hf_X13 : ∀ w ∈ u_ws RX13 TX13 9, w.before ([.ref o, .int i] : List Value).toArray s = true := tb_list hT fX13
  have hf_X6 : ∀ w ∈ u_ws RX6 TX6 2, w.before ([.ref o, .int i] : List Value).toArray s = true := tb_list hT fX6
  have hl := lv_entry ([.ref o, .int i]) (n := 2) (Nat.le_of_ble_eq_true rfl)
  have hnh := B.noHandlers (atoms_spec (ws := [.code yX13_out cX13_out 2 (some .byte)]) B.pre _ List.mem_cons_self)
  rw [lg_entry_eq]
  generalize (lg_sl ([.ref o, .int i]) ++ List.replicate (2 - (lg_sl ([.ref o, .int i])).length) Slot.unset).toArray = ls at hl ⊢
  have hl : lv_has ls 2 [(0, .ref o), (1, .int i)] := hl
  have fin : W p l e (headSpec [.code yX13_out cX13_out 2 (some .byte)] { frames := 7, cells := 1, slots := 6, locals := 100 }).room s m ([.ref o, .int i] : List Value).toArray below meth c s.heap [] 0 0 (MQT below (tr_Q D vwCl A G aioC) s 1 6 (fun _ => False)) (F0 m 15 ls []) :=
    tr_throw0 (own := RX13) (cls := aioC) (names := aioN) hx hb (hl.1.trans hml.symm) (hpl e B.admits) hown (by decide +kernel) (by decide +kernel) (tb_use hT tw_1318) (tb_use hT tw_137) (tb_use hT tw_1319) (aio_ok hT (hXH s hX)) hnh (fun tt xx ce k1 k2 k3 k4 k5 => ⟨hG.kept k2, k1, k2, ce, k3, k4, k5⟩)
      (Nat.le_of_ble_eq_true rfl) (Nat.le_of_ble_eq_true rfl) (Nat.le_of_ble_eq_true rfl) (Nat.le_of_ble_eq_true rfl) dX13_out_15 dX13_out_18 dX13_out_19 dX13_out_22 hlocks
  refine lv_iload_n hx hb dX13_out_0 rfl (lv_at hl 1 rfl) ?_
  refine lv_if_lt (tgt := 15) hx hb dX13_out_1 (by decide) (fun c_1 => fin) (fun c_1 => ?_)
  refine lv_iload_n hx hb dX13_out_4 rfl (lv_at hl 1 rfl) ?_
  refine lv_aload_n hx hb dX13_out_5 rfl (lv_at hl 0 rfl) ?_
  refine mm_get (v := .ref se) hx hb hf_X13 (fun _ h9 => h9) hown hK hG h0 rfl 3 (by decide) (tb_use hT tw_214) (fun _ h9 => h9) rfl dX13_out_6 ?_
  refine mm_getN (v := .int n) hx hb hf_X6 (fun _ h9 => h9) hown hK hG h1 rfl 1 (by decide) (tb_use hT tw_203) (fun _ h9 => h9) rfl dX13_out_9 ?_
  refine lv_icmp_lt (tgt := 23) hx hb dX13_out_12 (by decide) (fun c_12 => ?_) (fun c_12 => fin)
  rcases hi with hi | hi
  · exact absurd hi c_1
  · exact absurd c_12 hi
set_option maxHeartbeats 4000000 in
set_option maxRecDepth 100000 in
theorem c_L_out_t (l : Launch) (hpl : ∀ e : Env, l.admits e → e.platform.stackTraces = false) (D : va_G) (cy : Nat → ClassId) (A : Nat → Prop) (X : State → Prop) (hst : mk_St A X) (hXT : ∀ U : State, X U → TB U) (hXH : ∀ U : State, X U → TH A U) (G : Nat → Option va_E) (o tx rd to se kp : Nat) (hd rg : Option Nat) (tl kc : Int32) (rs : Nat) (n i : Int32) (wa : Nat) (h0 : G o = some (.inr (14, [.ref tx, .ref rd, .ref to, .ref se, .ref kp, .int tl, .int kc, va_rf hd, va_rf rg]))) (h1 : G se = some (.inr (7, [.ref rs, .int n]))) (hi : i < 0 ∨ ¬ i < n) : Met l yL_out [.codeWith yL_out cL_out 4 (some .int) [(0, 9, 12, 13)]] ({ frames := 8, cells := 1, slots := 6, locals := 130 }) (mk_Pre D vwCl (tyL cy) A X G [.ref o, .int i, .ref wa]) (va_Qi (fun (r : Int32) (G2 : Nat → Option va_E) => r = 1 ∧ G2 = G) (mk_B D vwCl A) A) 1 6 A := by
  refine va_MetW (cc := cL_out) (maxL := 4) (ret := (some .int)) (by decide) rfl ?_
  intro p e s m args below meth c s₁ B hml hv
  obtain ⟨rfl, hG, hK, hA, hX⟩ := hv
  have hx := B.exec
  have hb := B.bytes
  have hr := B.returns
  have hlocks := B.notSynchronized
  have hT := hXT s hX
  have hown : s.vm.findClass RL = some m.cls := findClass_of_methodNamed B.named
  have hS : va_S A s.heap s.heap [] := va_S.rf
  have hl := lv_entry ([.ref o, .int i, .ref wa]) (n := 4) (Nat.le_of_ble_eq_true rfl)
  obtain ⟨xe, htab, x1, x2, x3, x4⟩ : ∃ xe : ExceptionTableEntry, c.exceptionTable.toList = [xe] ∧ xe.startPc = 0 ∧ xe.endPc = 9 ∧ xe.handlerPc = 12 ∧ xe.catchType = 13 := by
    obtain ⟨m9, meth9, c9, hn9, q1, q2, -, -, htab, -⟩ := Cond.codeWith_spec (atoms_spec (ws := [.codeWith yL_out cL_out 4 (some .int) [(0, 9, 12, 13)]]) B.pre _ List.mem_cons_self)
    cases B.named.symm.trans hn9
    cases B.method.symm.trans q1
    cases (Stand.of_body B).code.symm.trans q2
    generalize c.exceptionTable.toList = tl at htab ⊢
    rcases tl with _ | ⟨xe, _ | ⟨xf, tl⟩⟩
    · cases htab
    · injection htab with htab _
      injection htab with z1 htab
      injection htab with z2 htab
      injection htab with z3 z4
      exact ⟨xe, rfl, z1, z2, z3, z4⟩
    · injection htab with _ htab
      cases htab
  rw [lg_entry_eq]
  generalize (lg_sl ([.ref o, .int i, .ref wa]) ++ List.replicate (4 - (lg_sl ([.ref o, .int i, .ref wa])).length) Slot.unset).toArray = ls at hl ⊢
  have hl : lv_has ls 4 [(0, .ref o), (1, .int i), (2, .ref wa)] := hl
  refine lv_aload_n hx hb dL_out_0 rfl (lv_at hl 2 rfl) ?_
  refine lv_iconst (v := 0) hx hb dL_out_1 (by decide) ?_
  refine lv_aload_n hx hb dL_out_2 rfl (lv_at hl 0 rfl) ?_
  refine lv_iload_n hx hb dL_out_3 rfl (lv_at hl 1 rfl) ?_
  refine tr_caught (own := RL) (cls := aioC) (tr_runV (As := [.int i]) (rest := [.int 0, .ref wa]) ⟨hx, hb, hml, hown, (fun _ h9 => absurd h9 List.not_mem_nil : ∀ w ∈ ([] : List Cond), w.before _ s = true)⟩ (c_X13_out_t l hpl D cy A X hst hXT hXH G o tx rd to se kp hd rg tl kc rs n i h0 h1 hi) (tb_cw (C := RX13) 1 hT tw_1317 tw_105 tw_1314 tw_1315 tw_1316 rfl rfl hq_X13_out ⟨Nat.le_of_ble_eq_true rfl, Nat.le_of_ble_eq_true rfl⟩) (mk_preC hst hG hK hA hX hS vc_14 h0) rfl rfl hl.1 rfl (lv_room (Nat.le_of_ble_eq_true rfl)) dL_out_4 ⟨Nat.le_of_ble_eq_true rfl, Nat.le_of_ble_eq_true rfl⟩) hS hown xe htab (by simp [covers, x1, x2]) (by rw [x4]; decide) (by rw [x4]; exact tb_use hT tw_1313) (tb_use hT tw_1320) (fun xa H1 hG hS => ?_)
  rw [x3]
  refine lv_astore_n (lv' := [(3, .ref xa), (0, .ref o), (1, .int i), (2, .ref wa)]) hx hb dL_out_12 rfl hl (by decide) rfl (fun ls hl => ?_)
  refine lv_iconst (v := 1) hx hb dL_out_13 (by decide) ?_
  exact W.iret (v := 1) hx hb hr (fun t ht hW => ⟨⟨_, _, rfl, ⟨rfl, rfl⟩, mk_end hG ht⟩, hS.F ht⟩) hS.2.2 dL_out_14
