/-! ===== what stands still: the empty list's array, the tokens ===== -/
def tkNm : List String := ["NAME", "NUMBER", "END", "BAD", "OPEN", "CLOSE", "SEMICOLON", "COLON", "EQUAL", "SLASH", "MINUS", "CODING", "OCTETS", "SIGNED", "SCALE", "PLUS", "LAYER", "OF", "SERVICE", "PARAM", "WHEN", "TIMES", "CODE", "VARIANT", "JOB", "PUT", "GET", "ADD", "SUB", "MUL", "DUP", "SWAP", "DROP", "SEND", "WHILE"]
def tkF : List (String × String × String × List Int32) := [("DescribeText$Token", "takes", "I", [0, 0, 0, 0, 0, 0, 0, 0, 0, 0, 0, 0, 0, 0, 0, 0, 0, 0, 0, 0, 0, 0, 0, 0, 0, 0, 0, 2, 2, 2, 1, 2, 1, 1, 1]), ("DescribeText$Token", "lays", "I", [0, 0, 0, 0, 0, 0, 0, 0, 0, 0, 0, 0, 0, 0, 0, 0, 0, 0, 0, 0, 0, 0, 0, 0, 0, 1, 1, 1, 1, 1, 2, 2, 0, 0, 0]), ("java/lang/Enum", "ordinal", "I", [0, 1, 2, 3, 4, 5, 6, 7, 8, 9, 10, 11, 12, 13, 14, 15, 16, 17, 18, 19, 20, 21, 22, 23, 24, 25, 26, 27, 28, 29, 30, 31, 32, 33, 34])]
def ES (e0 : Nat) (tk : Nat → Nat) (A : Nat → Prop) (U : State) : Prop := va_Z "java/util/ArrayList" "DEFAULTCAPACITY_EMPTY_ELEMENTDATA" "[Ljava/lang/Object;" (.ref e0) A U U.heap ∧ va_En "DescribeText$Token" "LDescribeText$Token;" tkNm tkF tk A U U.heap
theorem ES_st {e0 : Nat} {tk : Nat → Nat} {A : Nat → Prop} : mk_St A (ES e0 tk A) := by
  intro s U hW hk h
  exact ⟨(va_Z.moved hW.alike h.1).kept hk, (va_En.moved hW.alike h.2).kept hk⟩
/-- an object that isn't ours stored into an array of its class -/
theorem mm_aastM {p : Program} {l : Launch} {e : Env} {R : Room} {s : State} {m : MethodId} {args : Array Value} {below : List Frame} {meth : Method} {c : Code} {H : Heap} {locs : List Loc} {cells slots : Nat} {Q : State → Prop} {cc : ByteArray} {pc : Nat} {ls : Array Slot} {rest : List Value} {D : va_G} {cl : List vw_C} {A : Nat → Prop} {a : Nat} {tys : List (ClassId × FieldType)} {G : Nat → Option va_E} {H0 : Heap} (hexec : p.tables.exec = Jvm.exec) (hb : c.code = cc) (hK : va_K D cl tys s) (hG : mm D cl A G H) (hS : va_S A H0 H locs) (t0 : Nat) {E : String} {cA : ClassId} {n v : Nat} {f : Nat → Option Nat} (ha : G a = some (.inl (cA, n, .inr (.inr (.inr (.inr f)))))) (ht : tys[t0]? = some (cA, .object E)) (hr : va_Any E s H v) {i : Int32} (hin : vp_in i n) (hdg : decode cc pc = .ok (.aastore, 1))
    (kk : ∀ (H1 : Heap) (locs1 : List Loc), mm D cl A (mm_set G a (.inl (cA, n, .inr (.inr (.inr (.inr (va_up f i.toNatClampNeg (some v)))))))) H1 → va_S A H0 H1 locs1 → W p l e R s m args below meth c H1 locs1 cells slots Q (F0 m (pc + 1) ls rest)) : W p l e R s m args below meth c H locs cells slots Q (F0 m pc ls (.ref v :: .int i :: .ref a :: rest)) := by
  obtain ⟨L, g, rfl, hP, hD⟩ := hG
  obtain ⟨hL, hf⟩ := mm_of_some ha
  obtain ⟨q, hq⟩ := va_pl_get (X := []) (f := g) hL
  exact va_astqM hexec hb hK hP hD hS q t0 (by rw [← hf]; exact hq) ht hr hin hdg (fun H1 locs1 hP1 hD1 hS1 => kk H1 locs1 (mm_wrote hD hL hq hP1 hD1) hS1)
theorem tk_any {D : va_G} {tys : List (ClassId × FieldType)} {s : State} {H : Heap} {locs : List Loc} {A : Nat → Prop} {e0 i : Nat} {tk : Nat → Nat} (hK : va_K D vwCl tys s) (hE : ES e0 tk A s) (hi : i < 35) (hS : va_S A s.heap H locs) : va_Any "DescribeText$Token" s H (tk i) := by
  obtain ⟨cell, h1, h2, h3, h4⟩ := ((hE.2.1 i hi).2.1).kept hS.2.1
  have hC : ClassAt s RX11 (D.1 12) := (hK.1 12 _ rfl).2
  have e1 : D.1 12 = cell.cls := Option.some.inj (hC.1.symm.trans h3)
  obtain ⟨kC, hkC, hkk⟩ := hC.2
  refine ⟨cell, h1, h2, ⟨kC, by rw [← e1]; exact hkC⟩, fun comp hcomp => ?_⟩
  have e2 : comp = cell.cls := Option.some.inj (hcomp.symm.trans h3)
  rw [e2, ← e1]
  exact va_assign hC
set_option maxHeartbeats 4000000 in
set_option maxRecDepth 100000 in
theorem c_Jxa1e45_init_da8c8 (l : Launch) (D : va_G) (cy : Nat → ClassId) (A : Nat → Prop) (X : State → Prop) (hst : mk_St A X) (hXT : ∀ U : State, X U → TB U) (e0 : Nat) (tk : Nat → Nat) (hXE : ∀ U : State, X U → ES e0 tk A U) (G : Nat → Option va_E) (o : Nat) (h0 : G o = some (.inr (1, [.int 0, .null, .int 0]))) : Met l yJxa1e45_init_da8c8 [.code yJxa1e45_init_da8c8 cJxa1e45_init_da8c8 1 none] ({ frames := 1, cells := 0, slots := 0, locals := 12 }) (mk_Pre D vwCl (tyL cy) A X G [.ref o]) (va_Qv (fun (G2 : Nat → Option va_E) => G2 = G) (mk_B D vwCl A) A) 0 0 A := by
  refine Met.ofW (cc := cJxa1e45_init_da8c8) (maxL := 1) (ret := none) (by decide) rfl ?_
  intro p e s m args below meth c s₁ B hml hv
  obtain ⟨rfl, hG, hK, hA, hX⟩ := hv
  have hx := B.exec
  have hb := B.bytes
  have hr := B.returns
  have hlocks := B.notSynchronized
  have hT := hXT s hX
  have hown : s.vm.findClass RJxa1e45 = some m.cls := findClass_of_methodNamed B.named
  have hin : meth.name = "<init>" := (name_of_methodNamed B.named B.method).1
  have hS : va_S A s.heap s.heap [] := va_S.rf
  have hE := hXE s hX
  have hl := lv_entry ([.ref o]) (n := 1) (Nat.le_of_ble_eq_true rfl)
  rw [lg_entry_eq]
  generalize (lg_sl ([.ref o]) ++ List.replicate (1 - (lg_sl ([.ref o])).length) Slot.unset).toArray = ls at hl ⊢
  have hl : lv_has ls 1 [(0, .ref o)] := hl
  refine lv_aload_n hx hb dJxa1e45_init_da8c8_0 rfl (lv_at hl 0 rfl) ?_
  refine W.objInit hx hb hown (tb_use hT tw_263) (tb_use hT tw_144) (tb_use hT tw_145) rfl (by rw [hml]; exact hl.1) rfl dJxa1e45_init_da8c8_1 (Nat.le_of_ble_eq_true rfl) (Nat.le_of_ble_eq_true rfl) ?_
  refine W.eq (g2 := F0 m 4 ls []) rfl ?_
  exact W.vret hx hb hr (fun t ht hW => ⟨⟨_, rfl, rfl, mk_end hG ht⟩, hS.F ht⟩) hS.2.2 dJxa1e45_init_da8c8_4

set_option maxHeartbeats 4000000 in
set_option maxRecDepth 100000 in
theorem c_Jxc12de_init_da8c8 (l : Launch) (D : va_G) (cy : Nat → ClassId) (A : Nat → Prop) (X : State → Prop) (hst : mk_St A X) (hXT : ∀ U : State, X U → TB U) (e0 : Nat) (tk : Nat → Nat) (hXE : ∀ U : State, X U → ES e0 tk A U) (G : Nat → Option va_E) (o : Nat) (h0 : G o = some (.inr (1, [.int 0, .null, .int 0]))) : Met l yJxc12de_init_da8c8 [.code yJxc12de_init_da8c8 cJxc12de_init_da8c8 1 none] ({ frames := 2, cells := 0, slots := 0, locals := 40 }) (mk_Pre D vwCl (tyL cy) A X G [.ref o]) (va_Qv (fun (G2 : Nat → Option va_E) => G2 = mm_set G o (.inr (1, [.int 0, .null, .int 0]))) (mk_B D vwCl A) A) 0 0 A := by
  refine Met.ofW (cc := cJxc12de_init_da8c8) (maxL := 1) (ret := none) (by decide) rfl ?_
  intro p e s m args below meth c s₁ B hml hv
  obtain ⟨rfl, hG, hK, hA, hX⟩ := hv
  have hx := B.exec
  have hb := B.bytes
  have hr := B.returns
  have hlocks := B.notSynchronized
  have hT := hXT s hX
  have hown : s.vm.findClass RJxc12de = some m.cls := findClass_of_methodNamed B.named
  have hin : meth.name = "<init>" := (name_of_methodNamed B.named B.method).1
  have hf_Jx4a65c : ∀ w ∈ u_ws RJx4a65c TJx4a65c 3, w.before ([.ref o] : List Value).toArray s = true := tb_list hT fJx4a65c
  have hS : va_S A s.heap s.heap [] := va_S.rf
  have hE := hXE s hX
  have hl := lv_entry ([.ref o]) (n := 1) (Nat.le_of_ble_eq_true rfl)
  rw [lg_entry_eq]
  generalize (lg_sl ([.ref o]) ++ List.replicate (1 - (lg_sl ([.ref o])).length) Slot.unset).toArray = ls at hl ⊢
  have hl : lv_has ls 1 [(0, .ref o)] := hl
  refine lv_aload_n hx hb dJxc12de_init_da8c8_0 rfl (lv_at hl 0 rfl) ?_
  refine va_callv (va_runI (As := []) (rest := []) ⟨hx, hb, hml, hown, (fun _ h9 => absurd h9 List.not_mem_nil : ∀ w ∈ ([] : List Cond), w.before _ s = true)⟩ (c_Jxa1e45_init_da8c8 l D cy A X hst hXT e0 tk hXE G o h0) (tb_ci 0 hT tw_262 tw_111 tw_260 tw_261 rfl rfl rfl hq_Jxa1e45_init_da8c8 ⟨Nat.le_of_ble_eq_true rfl, Nat.le_of_ble_eq_true rfl⟩) (mk_preS hst hG hK hA hX hS) rfl rfl hl.1 rfl (lv_room (Nat.le_of_ble_eq_true rfl)) dJxc12de_init_da8c8_1 ⟨Nat.le_of_ble_eq_true rfl, Nat.le_of_ble_eq_true rfl⟩) hS (fun q _ h => h) (fun q h => h) (fun  G1 t H locs ht hvm hw hB hz1 hk1 hS => ?_)
  have hG : mm D vwCl A G1 H := by rw [← ht]; exact hB
  clear hB hz1 hk1 hvm ht
  rw [hw] at hG
  refine lv_aload_n hx hb dJxc12de_init_da8c8_4 rfl (lv_at hl 0 rfl) ?_
  refine lv_iconst (v := 0) hx hb dJxc12de_init_da8c8_5 (by decide) ?_
  refine mm_put (v := .int 0) (ty := .int) hx hb hf_Jx4a65c (fun _ h9 => h9) tyJx4a65c tyJx4a65c_ok nmJx4a65c hown hK hG hS h0 rfl 0 (by decide) (tb_use hT tw_268) (fun _ h9 => h9) rfl (by decide +kernel) rfl rfl (Nat.le_of_ble_eq_true rfl) dJxc12de_init_da8c8_6 (fun H locs hG hS => ?_)
  obtain ⟨G2, eG2⟩ : ∃ g, g = mm_set G o (.inr (1, [.int 0, .null, .int 0])) := ⟨_, rfl⟩
  have hG : mm D vwCl A G2 H := by rw [eG2]; exact hG
  have k3 : G2 o = some (.inr (1, [.int 0, .null, .int 0])) := by rw [eG2]; exact mm_set_self
  exact W.vret hx hb hr (fun t ht hW => ⟨⟨_, rfl, (by subst eG2; rfl), mk_end hG ht⟩, hS.F ht⟩) hS.2.2 dJxc12de_init_da8c8_9

set_option maxHeartbeats 4000000 in
set_option maxRecDepth 100000 in
theorem c_Jx4a65c_init_da8c8 (l : Launch) (D : va_G) (cy : Nat → ClassId) (A : Nat → Prop) (X : State → Prop) (hst : mk_St A X) (hXT : ∀ U : State, X U → TB U) (e0 : Nat) (tk : Nat → Nat) (hXE : ∀ U : State, X U → ES e0 tk A U) (G : Nat → Option va_E) (o : Nat) (h0 : G o = some (.inr (1, [.int 0, .null, .int 0]))) : Met l yJx4a65c_init_da8c8 [.code yJx4a65c_init_da8c8 cJx4a65c_init_da8c8 1 none] ({ frames := 3, cells := 0, slots := 0, locals := 80 }) (mk_Pre D vwCl (tyL cy) A X G [.ref o]) (va_Qv (fun (G2 : Nat → Option va_E) => G2 o = some (.inr (1, [.int 0, .ref e0, .int 0])) ∧ ∀ (x : Nat) (e : va_E), G x = some e → x ≠ o → G2 x = some e) (mk_B D vwCl A) A) 0 0 A := by
  refine Met.ofW (cc := cJx4a65c_init_da8c8) (maxL := 1) (ret := none) (by decide) rfl ?_
  intro p e s m args below meth c s₁ B hml hv
  obtain ⟨rfl, hG, hK, hA, hX⟩ := hv
  have hx := B.exec
  have hb := B.bytes
  have hr := B.returns
  have hlocks := B.notSynchronized
  have hT := hXT s hX
  have hown : s.vm.findClass RJx4a65c = some m.cls := findClass_of_methodNamed B.named
  have hin : meth.name = "<init>" := (name_of_methodNamed B.named B.method).1
  have hf_Jx4a65c : ∀ w ∈ u_ws RJx4a65c TJx4a65c 3, w.before ([.ref o] : List Value).toArray s = true := tb_list hT fJx4a65c
  have hS : va_S A s.heap s.heap [] := va_S.rf
  have hE := hXE s hX
  have hl := lv_entry ([.ref o]) (n := 1) (Nat.le_of_ble_eq_true rfl)
  rw [lg_entry_eq]
  generalize (lg_sl ([.ref o]) ++ List.replicate (1 - (lg_sl ([.ref o])).length) Slot.unset).toArray = ls at hl ⊢
  have hl : lv_has ls 1 [(0, .ref o)] := hl
  refine lv_aload_n hx hb dJx4a65c_init_da8c8_0 rfl (lv_at hl 0 rfl) ?_
  refine va_callv (va_runI (As := []) (rest := []) ⟨hx, hb, hml, hown, (fun _ h9 => absurd h9 List.not_mem_nil : ∀ w ∈ ([] : List Cond), w.before _ s = true)⟩ (c_Jxc12de_init_da8c8 l D cy A X hst hXT e0 tk hXE G o h0) (tb_ci 0 hT tw_259 tw_112 tw_257 tw_258 rfl rfl rfl hq_Jxc12de_init_da8c8 ⟨Nat.le_of_ble_eq_true rfl, Nat.le_of_ble_eq_true rfl⟩) (mk_preS hst hG hK hA hX hS) rfl rfl hl.1 rfl (lv_room (Nat.le_of_ble_eq_true rfl)) dJx4a65c_init_da8c8_1 ⟨Nat.le_of_ble_eq_true rfl, Nat.le_of_ble_eq_true rfl⟩) hS (fun q _ h => h) (fun q h => h) (fun  G1 t H locs ht hvm hw hB hz1 hk1 hS => ?_)
  have hG : mm D vwCl A G1 H := by rw [← ht]; exact hB
  clear hB hz1 hk1 hvm ht
  have k2 : G1 o = some (.inr (1, [.int 0, .null, .int 0])) := by rw [hw]; exact mm_set_self
  refine lv_aload_n hx hb dJx4a65c_init_da8c8_4 rfl (lv_at hl 0 rfl) ?_
  refine va_gets (v := .ref e0) hx hb hE.1 hS hown (tb_use hT tw_264) (fun _ h9 => h9) dJx4a65c_init_da8c8_5 ?_
  refine mm_put (v := .ref e0) (ty := .array (.object "java/lang/Object")) hx hb hf_Jx4a65c (fun _ h9 => h9) tyJx4a65c tyJx4a65c_ok nmJx4a65c hown hK hG hS k2 rfl 1 (by decide) (tb_use hT tw_266) (fun _ h9 => h9) rfl (by decide +kernel) rfl rfl (Nat.le_of_ble_eq_true rfl) dJx4a65c_init_da8c8_8 (fun H locs hG hS => ?_)
  obtain ⟨G3, eG3⟩ : ∃ g, g = mm_set G1 o (.inr (1, [.int 0, .ref e0, .int 0])) := ⟨_, rfl⟩
  have hG : mm D vwCl A G3 H := by rw [eG3]; exact hG
  have k4 : G3 o = some (.inr (1, [.int 0, .ref e0, .int 0])) := by rw [eG3]; exact mm_set_self
  have hfr : ∀ (x : Nat) (e : va_E), G x = some e → x ≠ o → G3 x = some e := by
    intro x e z0 n_o
    have z1 : G1 x = some e := by rw [hw]; exact mm_set_of z0 n_o
    have z2 : G3 x = some e := by rw [eG3]; exact mm_set_of z1 n_o
    exact z2
  exact W.vret hx hb hr (fun t ht hW => ⟨⟨_, rfl, ⟨k4, hfr⟩, mk_end hG ht⟩, hS.F ht⟩) hS.2.2 dJx4a65c_init_da8c8_11
