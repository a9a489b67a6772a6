/-- what stands still for the lists: the empty list's array is empty; the class object of Object[] -/
def EL (e0 mi : Nat) (A : Nat → Prop) (U : State) : Prop := va_T (.object "java/lang/Object") e0 0 (fun _ => .null) A U U.heap ∧ va_Mi "[Ljava/lang/Object;" mi U
theorem EL_st {e0 mi : Nat} {A : Nat → Prop} : mk_St A (EL e0 mi A) := fun _ _ hW hk h => ⟨(va_T.moved hW.alike h.1).kept hk, va_Mi.moved hW.alike h.2⟩
theorem mm_none {G : Nat → Option va_E} {a q : Nat} {e : va_E} (h : mm_set G a e q = none) : G q = none := by
  by_cases hz : q = a
  · subst hz
    rw [mm_set_self] at h
    cases h
  · rwa [mm_set_ne hz] at h
theorem ob_any {D : va_G} {tys : List (ClassId × FieldType)} {s : State} {H : Heap} {A : Nat → Prop} {G : Nat → Option va_E} (hT : TB s) (hK : va_K D vwCl tys s) (hG : mm D vwCl A G H) {y ci : Nat} {fs : List Value} {r : vw_C} (hy : G y = some (.inr (ci, fs))) (hr : vwCl[ci]? = some r) (hc : Cond.castable r.1 "java/lang/Object" ∈ lw_tbl) : va_Any "java/lang/Object" s H y :=
  va_rAny (q0 := 0) hK (hG.one hy) rfl hr (fun comp c0 h1 h2 => by
    obtain ⟨a, b, f1, f2, f3⟩ := Cond.castable_spec (tb_use (args := #[]) hT hc rfl)
    cases f1.symm.trans h2
    cases f2.symm.trans h1
    exact f3)
/-- a list's elements are objects, and no lists -/
def el_ok (G : Nat → Option va_E) (n : Nat) (gv : Nat → Option Nat) : Prop := ∀ j, j < n → ∀ y, gv j = some y → ∃ (ci : Nat) (fs : List Value) (r : vw_C), G y = some (.inr (ci, fs)) ∧ vwCl[ci]? = some r ∧ Cond.castable r.1 "java/lang/Object" ∈ lw_tbl ∧ ci ≠ 1
theorem el_ok.fr {G G2 : Nat → Option va_E} {n : Nat} {gv : Nat → Option Nat} (h : el_ok G n gv) (hfr : ∀ (x ci : Nat) (fs : List Value), ci ≠ 1 → G x = some (.inr (ci, fs)) → G2 x = some (.inr (ci, fs))) : el_ok G2 n gv := by
  intro j hj y hy
  obtain ⟨ci, fs, r, z1, z2, z3, z4⟩ := h j hj y hy
  exact ⟨ci, fs, r, hfr y ci fs z4 z1, z2, z3, z4⟩
theorem el_ok.put {G : Nat → Option va_E} {n : Nat} {gv : Nat → Option Nat} {a : Nat} {fa : List Value} {e : va_E} (h : el_ok G n gv) (ha : G a = some (.inr (1, fa))) : el_ok (mm_set G a e) n gv :=
  h.fr (fun _ _ _ hc hx => mm_set_of hx (mm_ne_oo hx ha hc))
theorem g_sub : ∀ n : Nat, n < 201 → nI (n + 1) - nI n = 1 := by decide +kernel
theorem g_shr : ∀ n : Nat, n < 201 → nI n >>> (1 &&& 31) = nI (n / 2) := by decide +kernel
section MMCP

variable {p : Program} {l : Launch} {e : Env} {R : Room} {s : State} {m : MethodId} {args : Array Value} {below : List Frame} {meth : Method} {c : Code} {H : Heap} {locs : List Loc} {cells slots : Nat} {Q : State → Prop}

variable {cc : ByteArray} {pc : Nat} {ls : Array Slot} {rest : List Value} {D : va_G} {cl : List vw_C} {A : Nat → Prop} {a : Nat} {tys : List (ClassId × FieldType)} {G : Nat → Option va_E} {H0 : Heap}
theorem mm_copyM (hexec : p.tables.exec = Jvm.exec) (hb : c.code = cc) (hml : c.maxLocals = ls.size) {own : String} {index : Nat} (hown : s.vm.findClass own = some m.cls) (hlink : (Cond.methodLink own index arraycopyName).before args s = true) (hnat : (Cond.native arraycopyName).before args s = true) (hstat : (Cond.static arraycopyName).before args s = true) (hini : (Cond.initialized "java/lang/System").before args s = true)
    (hK : va_K D cl tys s) (hG : mm D cl A G H) (hS : va_S A H0 H locs) (t0 t1 : Nat) {a0 : Nat} {c0 c1 : ClassId} {n0 n1 : Nat} {f g : Nat → Option Nat} {E0 E1 : String} (ha0 : G a0 = some (.inl (c0, n0, .inr (.inr (.inr (.inr f)))))) (ha1 : G a = some (.inl (c1, n1, .inr (.inr (.inr (.inr g)))))) (ht0 : tys[t0]? = some (c0, .object E0)) (ht1 : tys[t1]? = some (c1, .object E1))
    {sp dp n : Int32} (h1 : ¬ sp < 0) (h2 : ¬ dp < 0) (h3 : ¬ n < 0) (h4 : sp.toNatClampNeg + n.toNatClampNeg ≤ n0) (h5 : dp.toNatClampNeg + n.toNatClampNeg ≤ n1) (hel : ∀ i : Nat, i < n.toNatClampNeg → ∀ y : Nat, f (sp.toNatClampNeg + i) = some y → va_Any E1 s H y)
    (hframes : 1 ≤ R.frames) (hlocals : (rest.map fun v => v.category).sum + (nativeFrameWords "java/lang/System" "arraycopy" 5 + 11) ≤ R.locals) (hdg : decode cc pc = .ok (.invokestatic index, 3))
    (kk : ∀ (H1 : Heap) (locs1 : List Loc), mm D cl A (mm_set G a (.inl (c1, n1, .inr (.inr (.inr (.inr (va_cpy f g sp.toNatClampNeg dp.toNatClampNeg n.toNatClampNeg))))))) H1 → va_S A H0 H1 locs1 → W p l e R s m args below meth c H1 locs1 cells slots Q (F0 m (pc + 3) ls rest)) : W p l e R s m args below meth c H locs cells slots Q (F0 m pc ls (.int n :: .int dp :: .ref a :: .int sp :: .ref a0 :: rest)) := by
  obtain ⟨L, gg, rfl, hP, hD⟩ := hG
  obtain ⟨hL0, hf0⟩ := mm_of_some ha0
  obtain ⟨hL, hf⟩ := mm_of_some ha1
  obtain ⟨q0, hq0⟩ := va_pl_get (X := []) (f := gg) hL0
  obtain ⟨q, hq⟩ := va_pl_get (X := []) (f := gg) hL
  exact va_copyM hexec hb hml hown hlink hnat hstat hini hK hP hD hS q0 q t0 t1 (by rw [← hf0]; exact hq0) (by rw [← hf]; exact hq) ht0 ht1 h1 h2 h3 h4 h5 hel hframes hlocals hdg (fun H1 locs1 hP1 hD1 hS1 => kk H1 locs1 (mm_wrote hD hL hq hP1 hD1) hS1)
end MMCP
theorem g_max : ∀ h : Nat, 1 ≤ h → h ≤ 200 → (if (1 : Int32) < nI h then nI h else 1) = nI h := by
  intro h h1 h2
  by_cases hz : h = 1
  · subst hz; rfl
  · rw [if_pos (show (1 : Int32) < nI h from nI_lt (a := 1) (b := h) (by omega) (by omega))]
theorem nI_inj {a b : Nat} (ha : a < 2 ^ 31) (hb : b < 2 ^ 31) (h : nI a = nI b) : a = b := by
  have h1 := nI_clamp ha
  rw [h, nI_clamp hb] at h1
  exact h1.symm
set_option maxHeartbeats 4000000 in
set_option maxRecDepth 100000 in
theorem c_J3_checkIndex_8e157 (l : Launch) (D : va_G) (cy : Nat → ClassId) (A : Nat → Prop) (X : State → Prop) (hst : mk_St A X) (hXT : ∀ U : State, X U → TB U) (e0 : Nat) (tk : Nat → Nat) (hXE : ∀ U : State, X U → ES e0 tk A U) (G : Nat → Option va_E) (iv nv : Int32) (hi0 : ¬ iv < 0) (hin : iv < nv) : Met l yJ3_checkIndex_8e157 [.code yJ3_checkIndex_8e157 cJ3_checkIndex_8e157 3 (some .int)] ({ frames := 0, cells := 0, slots := 0, locals := 0 }) (mk_Pre D vwCl (tyL cy) A X G [.int iv, .int nv, .null]) (va_Qi (fun (r : Int32) (G2 : Nat → Option va_E) => r = iv ∧ G2 = G) (mk_B D vwCl A) A) 0 0 A := by
  refine Met.ofW (cc := cJ3_checkIndex_8e157) (maxL := 3) (ret := (some .int)) (by decide) rfl ?_
  intro p e s m args below meth c s₁ B hml hv
  obtain ⟨rfl, hG, hK, hA, hX⟩ := hv
  have hx := B.exec
  have hb := B.bytes
  have hr := B.returns
  have hlocks := B.notSynchronized
  have hT := hXT s hX
  have hown : s.vm.findClass RJ3 = some m.cls := findClass_of_methodNamed B.named
  have hS : va_S A s.heap s.heap [] := va_S.rf
  have hE := hXE s hX
  have hl := lv_entry ([.int iv, .int nv, .null]) (n := 3) (Nat.le_of_ble_eq_true rfl)
  rw [lg_entry_eq]
  generalize (lg_sl ([.int iv, .int nv, .null]) ++ List.replicate (3 - (lg_sl ([.int iv, .int nv, .null])).length) Slot.unset).toArray = ls at hl ⊢
  have hl : lv_has ls 3 [(0, .int iv), (1, .int nv), (2, .null)] := hl
  refine lv_iload_n hx hb dJ3_checkIndex_8e157_0 rfl (lv_at hl 0 rfl) ?_
  refine lv_if_lt (tgt := 9) hx hb dJ3_checkIndex_8e157_1 (by decide) (fun c_1 => ?_) (fun c_1 => ?_)
  · skip
    exact absurd c_1 hi0
  · skip
    refine lv_iload_n hx hb dJ3_checkIndex_8e157_4 rfl (lv_at hl 0 rfl) ?_
    refine lv_iload_n hx hb dJ3_checkIndex_8e157_5 rfl (lv_at hl 1 rfl) ?_
    refine lv_icmp_lt (tgt := 16) hx hb dJ3_checkIndex_8e157_6 (by decide) (fun c_6 => ?_) (fun c_6 => ?_)
    · skip
      refine lv_iload_n hx hb dJ3_checkIndex_8e157_16 rfl (lv_at hl 0 rfl) ?_
      exact W.iret (v := iv) hx hb hr (fun t ht hW => ⟨⟨_, _, rfl, ⟨rfl, rfl⟩, mk_end hG ht⟩, hS.F ht⟩) hS.2.2 dJ3_checkIndex_8e157_17
    · skip
      exact absurd hin c_6

set_option maxHeartbeats 4000000 in
set_option maxRecDepth 100000 in
theorem c_J15_checkIndex_7cf53 (l : Launch) (D : va_G) (cy : Nat → ClassId) (A : Nat → Prop) (X : State → Prop) (hst : mk_St A X) (hXT : ∀ U : State, X U → TB U) (e0 : Nat) (tk : Nat → Nat) (hXE : ∀ U : State, X U → ES e0 tk A U) (G : Nat → Option va_E) (iv nv : Int32) (hi0 : ¬ iv < 0) (hin : iv < nv) : Met l yJ15_checkIndex_7cf53 [.code yJ15_checkIndex_7cf53 cJ15_checkIndex_7cf53 2 (some .int)] ({ frames := 1, cells := 0, slots := 0, locals := 30 }) (mk_Pre D vwCl (tyL cy) A X G [.int iv, .int nv]) (va_Qi (fun (r : Int32) (G2 : Nat → Option va_E) => r = iv ∧ G2 = G) (mk_B D vwCl A) A) 0 0 A := by
  refine Met.ofW (cc := cJ15_checkIndex_7cf53) (maxL := 2) (ret := (some .int)) (by decide) rfl ?_
  intro p e s m args below meth c s₁ B hml hv
  obtain ⟨rfl, hG, hK, hA, hX⟩ := hv
  have hx := B.exec
  have hb := B.bytes
  have hr := B.returns
  have hlocks := B.notSynchronized
  have hT := hXT s hX
  have hown : s.vm.findClass RJ15 = some m.cls := findClass_of_methodNamed B.named
  have hS : va_S A s.heap s.heap [] := va_S.rf
  have hE := hXE s hX
  have hl := lv_entry ([.int iv, .int nv]) (n := 2) (Nat.le_of_ble_eq_true rfl)
  rw [lg_entry_eq]
  generalize (lg_sl ([.int iv, .int nv]) ++ List.replicate (2 - (lg_sl ([.int iv, .int nv])).length) Slot.unset).toArray = ls at hl ⊢
  have hl : lv_has ls 2 [(0, .int iv), (1, .int nv)] := hl
  refine lv_iload_n hx hb dJ15_checkIndex_7cf53_0 rfl (lv_at hl 0 rfl) ?_
  refine lv_iload_n hx hb dJ15_checkIndex_7cf53_1 rfl (lv_at hl 1 rfl) ?_
  refine lv_null hx hb dJ15_checkIndex_7cf53_2 ?_
  refine va_calli (va_runS (As := [.int iv, .int nv, .null]) (rest := []) ⟨hx, hb, hml, hown, (fun _ h9 => absurd h9 List.not_mem_nil : ∀ w ∈ ([] : List Cond), w.before _ s = true)⟩ (c_J3_checkIndex_8e157 l D cy A X hst hXT e0 tk hXE G iv nv hi0 hin) (tb_cs 3 hT tw_402 tw_119 tw_946 tw_401 rfl rfl hq_J3_checkIndex_8e157 ⟨Nat.le_of_ble_eq_true rfl, Nat.le_of_ble_eq_true rfl⟩) (mk_preS hst hG hK hA hX hS) rfl rfl hl.1 rfl (lv_room (Nat.le_of_ble_eq_true rfl)) dJ15_checkIndex_7cf53_3 ⟨Nat.le_of_ble_eq_true rfl, Nat.le_of_ble_eq_true rfl⟩) hS (fun q _ h => h) (fun q h => h) (fun r1 G2 t H locs ht hvm hw hB hz1 hk1 hS => ?_)
  have hG : mm D vwCl A G2 H := by rw [← ht]; exact hB
  clear hB hz1 hk1 hvm ht
  obtain ⟨er1, hw⟩ := hw
  rw [hw] at hG
  exact W.iret (v := r1) hx hb hr (fun t ht hW => ⟨⟨_, _, rfl, ⟨er1, rfl⟩, mk_end hG ht⟩, hS.F ht⟩) hS.2.2 dJ15_checkIndex_7cf53_6

set_option maxHeartbeats 4000000 in
set_option maxRecDepth 100000 in
theorem c_AL_size (l : Launch) (D : va_G) (cy : Nat → ClassId) (A : Nat → Prop) (X : State → Prop) (hst : mk_St A X) (hXT : ∀ U : State, X U → TB U) (e0 : Nat) (tk : Nat → Nat) (hXE : ∀ U : State, X U → ES e0 tk A U) (G : Nat → Option va_E) (al ea : Nat) (mo : Int32) (n : Nat) (h0 : G al = some (.inr (1, [.int mo, .ref ea, .int (nI n)]))) : Met l yJx4a65c_size_8abf5 [.code yJx4a65c_size_8abf5 cJx4a65c_size_8abf5 1 (some .int)] ({ frames := 0, cells := 0, slots := 0, locals := 0 }) (mk_Pre D vwCl (tyL cy) A X G [.ref al]) (va_Qi (fun (r : Int32) (G2 : Nat → Option va_E) => r = nI n ∧ G2 = G) (mk_B D vwCl A) A) 0 0 A := by
  refine Met.ofW (cc := cJx4a65c_size_8abf5) (maxL := 1) (ret := (some .int)) (by decide) rfl ?_
  intro p e s m args below meth c s₁ B hml hv
  obtain ⟨rfl, hG, hK, hA, hX⟩ := hv
  have hx := B.exec
  have hb := B.bytes
  have hr := B.returns
  have hlocks := B.notSynchronized
  have hT := hXT s hX
  have hown : s.vm.findClass RJx4a65c = some m.cls := findClass_of_methodNamed B.named
  have hf_Jx4a65c : ∀ w ∈ u_ws RJx4a65c TJx4a65c 3, w.before ([.ref al] : List Value).toArray s = true := tb_list hT fJx4a65c
  have hS : va_S A s.heap s.heap [] := va_S.rf
  have hE := hXE s hX
  have hl := lv_entry ([.ref al]) (n := 1) (Nat.le_of_ble_eq_true rfl)
  rw [lg_entry_eq]
  generalize (lg_sl ([.ref al]) ++ List.replicate (1 - (lg_sl ([.ref al])).length) Slot.unset).toArray = ls at hl ⊢
  have hl : lv_has ls 1 [(0, .ref al)] := hl
  refine lv_aload_n hx hb dJx4a65c_size_8abf5_0 rfl (lv_at hl 0 rfl) ?_
  refine mm_get (v := .int (nI n)) hx hb hf_Jx4a65c (fun _ h9 => h9) hown hK hG h0 rfl 2 (by decide) (tb_use hT tw_267) (fun _ h9 => h9) rfl dJx4a65c_size_8abf5_1 ?_
  exact W.iret (v := (nI n)) hx hb hr (fun t ht hW => ⟨⟨_, _, rfl, ⟨rfl, rfl⟩, mk_end hG ht⟩, hS.F ht⟩) hS.2.2 dJx4a65c_size_8abf5_4

set_option maxHeartbeats 4000000 in
set_option maxRecDepth 100000 in
theorem c_AL_elementData (l : Launch) (D : va_G) (cy : Nat → ClassId) (A : Nat → Prop) (X : State → Prop) (hst : mk_St A X) (hXT : ∀ U : State, X U → TB U) (e0 : Nat) (tk : Nat → Nat) (hXE : ∀ U : State, X U → ES e0 tk A U) (G : Nat → Option va_E) (al ea : Nat) (mo : Int32) (n cap : Nat) (gv : Nat → Option Nat) (j : Nat) (h0 : G al = some (.inr (1, [.int mo, .ref ea, .int (nI n)]))) (h1 : G ea = some (.inl (cy 4, cap, .inr (.inr (.inr (.inr gv)))))) (hjn : j < n) (hnc : n ≤ cap) (hcap : cap < 2 ^ 31) : Met l yJx4a65c_elementData_915e3 [.code yJx4a65c_elementData_915e3 cJx4a65c_elementData_915e3 2 (some (.object "java/lang/Object"))] ({ frames := 0, cells := 0, slots := 0, locals := 0 }) (mk_Pre D vwCl (tyL cy) A X G [.ref al, .int (nI j)]) (va_Qq (fun (r : Option Nat) (G2 : Nat → Option va_E) => r = gv j ∧ G2 = G) (mk_B D vwCl A) A) 0 0 A := by
  refine Met.ofW (cc := cJx4a65c_elementData_915e3) (maxL := 2) (ret := (some (.object "java/lang/Object"))) (by decide) rfl ?_
  intro p e s m args below meth c s₁ B hml hv
  obtain ⟨rfl, hG, hK, hA, hX⟩ := hv
  have hx := B.exec
  have hb := B.bytes
  have hr := B.returns
  have hlocks := B.notSynchronized
  have hT := hXT s hX
  have hown : s.vm.findClass RJx4a65c = some m.cls := findClass_of_methodNamed B.named
  have hf_Jx4a65c : ∀ w ∈ u_ws RJx4a65c TJx4a65c 3, w.before ([.ref al, .int (nI j)] : List Value).toArray s = true := tb_list hT fJx4a65c
  have hS : va_S A s.heap s.heap [] := va_S.rf
  have hE := hXE s hX
  have hl := lv_entry ([.ref al, .int (nI j)]) (n := 2) (Nat.le_of_ble_eq_true rfl)
  rw [lg_entry_eq]
  generalize (lg_sl ([.ref al, .int (nI j)]) ++ List.replicate (2 - (lg_sl ([.ref al, .int (nI j)])).length) Slot.unset).toArray = ls at hl ⊢
  have hl : lv_has ls 2 [(0, .ref al), (1, .int (nI j))] := hl
  refine lv_aload_n hx hb dJx4a65c_elementData_915e3_0 rfl (lv_at hl 0 rfl) ?_
  refine mm_get (v := .ref ea) hx hb hf_Jx4a65c (fun _ h9 => h9) hown hK hG h0 rfl 1 (by decide) (tb_use hT tw_266) (fun _ h9 => h9) rfl dJx4a65c_elementData_915e3_1 ?_
  refine lv_iload_n hx hb dJx4a65c_elementData_915e3_4 rfl (lv_at hl 1 rfl) ?_
  refine mm_aald hx hb hK hG 4 h1 rfl (nI_in (N := cap) (by omega) (by omega)) dJx4a65c_elementData_915e3_5 ?_
  exact W.aret (v := va_rf (gv (nI j).toNatClampNeg)) hx hb hr (Or.inl ⟨_, rfl⟩) (va_rf_or _) (fun t ht hW => ⟨⟨(gv (nI j).toNatClampNeg), _, rfl, ⟨(by rw [nI_clamp (by omega)]), rfl⟩, mk_end hG ht⟩, hS.F ht⟩) hS.2.2 dJx4a65c_elementData_915e3_6

set_option maxHeartbeats 4000000 in
set_option maxRecDepth 100000 in
theorem c_AL_get (l : Launch) (D : va_G) (cy : Nat → ClassId) (A : Nat → Prop) (X : State → Prop) (hst : mk_St A X) (hXT : ∀ U : State, X U → TB U) (e0 : Nat) (tk : Nat → Nat) (hXE : ∀ U : State, X U → ES e0 tk A U) (G : Nat → Option va_E) (al ea : Nat) (mo : Int32) (n cap : Nat) (gv : Nat → Option Nat) (j : Nat) (h0 : G al = some (.inr (1, [.int mo, .ref ea, .int (nI n)]))) (h1 : G ea = some (.inl (cy 4, cap, .inr (.inr (.inr (.inr gv)))))) (hjn : j < n) (hnc : n ≤ cap) (hcap : cap < 2 ^ 31) : Met l yJx4a65c_get_915e3 [.code yJx4a65c_get_915e3 cJx4a65c_get_915e3 2 (some (.object "java/lang/Object"))] ({ frames := 2, cells := 0, slots := 0, locals := 60 }) (mk_Pre D vwCl (tyL cy) A X G [.ref al, .int (nI j)]) (va_Qq (fun (r : Option Nat) (G2 : Nat → Option va_E) => r = gv j ∧ G2 = G) (mk_B D vwCl A) A) 0 0 A := by
  refine Met.ofW (cc := cJx4a65c_get_915e3) (maxL := 2) (ret := (some (.object "java/lang/Object"))) (by decide) rfl ?_
  intro p e s m args below meth c s₁ B hml hv
  obtain ⟨rfl, hG, hK, hA, hX⟩ := hv
  have hx := B.exec
  have hb := B.bytes
  have hr := B.returns
  have hlocks := B.notSynchronized
  have hT := hXT s hX
  have hown : s.vm.findClass RJx4a65c = some m.cls := findClass_of_methodNamed B.named
  have hf_Jx4a65c : ∀ w ∈ u_ws RJx4a65c TJx4a65c 3, w.before ([.ref al, .int (nI j)] : List Value).toArray s = true := tb_list hT fJx4a65c
  have hS : va_S A s.heap s.heap [] := va_S.rf
  have hE := hXE s hX
  have hl := lv_entry ([.ref al, .int (nI j)]) (n := 2) (Nat.le_of_ble_eq_true rfl)
  rw [lg_entry_eq]
  generalize (lg_sl ([.ref al, .int (nI j)]) ++ List.replicate (2 - (lg_sl ([.ref al, .int (nI j)])).length) Slot.unset).toArray = ls at hl ⊢
  have hl : lv_has ls 2 [(0, .ref al), (1, .int (nI j))] := hl
  refine lv_iload_n hx hb dJx4a65c_get_915e3_0 rfl (lv_at hl 1 rfl) ?_
  refine lv_aload_n hx hb dJx4a65c_get_915e3_1 rfl (lv_at hl 0 rfl) ?_
  refine mm_get (v := .int (nI n)) hx hb hf_Jx4a65c (fun _ h9 => h9) hown hK hG h0 rfl 2 (by decide) (tb_use hT tw_267) (fun _ h9 => h9) rfl dJx4a65c_get_915e3_2 ?_
  refine va_calli (va_runS (As := [.int (nI j), .int (nI n)]) (rest := []) ⟨hx, hb, hml, hown, (fun _ h9 => absurd h9 List.not_mem_nil : ∀ w ∈ ([] : List Cond), w.before _ s = true)⟩ (c_J15_checkIndex_7cf53 l D cy A X hst hXT e0 tk hXE G (nI j) (nI n) (nI_pos (by omega)) (nI_lt hjn (by omega))) (tb_cs 2 hT tw_945 tw_132 tw_943 tw_944 rfl rfl hq_J15_checkIndex_7cf53 ⟨Nat.le_of_ble_eq_true rfl, Nat.le_of_ble_eq_true rfl⟩) (mk_preS hst hG hK hA hX hS) rfl rfl hl.1 rfl (lv_room (Nat.le_of_ble_eq_true rfl)) dJx4a65c_get_915e3_5 ⟨Nat.le_of_ble_eq_true rfl, Nat.le_of_ble_eq_true rfl⟩) hS (fun q _ h => h) (fun q h => h) (fun r1 G2 t H locs ht hvm hw hB hz1 hk1 hS => ?_)
  have hG : mm D vwCl A G2 H := by rw [← ht]; exact hB
  clear hB hz1 hk1 hvm ht
  obtain ⟨er1, hw⟩ := hw
  rw [hw] at hG
  refine lv_pop hx hb dJx4a65c_get_915e3_8 rfl ?_
  refine lv_aload_n hx hb dJx4a65c_get_915e3_9 rfl (lv_at hl 0 rfl) ?_
  refine lv_iload_n hx hb dJx4a65c_get_915e3_10 rfl (lv_at hl 1 rfl) ?_
  refine va_callq (va_runV (As := [.int (nI j)]) (rest := []) ⟨hx, hb, hml, hown, (fun _ h9 => absurd h9 List.not_mem_nil : ∀ w ∈ ([] : List Cond), w.before _ s = true)⟩ (c_AL_elementData l D cy A X hst hXT e0 tk hXE G al ea mo n cap gv j h0 h1 hjn hnc hcap) (tb_cw (C := RJx4a65c) 1 hT tw_950 tw_113 tw_947 tw_948 tw_949 rfl rfl hq_Jx4a65c_elementData_915e3 ⟨Nat.le_of_ble_eq_true rfl, Nat.le_of_ble_eq_true rfl⟩) (mk_preC hst hG hK hA hX hS vc_1 h0) rfl rfl hl.1 rfl (lv_room (Nat.le_of_ble_eq_true rfl)) dJx4a65c_get_915e3_11 ⟨Nat.le_of_ble_eq_true rfl, Nat.le_of_ble_eq_true rfl⟩) hS (fun q _ h => h) (fun q h => h) (fun r3 G4 t H locs ht hvm hw hB hz1 hk1 hS => ?_)
  have hG : mm D vwCl A G4 H := by rw [← ht]; exact hB
  clear hB hz1 hk1 hvm ht
  obtain ⟨er3, hw⟩ := hw
  rw [hw] at hG
  exact W.aret (v := va_rf r3) hx hb hr (Or.inl ⟨_, rfl⟩) (va_rf_or _) (fun t ht hW => ⟨⟨r3, _, rfl, ⟨er3, rfl⟩, mk_end hG ht⟩, hS.F ht⟩) hS.2.2 dJx4a65c_get_915e3_14

set_option maxHeartbeats 4000000 in
set_option maxRecDepth 100000 in
theorem c_AL_add3 (l : Launch) (D : va_G) (cy : Nat → ClassId) (A : Nat → Prop) (X : State → Prop) (hst : mk_St A X) (hXT : ∀ U : State, X U → TB U) (e0 : Nat) (tk : Nat → Nat) (hXE : ∀ U : State, X U → ES e0 tk A U) (G : Nat → Option va_E) (al ea : Nat) (mo : Int32) (n cap : Nat) (gv : Nat → Option Nat) (xv ci : Nat) (fx : List Value) (rr : vw_C) (h0 : G al = some (.inr (1, [.int mo, .ref ea, .int (nI n)]))) (h1 : G ea = some (.inl (cy 4, cap, .inr (.inr (.inr (.inr gv)))))) (hxv : G xv = some (.inr (ci, fx))) (hvr : vwCl[ci]? = some rr) (hci : ci ≠ 1) (hcas : Cond.castable rr.1 "java/lang/Object" ∈ lw_tbl) (hnc : n < cap) (hcap : cap < 2 ^ 31) : Met l yJx4a65c_add_72be8 [.code yJx4a65c_add_72be8 cJx4a65c_add_72be8 4 none] ({ frames := 0, cells := 0, slots := 0, locals := 0 }) (mk_Pre D vwCl (tyL cy) A X G [.ref al, .ref xv, .ref ea, .int (nI n)]) (va_Qv (fun (G2 : Nat → Option va_E) => G2 al = some (.inr (1, [.int mo, .ref ea, .int (nI (n + 1))])) ∧ G2 ea = some (.inl (cy 4, cap, .inr (.inr (.inr (.inr (va_up gv n (some xv))))))) ∧ ∀ (x : Nat) (e : va_E), G x = some e → x ≠ al → x ≠ ea → G2 x = some e) (mk_B D vwCl A) A) 0 0 A := by
  refine Met.ofW (cc := cJx4a65c_add_72be8) (maxL := 4) (ret := none) (by decide) rfl ?_
  intro p e s m args below meth c s₁ B hml hv
  obtain ⟨rfl, hG, hK, hA, hX⟩ := hv
  have hx := B.exec
  have hb := B.bytes
  have hr := B.returns
  have hlocks := B.notSynchronized
  have hT := hXT s hX
  have hown : s.vm.findClass RJx4a65c = some m.cls := findClass_of_methodNamed B.named
  have hf_Jx4a65c : ∀ w ∈ u_ws RJx4a65c TJx4a65c 3, w.before ([.ref al, .ref xv, .ref ea, .int (nI n)] : List Value).toArray s = true := tb_list hT fJx4a65c
  have hS : va_S A s.heap s.heap [] := va_S.rf
  have hE := hXE s hX
  have hl := lv_entry ([.ref al, .ref xv, .ref ea, .int (nI n)]) (n := 4) (Nat.le_of_ble_eq_true rfl)
  rw [lg_entry_eq]
  generalize (lg_sl ([.ref al, .ref xv, .ref ea, .int (nI n)]) ++ List.replicate (4 - (lg_sl ([.ref al, .ref xv, .ref ea, .int (nI n)])).length) Slot.unset).toArray = ls at hl ⊢
  have hl : lv_has ls 4 [(0, .ref al), (1, .ref xv), (2, .ref ea), (3, .int (nI n))] := hl
  refine lv_iload_n hx hb dJx4a65c_add_72be8_0 rfl (lv_at hl 3 rfl) ?_
  refine lv_aload_n hx hb dJx4a65c_add_72be8_1 rfl (lv_at hl 2 rfl) ?_
  refine mm_alen (v := (nI cap)) hx hb hK hG 4 h1 rfl rfl dJx4a65c_add_72be8_2 ?_
  refine lv_icmp_ne (tgt := 11) hx hb dJx4a65c_add_72be8_3 (by decide) (fun c_3 => ?_) (fun c_3 => ?_)
  · skip
    refine lv_aload_n hx hb dJx4a65c_add_72be8_11 rfl (lv_at hl 2 rfl) ?_
    refine lv_iload_n hx hb dJx4a65c_add_72be8_12 rfl (lv_at hl 3 rfl) ?_
    refine lv_aload_n hx hb dJx4a65c_add_72be8_13 rfl (lv_at hl 1 rfl) ?_
    refine mm_aastO hx hb hK hG hS 4 ci h1 rfl (hT _ hcas rfl) hxv hvr (nI_in (N := cap) (by omega) (by omega)) dJx4a65c_add_72be8_14 (fun H locs hG hS => ?_)
    obtain ⟨G1, eG1⟩ : ∃ g, g = mm_set G ea (.inl (cy 4, cap, .inr (.inr (.inr (.inr (va_up gv (nI n).toNatClampNeg (some xv))))))) := ⟨_, rfl⟩
    have hG : mm D vwCl A G1 H := by rw [eG1]; exact hG
    have k2 : G1 al = some (.inr (1, [.int mo, .ref ea, .int (nI n)])) := by rw [eG1]; exact mm_set_of h0 (mm_ne_oa h0 h1)
    have k3 : G1 ea = some (.inl (cy 4, cap, .inr (.inr (.inr (.inr (va_up gv (nI n).toNatClampNeg (some xv))))))) := by rw [eG1]; exact mm_set_self
    have k4 : G1 xv = some (.inr (ci, fx)) := by rw [eG1]; exact mm_set_of hxv (mm_ne_oa hxv h1)
    refine lv_aload_n hx hb dJx4a65c_add_72be8_15 rfl (lv_at hl 0 rfl) ?_
    refine lv_iload_n hx hb dJx4a65c_add_72be8_16 rfl (lv_at hl 3 rfl) ?_
    refine lv_iconst (v := 1) hx hb dJx4a65c_add_72be8_17 (by decide) ?_
    refine lv_iadd hx hb dJx4a65c_add_72be8_18 ?_
    refine lv_topi (fun x5 ex5 => ?_)
    refine mm_put (v := .int x5) (ty := .int) hx hb hf_Jx4a65c (fun _ h9 => h9) tyJx4a65c tyJx4a65c_ok nmJx4a65c hown hK hG hS k2 rfl 2 (by decide) (tb_use hT tw_267) (fun _ h9 => h9) rfl (by decide +kernel) rfl rfl (Nat.le_of_ble_eq_true rfl) dJx4a65c_add_72be8_19 (fun H locs hG hS => ?_)
    obtain ⟨G6, eG6⟩ : ∃ g, g = mm_set G1 al (.inr (1, [.int mo, .ref ea, .int x5])) := ⟨_, rfl⟩
    have hG : mm D vwCl A G6 H := by rw [eG6]; exact hG
    have k7 : G6 al = some (.inr (1, [.int mo, .ref ea, .int x5])) := by rw [eG6]; exact mm_set_self
    have k8 : G6 ea = some (.inl (cy 4, cap, .inr (.inr (.inr (.inr (va_up gv (nI n).toNatClampNeg (some xv))))))) := by rw [eG6]; exact mm_set_of k3 (mm_ne_ao k3 k2)
    have k9 : G6 xv = some (.inr (ci, fx)) := by rw [eG6]; exact mm_set_of k4 (mm_ne_oo k4 k2 hci)
    have hfr : ∀ (x : Nat) (e : va_E), G x = some e → x ≠ al → x ≠ ea → G6 x = some e := by
      intro x e z0 n_al n_ea
      have z1 : G1 x = some e := by rw [eG1]; exact mm_set_of z0 n_ea
      have z2 : G6 x = some e := by rw [eG6]; exact mm_set_of z1 n_al
      exact z2
    exact W.vret hx hb hr (fun t ht hW => ⟨⟨_, rfl, ⟨(by rw [nI_succ, ← ex5]; exact k7), (by have z := k8; rw [nI_clamp (by omega)] at z; exact z), hfr⟩, mk_end hG ht⟩, hS.F ht⟩) hS.2.2 dJx4a65c_add_72be8_22
  · skip
    exact absurd (nI_inj (by omega) hcap c_3) (by omega)

set_option maxHeartbeats 4000000 in
set_option maxRecDepth 100000 in
theorem c_AL_addR (l : Launch) (D : va_G) (cy : Nat → ClassId) (A : Nat → Prop) (X : State → Prop) (hst : mk_St A X) (hXT : ∀ U : State, X U → TB U) (e0 : Nat) (tk : Nat → Nat) (hXE : ∀ U : State, X U → ES e0 tk A U) (G : Nat → Option va_E) (al ea : Nat) (mo : Int32) (n cap : Nat) (gv : Nat → Option Nat) (xv ci : Nat) (fx : List Value) (rr : vw_C) (h0 : G al = some (.inr (1, [.int mo, .ref ea, .int (nI n)]))) (h1 : G ea = some (.inl (cy 4, cap, .inr (.inr (.inr (.inr gv)))))) (hxv : G xv = some (.inr (ci, fx))) (hvr : vwCl[ci]? = some rr) (hci : ci ≠ 1) (hcas : Cond.castable rr.1 "java/lang/Object" ∈ lw_tbl) (hnc : n < cap) (hcap : cap < 2 ^ 31) : Met l yJx4a65c_add_9ea2d [.code yJx4a65c_add_9ea2d cJx4a65c_add_9ea2d 2 (some .boolean)] ({ frames := 2, cells := 0, slots := 0, locals := 60 }) (mk_Pre D vwCl (tyL cy) A X G [.ref al, .ref xv]) (va_Qi (fun (r : Int32) (G2 : Nat → Option va_E) => G2 al = some (.inr (1, [.int (mo + 1), .ref ea, .int (nI (n + 1))])) ∧ G2 ea = some (.inl (cy 4, cap, .inr (.inr (.inr (.inr (va_up gv n (some xv))))))) ∧ ∀ (x : Nat) (e : va_E), G x = some e → x ≠ al → x ≠ ea → G2 x = some e) (mk_B D vwCl A) A) 0 0 A := by
  refine Met.ofW (cc := cJx4a65c_add_9ea2d) (maxL := 2) (ret := (some .boolean)) (by decide) rfl ?_
  intro p e s m args below meth c s₁ B hml hv
  obtain ⟨rfl, hG, hK, hA, hX⟩ := hv
  have hx := B.exec
  have hb := B.bytes
  have hr := B.returns
  have hlocks := B.notSynchronized
  have hT := hXT s hX
  have hown : s.vm.findClass RJx4a65c = some m.cls := findClass_of_methodNamed B.named
  have hf_Jx4a65c : ∀ w ∈ u_ws RJx4a65c TJx4a65c 3, w.before ([.ref al, .ref xv] : List Value).toArray s = true := tb_list hT fJx4a65c
  have hS : va_S A s.heap s.heap [] := va_S.rf
  have hE := hXE s hX
  have hl := lv_entry ([.ref al, .ref xv]) (n := 2) (Nat.le_of_ble_eq_true rfl)
  rw [lg_entry_eq]
  generalize (lg_sl ([.ref al, .ref xv]) ++ List.replicate (2 - (lg_sl ([.ref al, .ref xv])).length) Slot.unset).toArray = ls at hl ⊢
  have hl : lv_has ls 2 [(0, .ref al), (1, .ref xv)] := hl
  refine lv_aload_n hx hb dJx4a65c_add_9ea2d_0 rfl (lv_at hl 0 rfl) ?_
  refine lv_dup hx hb dJx4a65c_add_9ea2d_1 rfl ?_
  refine mm_get (v := .int mo) hx hb hf_Jx4a65c (fun _ h9 => h9) hown hK hG h0 rfl 0 (by decide) (tb_use hT tw_269) (u_same (args := #[]) (tb_use hT tw_270)) rfl dJx4a65c_add_9ea2d_2 ?_
  refine lv_iconst (v := 1) hx hb dJx4a65c_add_9ea2d_5 (by decide) ?_
  refine lv_iadd hx hb dJx4a65c_add_9ea2d_6 ?_
  refine lv_topi (fun x1 ex1 => ?_)
  refine mm_put (v := .int x1) (ty := .int) hx hb hf_Jx4a65c (fun _ h9 => h9) tyJx4a65c tyJx4a65c_ok nmJx4a65c hown hK hG hS h0 rfl 0 (by decide) (tb_use hT tw_269) (u_same (args := #[]) (tb_use hT tw_270)) rfl (by decide +kernel) rfl rfl (Nat.le_of_ble_eq_true rfl) dJx4a65c_add_9ea2d_7 (fun H locs hG hS => ?_)
  obtain ⟨G2, eG2⟩ : ∃ g, g = mm_set G al (.inr (1, [.int x1, .ref ea, .int (nI n)])) := ⟨_, rfl⟩
  have hG : mm D vwCl A G2 H := by rw [eG2]; exact hG
  have k3 : G2 al = some (.inr (1, [.int x1, .ref ea, .int (nI n)])) := by rw [eG2]; exact mm_set_self
  have k4 : G2 ea = some (.inl (cy 4, cap, .inr (.inr (.inr (.inr gv))))) := by rw [eG2]; exact mm_set_of h1 (mm_ne_ao h1 h0)
  have k5 : G2 xv = some (.inr (ci, fx)) := by rw [eG2]; exact mm_set_of hxv (mm_ne_oo hxv h0 hci)
  refine lv_aload_n hx hb dJx4a65c_add_9ea2d_10 rfl (lv_at hl 0 rfl) ?_
  refine lv_aload_n hx hb dJx4a65c_add_9ea2d_11 rfl (lv_at hl 1 rfl) ?_
  refine lv_aload_n hx hb dJx4a65c_add_9ea2d_12 rfl (lv_at hl 0 rfl) ?_
  refine mm_get (v := .ref ea) hx hb hf_Jx4a65c (fun _ h9 => h9) hown hK hG k3 rfl 1 (by decide) (tb_use hT tw_266) (fun _ h9 => h9) rfl dJx4a65c_add_9ea2d_13 ?_
  refine lv_aload_n hx hb dJx4a65c_add_9ea2d_16 rfl (lv_at hl 0 rfl) ?_
  refine mm_get (v := .int (nI n)) hx hb hf_Jx4a65c (fun _ h9 => h9) hown hK hG k3 rfl 2 (by decide) (tb_use hT tw_267) (fun _ h9 => h9) rfl dJx4a65c_add_9ea2d_17 ?_
  refine va_callv (va_runV (As := [.ref xv, .ref ea, .int (nI n)]) (rest := []) ⟨hx, hb, hml, hown, (fun _ h9 => absurd h9 List.not_mem_nil : ∀ w ∈ ([] : List Cond), w.before _ s = true)⟩ (c_AL_add3 l D cy A X hst hXT e0 tk hXE G2 al ea x1 n cap gv xv ci fx rr k3 k4 k5 hvr hci hcas hnc hcap) (tb_cw (C := RJx4a65c) 3 hT tw_601 tw_113 tw_598 tw_600 tw_17 rfl rfl hq_Jx4a65c_add_72be8 ⟨Nat.le_of_ble_eq_true rfl, Nat.le_of_ble_eq_true rfl⟩) (mk_preC hst hG hK hA hX hS vc_1 k3) rfl rfl hl.1 rfl (lv_room (Nat.le_of_ble_eq_true rfl)) dJx4a65c_add_9ea2d_20 ⟨Nat.le_of_ble_eq_true rfl, Nat.le_of_ble_eq_true rfl⟩) hS (fun q _ h => h) (fun q h => h) (fun  G6 t H locs ht hvm hw hB hz1 hk1 hS => ?_)
  have hG : mm D vwCl A G6 H := by rw [← ht]; exact hB
  clear hB hz1 hk1 hvm ht
  obtain ⟨h7_1, h7_2, h7_f⟩ := hw
  have k8 : G6 xv = some (.inr (ci, fx)) := h7_f _ _ k5 (mm_ne_oo k5 k3 hci) (mm_ne_oa k5 k4)
  refine lv_iconst (v := 1) hx hb dJx4a65c_add_9ea2d_23 (by decide) ?_
  have hfr : ∀ (x : Nat) (e : va_E), G x = some e → x ≠ al → x ≠ ea → G6 x = some e := by
    intro x e z0 n_al n_ea
    have z1 : G2 x = some e := by rw [eG2]; exact mm_set_of z0 n_al
    have z2 : G6 x = some e := h7_f x e z1 n_al n_ea
    exact z2
  exact W.zret (v := 1) hx hb hr rfl (fun t ht hW => ⟨⟨_, _, rfl, ⟨(by rw [← ex1]; exact h7_1), h7_2, hfr⟩, mk_end hG ht⟩, hS.F ht⟩) hS.2.2 dJx4a65c_add_9ea2d_24

set_option maxHeartbeats 4000000 in
set_option maxRecDepth 100000 in
theorem c_AL_grow2A (l : Launch) (D : va_G) (cy : Nat → ClassId) (A : Nat → Prop) (X : State → Prop) (hst : mk_St A X) (hXT : ∀ U : State, X U → TB U) (e0 : Nat) (tk : Nat → Nat) (hXE : ∀ U : State, X U → ES e0 tk A U) (mi : Nat) (hXL : ∀ U : State, X U → EL e0 mi A U) (G : Nat → Option va_E) (al : Nat) (mo : Int32) (h0 : G al = some (.inr (1, [.int mo, .ref e0, .int 0]))) : Met l yJx4a65c_grow_92f84 [.code yJx4a65c_grow_92f84 cJx4a65c_grow_92f84 4 (some (.array (.object "java/lang/Object")))] ({ frames := 1, cells := 1, slots := 10, locals := 30 }) (mk_Pre D vwCl (tyL cy) A X G [.ref al, .int 1]) (va_Qq (fun (r : Option Nat) (G2 : Nat → Option va_E) => ∃ qa : Nat, r = some qa ∧ G qa = none ∧ G2 al = some (.inr (1, [.int mo, .ref qa, .int 0])) ∧ G2 qa = some (.inl (cy 4, 10, .inr (.inr (.inr (.inr (fun _ => none)))))) ∧ ∀ (x : Nat) (e : va_E), G x = some e → x ≠ al → G2 x = some e) (mk_B D vwCl A) A) 1 10 A := by
  refine Met.ofW (cc := cJx4a65c_grow_92f84) (maxL := 4) (ret := (some (.array (.object "java/lang/Object")))) (by decide) rfl ?_
  intro p e s m args below meth c s₁ B hml hv
  obtain ⟨rfl, hG, hK, hA, hX⟩ := hv
  have hx := B.exec
  have hb := B.bytes
  have hr := B.returns
  have hlocks := B.notSynchronized
  have hT := hXT s hX
  have hown : s.vm.findClass RJx4a65c = some m.cls := findClass_of_methodNamed B.named
  have hf_Jx4a65c : ∀ w ∈ u_ws RJx4a65c TJx4a65c 3, w.before ([.ref al, .int 1] : List Value).toArray s = true := tb_list hT fJx4a65c
  have hS : va_S A s.heap s.heap [] := va_S.rf
  have hE := hXE s hX
  have hl := lv_entry ([.ref al, .int 1]) (n := 4) (Nat.le_of_ble_eq_true rfl)
  rw [lg_entry_eq]
  generalize (lg_sl ([.ref al, .int 1]) ++ List.replicate (4 - (lg_sl ([.ref al, .int 1])).length) Slot.unset).toArray = ls at hl ⊢
  have hl : lv_has ls 4 [(0, .ref al), (1, .int 1)] := hl
  refine lv_aload_n hx hb dJx4a65c_grow_92f84_0 rfl (lv_at hl 0 rfl) ?_
  refine mm_get (v := .ref e0) hx hb hf_Jx4a65c (fun _ h9 => h9) hown hK hG h0 rfl 1 (by decide) (tb_use hT tw_266) (fun _ h9 => h9) rfl dJx4a65c_grow_92f84_1 ?_
  refine va_tlen (v := 0) hx hb (hXL s hX).1 hS rfl dJx4a65c_grow_92f84_4 ?_
  refine lv_istore_n (lv' := [(2, .int 0), (0, .ref al), (1, .int 1)]) hx hb dJx4a65c_grow_92f84_5 rfl hl (by decide) rfl (fun ls hl => ?_)
  refine lv_iload_n hx hb dJx4a65c_grow_92f84_6 rfl (lv_at hl 0 rfl) ?_
  refine lv_if_gt (tgt := 20) hx hb dJx4a65c_grow_92f84_7 (by decide) (fun c_7 => ?_) (fun c_7 => ?_)
  · skip
    exact absurd c_7 (by decide)
  · skip
    refine lv_aload_n hx hb dJx4a65c_grow_92f84_10 rfl (lv_at hl 1 rfl) ?_
    refine mm_get (v := .ref e0) hx hb hf_Jx4a65c (fun _ h9 => h9) hown hK hG h0 rfl 1 (by decide) (tb_use hT tw_266) (fun _ h9 => h9) rfl dJx4a65c_grow_92f84_11 ?_
    refine va_gets (v := .ref e0) hx hb hE.1 hS hown (tb_use hT tw_264) (fun _ h9 => h9) dJx4a65c_grow_92f84_14 ?_
    refine lv_acmp_eq (rx := some e0) (ry := some e0) (tgt := 45) hx hb dJx4a65c_grow_92f84_17 (by decide) (fun c_17 => ?_) (fun c_17 => ?_)
    · skip
      refine lv_aload_n hx hb dJx4a65c_grow_92f84_45 rfl (lv_at hl 1 rfl) ?_
      refine lv_bipush (v := 10) hx hb dJx4a65c_grow_92f84_46 (by decide) ?_
      refine lv_iload_n hx hb dJx4a65c_grow_92f84_48 rfl (lv_at hl 2 rfl) ?_
      refine va_mmax (x := 10) (y := 1) hx hb (by rw [hml]; exact hl.1.symm) hown (tb_use hT tw_653) (tb_use hT tw_614) (tb_use hT tw_114) (tb_use hT tw_615) (Nat.le_of_ble_eq_true rfl) (Nat.le_of_ble_eq_true rfl) (by exact Nat.zero_le _) (by exact Nat.zero_le _) dJx4a65c_grow_92f84_49 ?_
      rw [show (if (10 : Int32) < 1 then (1 : Int32) else 10) = 10 from rfl]
      refine mm_newq (n := 10) (N' := 10) hx hb hown (tb_use hT tw_654) (hT _ tw_647 rfl) hK hG hS hA 4 rfl (by decide) (by decide) (by decide) (by exact Nat.le_of_ble_eq_true rfl) (by exact Nat.le_of_ble_eq_true rfl) dJx4a65c_grow_92f84_52 (fun q1 H hn_q1 hG hS => ?_)
      obtain ⟨G2, eG2⟩ : ∃ g, g = mm_set G q1 (.inl (cy 4, 10, .inr (.inr (.inr (.inr (fun _ => none)))))) := ⟨_, rfl⟩
      have hG : mm D vwCl A G2 H := by rw [eG2]; exact hG
      have k3 : G2 al = some (.inr (1, [.int mo, .ref e0, .int 0])) := by rw [eG2]; exact mm_set_new h0 hn_q1
      have k4 : G2 q1 = some (.inl (cy 4, 10, .inr (.inr (.inr (.inr (fun _ => none)))))) := by rw [eG2]; exact mm_set_self
      refine lv_dup_x1 hx hb dJx4a65c_grow_92f84_55 rfl rfl ?_
      refine mm_put (v := .ref q1) (ty := .array (.object "java/lang/Object")) hx hb hf_Jx4a65c (fun _ h9 => h9) tyJx4a65c tyJx4a65c_ok nmJx4a65c hown hK hG hS k3 rfl 1 (by decide) (tb_use hT tw_266) (fun _ h9 => h9) rfl (by decide +kernel) rfl rfl (Nat.le_of_ble_eq_true rfl) dJx4a65c_grow_92f84_56 (fun H locs hG hS => ?_)
      obtain ⟨G5, eG5⟩ : ∃ g, g = mm_set G2 al (.inr (1, [.int mo, .ref q1, .int 0])) := ⟨_, rfl⟩
      have hG : mm D vwCl A G5 H := by rw [eG5]; exact hG
      have k6 : G5 al = some (.inr (1, [.int mo, .ref q1, .int 0])) := by rw [eG5]; exact mm_set_self
      have k7 : G5 q1 = some (.inl (cy 4, 10, .inr (.inr (.inr (.inr (fun _ => none)))))) := by rw [eG5]; exact mm_set_of k4 (mm_ne_ao k4 k3)
      have hfr : ∀ (x : Nat) (e : va_E), G x = some e → x ≠ al → G5 x = some e := by
        intro x e z0 n_al
        have n_q1 : x ≠ q1 := fun z => by rw [z, hn_q1] at z0; cases z0
        have z1 : G2 x = some e := by rw [eG2]; exact mm_set_of z0 n_q1
        have z2 : G5 x = some e := by rw [eG5]; exact mm_set_of z1 n_al
        exact z2
      exact W.aret (v := .ref q1) hx hb hr (Or.inr ⟨_, rfl⟩) (Or.inr ⟨_, rfl⟩) (fun t ht hW => ⟨⟨(some q1), _, rfl, ⟨q1, rfl, hn_q1, k6, k7, hfr⟩, mk_end hG ht⟩, hS.F ht⟩) hS.2.2 dJx4a65c_grow_92f84_59
    · skip
      exact absurd rfl c_17

set_option maxHeartbeats 4000000 in
set_option maxRecDepth 100000 in
theorem c_AL_grow1A (l : Launch) (D : va_G) (cy : Nat → ClassId) (A : Nat → Prop) (X : State → Prop) (hst : mk_St A X) (hXT : ∀ U : State, X U → TB U) (e0 : Nat) (tk : Nat → Nat) (hXE : ∀ U : State, X U → ES e0 tk A U) (mi : Nat) (hXL : ∀ U : State, X U → EL e0 mi A U) (G : Nat → Option va_E) (al : Nat) (mo : Int32) (h0 : G al = some (.inr (1, [.int mo, .ref e0, .int 0]))) : Met l yJx4a65c_grow_d5877 [.code yJx4a65c_grow_d5877 cJx4a65c_grow_d5877 1 (some (.array (.object "java/lang/Object")))] ({ frames := 2, cells := 1, slots := 10, locals := 60 }) (mk_Pre D vwCl (tyL cy) A X G [.ref al]) (va_Qq (fun (r : Option Nat) (G2 : Nat → Option va_E) => ∃ qa : Nat, r = some qa ∧ G qa = none ∧ G2 al = some (.inr (1, [.int mo, .ref qa, .int 0])) ∧ G2 qa = some (.inl (cy 4, 10, .inr (.inr (.inr (.inr (fun _ => none)))))) ∧ ∀ (x : Nat) (e : va_E), G x = some e → x ≠ al → G2 x = some e) (mk_B D vwCl A) A) 1 10 A := by
  refine Met.ofW (cc := cJx4a65c_grow_d5877) (maxL := 1) (ret := (some (.array (.object "java/lang/Object")))) (by decide) rfl ?_
  intro p e s m args below meth c s₁ B hml hv
  obtain ⟨rfl, hG, hK, hA, hX⟩ := hv
  have hx := B.exec
  have hb := B.bytes
  have hr := B.returns
  have hlocks := B.notSynchronized
  have hT := hXT s hX
  have hown : s.vm.findClass RJx4a65c = some m.cls := findClass_of_methodNamed B.named
  have hf_Jx4a65c : ∀ w ∈ u_ws RJx4a65c TJx4a65c 3, w.before ([.ref al] : List Value).toArray s = true := tb_list hT fJx4a65c
  have hS : va_S A s.heap s.heap [] := va_S.rf
  have hE := hXE s hX
  have hl := lv_entry ([.ref al]) (n := 1) (Nat.le_of_ble_eq_true rfl)
  rw [lg_entry_eq]
  generalize (lg_sl ([.ref al]) ++ List.replicate (1 - (lg_sl ([.ref al])).length) Slot.unset).toArray = ls at hl ⊢
  have hl : lv_has ls 1 [(0, .ref al)] := hl
  refine lv_aload_n hx hb dJx4a65c_grow_d5877_0 rfl (lv_at hl 0 rfl) ?_
  refine lv_aload_n hx hb dJx4a65c_grow_d5877_1 rfl (lv_at hl 0 rfl) ?_
  refine mm_get (v := .int 0) hx hb hf_Jx4a65c (fun _ h9 => h9) hown hK hG h0 rfl 2 (by decide) (tb_use hT tw_267) (fun _ h9 => h9) rfl dJx4a65c_grow_d5877_2 ?_
  refine lv_iconst (v := 1) hx hb dJx4a65c_grow_d5877_5 (by decide) ?_
  refine lv_iadd hx hb dJx4a65c_grow_d5877_6 ?_
  rw [show (0 : Int32) + 1 = 1 from rfl]
  refine va_callq (va_runV (As := [.int 1]) (rest := []) ⟨hx, hb, hml, hown, (fun _ h9 => absurd h9 List.not_mem_nil : ∀ w ∈ ([] : List Cond), w.before _ s = true)⟩ (c_AL_grow2A l D cy A X hst hXT e0 tk hXE mi hXL G al mo h0) (tb_cw (C := RJx4a65c) 1 hT tw_609 tw_113 tw_606 tw_608 tw_19 rfl rfl hq_Jx4a65c_grow_92f84 ⟨Nat.le_of_ble_eq_true rfl, Nat.le_of_ble_eq_true rfl⟩) (mk_preC hst hG hK hA hX hS vc_1 h0) rfl rfl hl.1 rfl (lv_room (Nat.le_of_ble_eq_true rfl)) dJx4a65c_grow_d5877_7 ⟨Nat.le_of_ble_eq_true rfl, Nat.le_of_ble_eq_true rfl⟩) hS (fun q _ h => h) (fun q h => h) (fun r1 G2 t H locs ht hvm hw hB hz1 hk1 hS => ?_)
  have hG : mm D vwCl A G2 H := by rw [← ht]; exact hB
  clear hB hz1 hk1 hvm ht
  obtain ⟨q3, rfl, hn_q3, h4_1, h4_2, h4_f⟩ := hw
  have hfr : ∀ (x : Nat) (e : va_E), G x = some e → x ≠ al → G2 x = some e := by
    intro x e z0 n_al
    have z1 : G2 x = some e := h4_f x e z0 n_al
    exact z1
  exact W.aret (v := .ref q3) hx hb hr (Or.inr ⟨_, rfl⟩) (Or.inr ⟨_, rfl⟩) (fun t ht hW => ⟨⟨(some q3), _, rfl, ⟨q3, rfl, hn_q3, h4_1, h4_2, hfr⟩, mk_end hG ht⟩, hS.F ht⟩) hS.2.2 dJx4a65c_grow_d5877_10

set_option maxHeartbeats 4000000 in
set_option maxRecDepth 100000 in
theorem c_AL_add3A (l : Launch) (D : va_G) (cy : Nat → ClassId) (A : Nat → Prop) (X : State → Prop) (hst : mk_St A X) (hXT : ∀ U : State, X U → TB U) (e0 : Nat) (tk : Nat → Nat) (hXE : ∀ U : State, X U → ES e0 tk A U) (mi : Nat) (hXL : ∀ U : State, X U → EL e0 mi A U) (G : Nat → Option va_E) (al : Nat) (mo : Int32) (xv ci : Nat) (fx : List Value) (rr : vw_C) (h0 : G al = some (.inr (1, [.int mo, .ref e0, .int 0]))) (hxv : G xv = some (.inr (ci, fx))) (hvr : vwCl[ci]? = some rr) (hci : ci ≠ 1) (hcas : Cond.castable rr.1 "java/lang/Object" ∈ lw_tbl) : Met l yJx4a65c_add_72be8 [.code yJx4a65c_add_72be8 cJx4a65c_add_72be8 4 none] ({ frames := 3, cells := 1, slots := 10, locals := 90 }) (mk_Pre D vwCl (tyL cy) A X G [.ref al, .ref xv, .ref e0, .int 0]) (va_Qv (fun (G2 : Nat → Option va_E) => ∃ qa : Nat, G qa = none ∧ G2 al = some (.inr (1, [.int mo, .ref qa, .int 1])) ∧ G2 qa = some (.inl (cy 4, 10, .inr (.inr (.inr (.inr (va_up (fun _ => none) 0 (some xv))))))) ∧ ∀ (x : Nat) (e : va_E), G x = some e → x ≠ al → G2 x = some e) (mk_B D vwCl A) A) 1 10 A := by
  refine Met.ofW (cc := cJx4a65c_add_72be8) (maxL := 4) (ret := none) (by decide) rfl ?_
  intro p e s m args below meth c s₁ B hml hv
  obtain ⟨rfl, hG, hK, hA, hX⟩ := hv
  have hx := B.exec
  have hb := B.bytes
  have hr := B.returns
  have hlocks := B.notSynchronized
  have hT := hXT s hX
  have hown : s.vm.findClass RJx4a65c = some m.cls := findClass_of_methodNamed B.named
  have hf_Jx4a65c : ∀ w ∈ u_ws RJx4a65c TJx4a65c 3, w.before ([.ref al, .ref xv, .ref e0, .int 0] : List Value).toArray s = true := tb_list hT fJx4a65c
  have hS : va_S A s.heap s.heap [] := va_S.rf
  have hE := hXE s hX
  have hl := lv_entry ([.ref al, .ref xv, .ref e0, .int 0]) (n := 4) (Nat.le_of_ble_eq_true rfl)
  rw [lg_entry_eq]
  generalize (lg_sl ([.ref al, .ref xv, .ref e0, .int 0]) ++ List.replicate (4 - (lg_sl ([.ref al, .ref xv, .ref e0, .int 0])).length) Slot.unset).toArray = ls at hl ⊢
  have hl : lv_has ls 4 [(0, .ref al), (1, .ref xv), (2, .ref e0), (3, .int 0)] := hl
  refine lv_iload_n hx hb dJx4a65c_add_72be8_0 rfl (lv_at hl 3 rfl) ?_
  refine lv_aload_n hx hb dJx4a65c_add_72be8_1 rfl (lv_at hl 2 rfl) ?_
  refine va_tlen (v := 0) hx hb (hXL s hX).1 hS rfl dJx4a65c_add_72be8_2 ?_
  refine lv_icmp_ne (tgt := 11) hx hb dJx4a65c_add_72be8_3 (by decide) (fun c_3 => ?_) (fun c_3 => ?_)
  · skip
    exact absurd rfl c_3
  · skip
    refine lv_aload_n hx hb dJx4a65c_add_72be8_6 rfl (lv_at hl 0 rfl) ?_
    refine va_callq (va_runV (As := []) (rest := []) ⟨hx, hb, hml, hown, (fun _ h9 => absurd h9 List.not_mem_nil : ∀ w ∈ ([] : List Cond), w.before _ s = true)⟩ (c_AL_grow1A l D cy A X hst hXT e0 tk hXE mi hXL G al mo h0) (tb_cw (C := RJx4a65c) 0 hT tw_605 tw_113 tw_602 tw_604 tw_18 rfl rfl hq_Jx4a65c_grow_d5877 ⟨Nat.le_of_ble_eq_true rfl, Nat.le_of_ble_eq_true rfl⟩) (mk_preC hst hG hK hA hX hS vc_1 h0) rfl rfl hl.1 rfl (lv_room (Nat.le_of_ble_eq_true rfl)) dJx4a65c_add_72be8_7 ⟨Nat.le_of_ble_eq_true rfl, Nat.le_of_ble_eq_true rfl⟩) hS (fun q _ h => h) (fun q h => h) (fun r1 G2 t H locs ht hvm hw hB hz1 hk1 hS => ?_)
    have hG : mm D vwCl A G2 H := by rw [← ht]; exact hB
    clear hB hz1 hk1 hvm ht
    obtain ⟨q3, rfl, hn_q3, h4_1, h4_2, h4_f⟩ := hw
    have k5 : G2 xv = some (.inr (ci, fx)) := h4_f _ _ hxv (mm_ne_oo hxv h0 hci)
    refine lv_astore_n (lv' := [(2, .ref q3), (0, .ref al), (1, .ref xv), (3, .int 0)]) hx hb dJx4a65c_add_72be8_10 rfl hl (by decide) rfl (fun ls hl => ?_)
    refine lv_aload_n hx hb dJx4a65c_add_72be8_11 rfl (lv_at hl 0 rfl) ?_
    refine lv_iload_n hx hb dJx4a65c_add_72be8_12 rfl (lv_at hl 3 rfl) ?_
    refine lv_aload_n hx hb dJx4a65c_add_72be8_13 rfl (lv_at hl 2 rfl) ?_
    refine mm_aastO hx hb hK hG hS 4 ci h4_2 rfl (hT _ hcas rfl) k5 hvr (by unfold vp_in; decide) dJx4a65c_add_72be8_14 (fun H locs hG hS => ?_)
    obtain ⟨G6, eG6⟩ : ∃ g, g = mm_set G2 q3 (.inl (cy 4, 10, .inr (.inr (.inr (.inr (va_up (fun _ => none) (0 : Int32).toNatClampNeg (some xv))))))) := ⟨_, rfl⟩
    have hG : mm D vwCl A G6 H := by rw [eG6]; exact hG
    have k7 : G6 xv = some (.inr (ci, fx)) := by rw [eG6]; exact mm_set_of k5 (mm_ne_oa k5 h4_2)
    have k8 : G6 al = some (.inr (1, [.int mo, .ref q3, .int 0])) := by rw [eG6]; exact mm_set_of h4_1 (mm_ne_oa h4_1 h4_2)
    have k9 : G6 q3 = some (.inl (cy 4, 10, .inr (.inr (.inr (.inr (va_up (fun _ => none) (0 : Int32).toNatClampNeg (some xv))))))) := by rw [eG6]; exact mm_set_self
    refine lv_aload_n hx hb dJx4a65c_add_72be8_15 rfl (lv_at hl 1 rfl) ?_
    refine lv_iload_n hx hb dJx4a65c_add_72be8_16 rfl (lv_at hl 3 rfl) ?_
    refine lv_iconst (v := 1) hx hb dJx4a65c_add_72be8_17 (by decide) ?_
    refine lv_iadd hx hb dJx4a65c_add_72be8_18 ?_
    refine lv_topi (fun x10 ex10 => ?_)
    refine mm_put (v := .int x10) (ty := .int) hx hb hf_Jx4a65c (fun _ h9 => h9) tyJx4a65c tyJx4a65c_ok nmJx4a65c hown hK hG hS k8 rfl 2 (by decide) (tb_use hT tw_267) (fun _ h9 => h9) rfl (by decide +kernel) rfl rfl (Nat.le_of_ble_eq_true rfl) dJx4a65c_add_72be8_19 (fun H locs hG hS => ?_)
    obtain ⟨G11, eG11⟩ : ∃ g, g = mm_set G6 al (.inr (1, [.int mo, .ref q3, .int x10])) := ⟨_, rfl⟩
    have hG : mm D vwCl A G11 H := by rw [eG11]; exact hG
    have k12 : G11 xv = some (.inr (ci, fx)) := by rw [eG11]; exact mm_set_of k7 (mm_ne_oo k7 k8 hci)
    have k13 : G11 al = some (.inr (1, [.int mo, .ref q3, .int x10])) := by rw [eG11]; exact mm_set_self
    have k14 : G11 q3 = some (.inl (cy 4, 10, .inr (.inr (.inr (.inr (va_up (fun _ => none) (0 : Int32).toNatClampNeg (some xv))))))) := by rw [eG11]; exact mm_set_of k9 (mm_ne_ao k9 k8)
    have hfr : ∀ (x : Nat) (e : va_E), G x = some e → x ≠ al → G11 x = some e := by
      intro x e z0 n_al
      have n_q3 : x ≠ q3 := fun z => by rw [z, hn_q3] at z0; cases z0
      have z1 : G2 x = some e := h4_f x e z0 n_al
      have z2 : G6 x = some e := by rw [eG6]; exact mm_set_of z1 n_q3
      have z3 : G11 x = some e := by rw [eG11]; exact mm_set_of z2 n_al
      exact z3
    exact W.vret hx hb hr (fun t ht hW => ⟨⟨_, rfl, ⟨q3, hn_q3, (by rw [show (1 : Int32) = 0 + 1 from rfl, ← ex10]; exact k13), k14, hfr⟩, mk_end hG ht⟩, hS.F ht⟩) hS.2.2 dJx4a65c_add_72be8_22

set_option maxHeartbeats 4000000 in
set_option maxRecDepth 100000 in
theorem c_AL_addF (l : Launch) (D : va_G) (cy : Nat → ClassId) (A : Nat → Prop) (X : State → Prop) (hst : mk_St A X) (hXT : ∀ U : State, X U → TB U) (e0 : Nat) (tk : Nat → Nat) (hXE : ∀ U : State, X U → ES e0 tk A U) (mi : Nat) (hXL : ∀ U : State, X U → EL e0 mi A U) (G : Nat → Option va_E) (al : Nat) (mo : Int32) (xv ci : Nat) (fx : List Value) (rr : vw_C) (h0 : G al = some (.inr (1, [.int mo, .ref e0, .int 0]))) (hxv : G xv = some (.inr (ci, fx))) (hvr : vwCl[ci]? = some rr) (hci : ci ≠ 1) (hcas : Cond.castable rr.1 "java/lang/Object" ∈ lw_tbl) : Met l yJx4a65c_add_9ea2d [.code yJx4a65c_add_9ea2d cJx4a65c_add_9ea2d 2 (some .boolean)] ({ frames := 4, cells := 1, slots := 10, locals := 120 }) (mk_Pre D vwCl (tyL cy) A X G [.ref al, .ref xv]) (va_Qi (fun (r : Int32) (G2 : Nat → Option va_E) => ∃ qa : Nat, G qa = none ∧ G2 al = some (.inr (1, [.int (mo + 1), .ref qa, .int 1])) ∧ G2 qa = some (.inl (cy 4, 10, .inr (.inr (.inr (.inr (va_up (fun _ => none) 0 (some xv))))))) ∧ ∀ (x : Nat) (e : va_E), G x = some e → x ≠ al → G2 x = some e) (mk_B D vwCl A) A) 1 10 A := by
  refine Met.ofW (cc := cJx4a65c_add_9ea2d) (maxL := 2) (ret := (some .boolean)) (by decide) rfl ?_
  intro p e s m args below meth c s₁ B hml hv
  obtain ⟨rfl, hG, hK, hA, hX⟩ := hv
  have hx := B.exec
  have hb := B.bytes
  have hr := B.returns
  have hlocks := B.notSynchronized
  have hT := hXT s hX
  have hown : s.vm.findClass RJx4a65c = some m.cls := findClass_of_methodNamed B.named
  have hf_Jx4a65c : ∀ w ∈ u_ws RJx4a65c TJx4a65c 3, w.before ([.ref al, .ref xv] : List Value).toArray s = true := tb_list hT fJx4a65c
  have hS : va_S A s.heap s.heap [] := va_S.rf
  have hE := hXE s hX
  have hl := lv_entry ([.ref al, .ref xv]) (n := 2) (Nat.le_of_ble_eq_true rfl)
  rw [lg_entry_eq]
  generalize (lg_sl ([.ref al, .ref xv]) ++ List.replicate (2 - (lg_sl ([.ref al, .ref xv])).length) Slot.unset).toArray = ls at hl ⊢
  have hl : lv_has ls 2 [(0, .ref al), (1, .ref xv)] := hl
  refine lv_aload_n hx hb dJx4a65c_add_9ea2d_0 rfl (lv_at hl 0 rfl) ?_
  refine lv_dup hx hb dJx4a65c_add_9ea2d_1 rfl ?_
  refine mm_get (v := .int mo) hx hb hf_Jx4a65c (fun _ h9 => h9) hown hK hG h0 rfl 0 (by decide) (tb_use hT tw_269) (u_same (args := #[]) (tb_use hT tw_270)) rfl dJx4a65c_add_9ea2d_2 ?_
  refine lv_iconst (v := 1) hx hb dJx4a65c_add_9ea2d_5 (by decide) ?_
  refine lv_iadd hx hb dJx4a65c_add_9ea2d_6 ?_
  refine lv_topi (fun x1 ex1 => ?_)
  refine mm_put (v := .int x1) (ty := .int) hx hb hf_Jx4a65c (fun _ h9 => h9) tyJx4a65c tyJx4a65c_ok nmJx4a65c hown hK hG hS h0 rfl 0 (by decide) (tb_use hT tw_269) (u_same (args := #[]) (tb_use hT tw_270)) rfl (by decide +kernel) rfl rfl (Nat.le_of_ble_eq_true rfl) dJx4a65c_add_9ea2d_7 (fun H locs hG hS => ?_)
  obtain ⟨G2, eG2⟩ : ∃ g, g = mm_set G al (.inr (1, [.int x1, .ref e0, .int 0])) := ⟨_, rfl⟩
  have hG : mm D vwCl A G2 H := by rw [eG2]; exact hG
  have k3 : G2 al = some (.inr (1, [.int x1, .ref e0, .int 0])) := by rw [eG2]; exact mm_set_self
  have k4 : G2 xv = some (.inr (ci, fx)) := by rw [eG2]; exact mm_set_of hxv (mm_ne_oo hxv h0 hci)
  refine lv_aload_n hx hb dJx4a65c_add_9ea2d_10 rfl (lv_at hl 0 rfl) ?_
  refine lv_aload_n hx hb dJx4a65c_add_9ea2d_11 rfl (lv_at hl 1 rfl) ?_
  refine lv_aload_n hx hb dJx4a65c_add_9ea2d_12 rfl (lv_at hl 0 rfl) ?_
  refine mm_get (v := .ref e0) hx hb hf_Jx4a65c (fun _ h9 => h9) hown hK hG k3 rfl 1 (by decide) (tb_use hT tw_266) (fun _ h9 => h9) rfl dJx4a65c_add_9ea2d_13 ?_
  refine lv_aload_n hx hb dJx4a65c_add_9ea2d_16 rfl (lv_at hl 0 rfl) ?_
  refine mm_get (v := .int 0) hx hb hf_Jx4a65c (fun _ h9 => h9) hown hK hG k3 rfl 2 (by decide) (tb_use hT tw_267) (fun _ h9 => h9) rfl dJx4a65c_add_9ea2d_17 ?_
  refine va_callv (va_runV (As := [.ref xv, .ref e0, .int 0]) (rest := []) ⟨hx, hb, hml, hown, (fun _ h9 => absurd h9 List.not_mem_nil : ∀ w ∈ ([] : List Cond), w.before _ s = true)⟩ (c_AL_add3A l D cy A X hst hXT e0 tk hXE mi hXL G2 al x1 xv ci fx rr k3 k4 hvr hci hcas) (tb_cw (C := RJx4a65c) 3 hT tw_601 tw_113 tw_598 tw_600 tw_17 rfl rfl hq_Jx4a65c_add_72be8 ⟨Nat.le_of_ble_eq_true rfl, Nat.le_of_ble_eq_true rfl⟩) (mk_preC hst hG hK hA hX hS vc_1 k3) rfl rfl hl.1 rfl (lv_room (Nat.le_of_ble_eq_true rfl)) dJx4a65c_add_9ea2d_20 ⟨Nat.le_of_ble_eq_true rfl, Nat.le_of_ble_eq_true rfl⟩) hS (fun q _ h => h) (fun q h => h) (fun  G5 t H locs ht hvm hw hB hz1 hk1 hS => ?_)
  have hG : mm D vwCl A G5 H := by rw [← ht]; exact hB
  clear hB hz1 hk1 hvm ht
  obtain ⟨q6, hn_q6, h7_1, h7_2, h7_f⟩ := hw
  rw [eG2] at hn_q6
  replace hn_q6 := mm_none hn_q6
  have k8 : G5 xv = some (.inr (ci, fx)) := h7_f _ _ k4 (mm_ne_oo k4 k3 hci)
  refine lv_iconst (v := 1) hx hb dJx4a65c_add_9ea2d_23 (by decide) ?_
  have hfr : ∀ (x : Nat) (e : va_E), G x = some e → x ≠ al → G5 x = some e := by
    intro x e z0 n_al
    have n_q6 : x ≠ q6 := fun z => by rw [z, hn_q6] at z0; cases z0
    have z1 : G2 x = some e := by rw [eG2]; exact mm_set_of z0 n_al
    have z2 : G5 x = some e := h7_f x e z1 n_al
    exact z2
  exact W.zret (v := 1) hx hb hr rfl (fun t ht hW => ⟨⟨_, _, rfl, ⟨q6, hn_q6, (by rw [← ex1]; exact h7_1), h7_2, hfr⟩, mk_end hG ht⟩, hS.F ht⟩) hS.2.2 dJx4a65c_add_9ea2d_24

set_option maxHeartbeats 4000000 in
set_option maxRecDepth 100000 in
theorem c_J8_newLength (l : Launch) (D : va_G) (cy : Nat → ClassId) (A : Nat → Prop) (X : State → Prop) (hst : mk_St A X) (hXT : ∀ U : State, X U → TB U) (e0 : Nat) (tk : Nat → Nat) (hXE : ∀ U : State, X U → ES e0 tk A U) (G : Nat → Option va_E) (n hh : Nat) (h1 : 1 ≤ hh) (h2 : hh ≤ 200) (h3 : n ≤ 400) : Met l yJ8_newLength_cabcc [.code yJ8_newLength_cabcc cJ8_newLength_cabcc 4 (some .int)] ({ frames := 1, cells := 0, slots := 0, locals := 30 }) (mk_Pre D vwCl (tyL cy) A X G [.int (nI n), .int 1, .int (nI hh)]) (va_Qi (fun (r : Int32) (G2 : Nat → Option va_E) => r = nI (n + hh) ∧ G2 = G) (mk_B D vwCl A) A) 0 0 A := by
  refine Met.ofW (cc := cJ8_newLength_cabcc) (maxL := 4) (ret := (some .int)) (by decide) rfl ?_
  intro p e s m args below meth c s₁ B hml hv
  obtain ⟨rfl, hG, hK, hA, hX⟩ := hv
  have hx := B.exec
  have hb := B.bytes
  have hr := B.returns
  have hlocks := B.notSynchronized
  have hT := hXT s hX
  have hown : s.vm.findClass RJ8 = some m.cls := findClass_of_methodNamed B.named
  have hS : va_S A s.heap s.heap [] := va_S.rf
  have hE := hXE s hX
  have hl := lv_entry ([.int (nI n), .int 1, .int (nI hh)]) (n := 4) (Nat.le_of_ble_eq_true rfl)
  rw [lg_entry_eq]
  generalize (lg_sl ([.int (nI n), .int 1, .int (nI hh)]) ++ List.replicate (4 - (lg_sl ([.int (nI n), .int 1, .int (nI hh)])).length) Slot.unset).toArray = ls at hl ⊢
  have hl : lv_has ls 4 [(0, .int (nI n)), (1, .int 1), (2, .int (nI hh))] := hl
  refine lv_iload_n hx hb dJ8_newLength_cabcc_0 rfl (lv_at hl 0 rfl) ?_
  refine lv_iload_n hx hb dJ8_newLength_cabcc_1 rfl (lv_at hl 1 rfl) ?_
  refine lv_iload_n hx hb dJ8_newLength_cabcc_2 rfl (lv_at hl 2 rfl) ?_
  refine va_mmax (x := 1) (y := (nI hh)) hx hb (by rw [hml]; exact hl.1.symm) hown (tb_use hT tw_613) (tb_use hT tw_614) (tb_use hT tw_114) (tb_use hT tw_615) (Nat.le_of_ble_eq_true rfl) (Nat.le_of_ble_eq_true rfl) (by exact Nat.zero_le _) (by exact Nat.zero_le _) dJ8_newLength_cabcc_3 ?_
  rw [show (if (1 : Int32) < nI hh then nI hh else 1) = nI hh from g_max hh h1 h2]
  refine lv_iadd hx hb dJ8_newLength_cabcc_6 ?_
  rw [show nI n + nI hh = nI (n + hh) from nI_add n hh]
  refine lv_topi (fun x1 ex1 => ?_)
  refine lv_istore_n (lv' := [(3, .int x1), (0, .int (nI n)), (1, .int 1), (2, .int (nI hh))]) hx hb dJ8_newLength_cabcc_7 rfl hl (by decide) rfl (fun ls hl => ?_)
  refine lv_iconst (v := 0) hx hb dJ8_newLength_cabcc_8 (by decide) ?_
  refine lv_iload_n hx hb dJ8_newLength_cabcc_9 rfl (lv_at hl 0 rfl) ?_
  refine lv_icmp_ge (tgt := 21) hx hb dJ8_newLength_cabcc_10 (by decide) (fun c_10 => ?_) (fun c_10 => ?_)
  · skip
    exact absurd (by rw [ex1] at c_10; exact c_10) (nI_nle (by omega) (by omega))
  · skip
    refine lv_iload_n hx hb dJ8_newLength_cabcc_13 rfl (lv_at hl 0 rfl) ?_
    refine lv_ldc hx hb hown (tb_use hT tw_616) dJ8_newLength_cabcc_14 ?_
    refine lv_icmp_gt (tgt := 21) hx hb dJ8_newLength_cabcc_16 (by decide) (fun c_16 => ?_) (fun c_16 => ?_)
    · skip
      exact absurd c_16 (Int32.not_lt.mpr (by rw [ex1]; exact nI_le (b := 2147483639) (by omega) (by decide)))
    · skip
      refine lv_iload_n hx hb dJ8_newLength_cabcc_19 rfl (lv_at hl 0 rfl) ?_
      exact W.iret (v := x1) hx hb hr (fun t ht hW => ⟨⟨_, _, rfl, ⟨ex1, rfl⟩, mk_end hG ht⟩, hS.F ht⟩) hS.2.2 dJ8_newLength_cabcc_20

set_option maxHeartbeats 4000000 in
set_option maxRecDepth 100000 in
theorem c_J7_copyOf3 (l : Launch) (D : va_G) (cy : Nat → ClassId) (A : Nat → Prop) (X : State → Prop) (hst : mk_St A X) (hXT : ∀ U : State, X U → TB U) (e0 : Nat) (tk : Nat → Nat) (hXE : ∀ U : State, X U → ES e0 tk A U) (mi : Nat) (hXL : ∀ U : State, X U → EL e0 mi A U) (G : Nat → Option va_E) (ea : Nat) (n nn : Nat) (gv : Nat → Option Nat) (h1 : G ea = some (.inl (cy 4, n, .inr (.inr (.inr (.inr gv)))))) (hnn : n ≤ nn) (h9 : nn ≤ 1000) (hall : el_ok G n gv) : Met l yJ7_copyOf_6403c [.code yJ7_copyOf_6403c cJ7_copyOf_6403c 4 (some (.array (.object "java/lang/Object")))] ({ frames := 1, cells := 1, slots := nn, locals := 30 }) (mk_Pre D vwCl (tyL cy) A X G [.ref ea, .int (nI nn), .ref mi]) (va_Qq (fun (r : Option Nat) (G2 : Nat → Option va_E) => ∃ qa : Nat, r = some qa ∧ G qa = none ∧ G2 qa = some (.inl (cy 4, nn, .inr (.inr (.inr (.inr (va_cpy gv (fun _ => none) 0 0 n)))))) ∧ ∀ (x : Nat) (e : va_E), G x = some e → G2 x = some e) (mk_B D vwCl A) A) 1 nn A := by
  refine Met.ofW (cc := cJ7_copyOf_6403c) (maxL := 4) (ret := (some (.array (.object "java/lang/Object")))) (by decide) rfl ?_
  intro p e s m args below meth c s₁ B hml hv
  obtain ⟨rfl, hG, hK, hA, hX⟩ := hv
  have hx := B.exec
  have hb := B.bytes
  have hr := B.returns
  have hlocks := B.notSynchronized
  have hT := hXT s hX
  have hown : s.vm.findClass RJ7 = some m.cls := findClass_of_methodNamed B.named
  have hS : va_S A s.heap s.heap [] := va_S.rf
  have hE := hXE s hX
  have hl := lv_entry ([.ref ea, .int (nI nn), .ref mi]) (n := 4) (Nat.le_of_ble_eq_true rfl)
  rw [lg_entry_eq]
  generalize (lg_sl ([.ref ea, .int (nI nn), .ref mi]) ++ List.replicate (4 - (lg_sl ([.ref ea, .int (nI nn), .ref mi])).length) Slot.unset).toArray = ls at hl ⊢
  have hl : lv_has ls 4 [(0, .ref ea), (1, .int (nI nn)), (2, .ref mi)] := hl
  refine lv_aload_n hx hb dJ7_copyOf_6403c_0 rfl (lv_at hl 2 rfl) ?_
  refine va_ldcM (mi := mi) hx hb hown (tb_use hT tw_646) (hXL s hX).2 dJ7_copyOf_6403c_1 ?_
  refine lv_acmp_ne (rx := some mi) (ry := some mi) (tgt := 13) hx hb dJ7_copyOf_6403c_3 (by decide) (fun c_3 => ?_) (fun c_3 => ?_)
  · skip
    exact absurd rfl c_3
  · skip
    refine lv_iload_n hx hb dJ7_copyOf_6403c_6 rfl (lv_at hl 1 rfl) ?_
    refine mm_newq (n := (nI nn)) (N' := nn) hx hb hown (tb_use hT tw_648) (hT _ tw_647 rfl) hK hG hS hA 4 rfl (nI_pos (by omega)) (nI_clamp (by omega)) (by omega) (by exact Nat.le_of_ble_eq_true rfl) (by show 0 + nn ≤ nn; omega) dJ7_copyOf_6403c_7 (fun q1 H hn_q1 hG hS => ?_)
    obtain ⟨G2, eG2⟩ : ∃ g, g = mm_set G q1 (.inl (cy 4, nn, .inr (.inr (.inr (.inr (fun _ => none)))))) := ⟨_, rfl⟩
    have hG : mm D vwCl A G2 H := by rw [eG2]; exact hG
    have ne_ea_q1 : ea ≠ q1 := mm_ne_new h1 hn_q1
    have k3 : G2 ea = some (.inl (cy 4, n, .inr (.inr (.inr (.inr gv))))) := by rw [eG2]; exact mm_set_new h1 hn_q1
    have k4 : G2 q1 = some (.inl (cy 4, nn, .inr (.inr (.inr (.inr (fun _ => none)))))) := by rw [eG2]; exact mm_set_self
    refine lv_goto (tgt := 24) hx hb dJ7_copyOf_6403c_10 (by decide) ?_
    refine lv_astore_n (lv' := [(3, .ref q1), (0, .ref ea), (1, .int (nI nn)), (2, .ref mi)]) hx hb dJ7_copyOf_6403c_24 rfl hl (by decide) rfl (fun ls hl => ?_)
    refine lv_aload_n hx hb dJ7_copyOf_6403c_25 rfl (lv_at hl 1 rfl) ?_
    refine lv_iconst (v := 0) hx hb dJ7_copyOf_6403c_26 (by decide) ?_
    refine lv_aload_n hx hb dJ7_copyOf_6403c_27 rfl (lv_at hl 0 rfl) ?_
    refine lv_iconst (v := 0) hx hb dJ7_copyOf_6403c_28 (by decide) ?_
    refine lv_aload_n hx hb dJ7_copyOf_6403c_29 rfl (lv_at hl 1 rfl) ?_
    refine mm_alen (v := (nI n)) hx hb hK hG 4 k3 rfl rfl dJ7_copyOf_6403c_30 ?_
    refine lv_iload_n hx hb dJ7_copyOf_6403c_31 rfl (lv_at hl 2 rfl) ?_
    refine va_mmin hx hb (by rw [hml]; exact hl.1.symm) hown (tb_use hT tw_649) (tb_use hT tw_334) (tb_use hT tw_114) (tb_use hT tw_335) (Nat.le_of_ble_eq_true rfl) (Nat.le_of_ble_eq_true rfl) (Nat.le_of_ble_eq_true rfl) (by show 0 + nn ≤ nn; omega) dJ7_copyOf_6403c_32 ?_
    rw [show (if nI nn < nI n then nI nn else nI n) = nI n from if_neg (nI_nlt hnn (by omega))]
    refine mm_copyM (sp := 0) (dp := 0) (n := (nI n)) hx hb (by rw [hml]; exact hl.1.symm) hown (tb_use hT tw_650) (tb_use hT tw_652) (tb_use hT tw_651) (tb_use hT tw_126) hK hG hS 4 4 k3 k4 rfl rfl (by decide) (by decide) (nI_pos (by omega)) (by rw [nI_clamp (by omega)]; show 0 + n ≤ n; omega) (by rw [nI_clamp (by omega)]; show 0 + n ≤ nn; omega) (fun i hi y hy => by rw [nI_clamp (by omega)] at hi; obtain ⟨ci, fs, r, z1, z2, z3, -⟩ := hall i hi y (by rw [← hy]; show gv i = gv (0 + i); rw [Nat.zero_add]); exact ob_any hT hK hG (by rw [eG2]; exact mm_set_new z1 hn_q1) z2 z3) (Nat.le_of_ble_eq_true rfl) (Nat.le_of_ble_eq_true rfl) dJ7_copyOf_6403c_35 (fun H locs hG hS => ?_)
    obtain ⟨G5, eG5⟩ : ∃ g, g = mm_set G2 q1 (.inl (cy 4, nn, .inr (.inr (.inr (.inr (va_cpy gv (fun _ => none) (0 : Int32).toNatClampNeg (0 : Int32).toNatClampNeg ((nI n) : Int32).toNatClampNeg)))))) := ⟨_, rfl⟩
    have hG : mm D vwCl A G5 H := by rw [eG5]; exact hG
    have k6 : G5 ea = some (.inl (cy 4, n, .inr (.inr (.inr (.inr gv))))) := by rw [eG5]; exact mm_set_of k3 ne_ea_q1
    have k7 : G5 q1 = some (.inl (cy 4, nn, .inr (.inr (.inr (.inr (va_cpy gv (fun _ => none) (0 : Int32).toNatClampNeg (0 : Int32).toNatClampNeg ((nI n) : Int32).toNatClampNeg)))))) := by rw [eG5]; exact mm_set_self
    refine lv_aload_n hx hb dJ7_copyOf_6403c_38 rfl (lv_at hl 0 rfl) ?_
    have hfr : ∀ (x : Nat) (e : va_E), G x = some e → G5 x = some e := by
      intro x e z0
      have n_q1 : x ≠ q1 := fun z => by rw [z, hn_q1] at z0; cases z0
      have n_q1 : x ≠ q1 := fun z => by rw [z, hn_q1] at z0; cases z0
      have z1 : G2 x = some e := by rw [eG2]; exact mm_set_of z0 n_q1
      have z2 : G5 x = some e := by rw [eG5]; exact mm_set_of z1 n_q1
      exact z2
    refine W.widen (k := 1) (n := nn) (by omega) (by omega) ?_
    exact W.aret (v := .ref q1) hx hb hr (Or.inr ⟨_, rfl⟩) (Or.inr ⟨_, rfl⟩) (fun t ht hW => ⟨⟨(some q1), _, rfl, ⟨q1, rfl, hn_q1, (by have z := k7; rw [nI_clamp (n := n) (by omega)] at z; exact z), hfr⟩, mk_end hG ht⟩, hS.F ht⟩) hS.2.2 dJ7_copyOf_6403c_39

set_option maxHeartbeats 4000000 in
set_option maxRecDepth 100000 in
theorem c_J7_copyOf2 (l : Launch) (D : va_G) (cy : Nat → ClassId) (A : Nat → Prop) (X : State → Prop) (hst : mk_St A X) (hXT : ∀ U : State, X U → TB U) (e0 : Nat) (tk : Nat → Nat) (hXE : ∀ U : State, X U → ES e0 tk A U) (mi : Nat) (hXL : ∀ U : State, X U → EL e0 mi A U) (G : Nat → Option va_E) (ea : Nat) (n nn : Nat) (gv : Nat → Option Nat) (h1 : G ea = some (.inl (cy 4, n, .inr (.inr (.inr (.inr gv)))))) (hnn : n ≤ nn) (h9 : nn ≤ 1000) (hall : el_ok G n gv) : Met l yJ7_copyOf_1904c [.code yJ7_copyOf_1904c cJ7_copyOf_1904c 2 (some (.array (.object "java/lang/Object")))] ({ frames := 2, cells := 1, slots := nn, locals := 60 }) (mk_Pre D vwCl (tyL cy) A X G [.ref ea, .int (nI nn)]) (va_Qq (fun (r : Option Nat) (G2 : Nat → Option va_E) => ∃ qa : Nat, r = some qa ∧ G qa = none ∧ G2 qa = some (.inl (cy 4, nn, .inr (.inr (.inr (.inr (va_cpy gv (fun _ => none) 0 0 n)))))) ∧ ∀ (x : Nat) (e : va_E), G x = some e → G2 x = some e) (mk_B D vwCl A) A) 1 nn A := by
  refine Met.ofW (cc := cJ7_copyOf_1904c) (maxL := 2) (ret := (some (.array (.object "java/lang/Object")))) (by decide) rfl ?_
  intro p e s m args below meth c s₁ B hml hv
  obtain ⟨rfl, hG, hK, hA, hX⟩ := hv
  have hx := B.exec
  have hb := B.bytes
  have hr := B.returns
  have hlocks := B.notSynchronized
  have hT := hXT s hX
  have hown : s.vm.findClass RJ7 = some m.cls := findClass_of_methodNamed B.named
  have hS : va_S A s.heap s.heap [] := va_S.rf
  have hE := hXE s hX
  have hl := lv_entry ([.ref ea, .int (nI nn)]) (n := 2) (Nat.le_of_ble_eq_true rfl)
  rw [lg_entry_eq]
  generalize (lg_sl ([.ref ea, .int (nI nn)]) ++ List.replicate (2 - (lg_sl ([.ref ea, .int (nI nn)])).length) Slot.unset).toArray = ls at hl ⊢
  have hl : lv_has ls 2 [(0, .ref ea), (1, .int (nI nn))] := hl
  refine lv_aload_n hx hb dJ7_copyOf_1904c_0 rfl (lv_at hl 0 rfl) ?_
  refine lv_iload_n hx hb dJ7_copyOf_1904c_1 rfl (lv_at hl 1 rfl) ?_
  refine lv_aload_n hx hb dJ7_copyOf_1904c_2 rfl (lv_at hl 0 rfl) ?_
  refine va_getC (C := "[Ljava/lang/Object;") (mi := mi) hx hb (by rw [hml]; exact hl.1.symm) hown (tb_use hT tw_623) (tb_use hT tw_1906) (tb_use hT tw_1905) (tb_use hT tw_624) (tb_use hT tw_642) (hXL s hX).2 ⟨_, (hG.one h1 0 _ rfl), rfl, va_nmO (hK.2 4 _ rfl).2 rfl⟩ (Nat.le_of_ble_eq_true rfl) (Nat.le_of_ble_eq_true rfl) dJ7_copyOf_1904c_3 ?_
  refine va_callq (va_runS (As := [.ref ea, .int (nI nn), .ref mi]) (rest := []) ⟨hx, hb, hml, hown, (fun _ h9 => absurd h9 List.not_mem_nil : ∀ w ∈ ([] : List Cond), w.before _ s = true)⟩ (c_J7_copyOf3 l D cy A X hst hXT e0 tk hXE mi hXL G ea n nn gv h1 hnn h9 hall) (tb_cs 3 hT tw_645 tw_125 tw_643 tw_644 rfl rfl hq_J7_copyOf_6403c ⟨Nat.le_of_ble_eq_true rfl, Nat.le_of_ble_eq_true rfl⟩) (mk_preS hst hG hK hA hX hS) rfl rfl hl.1 rfl (lv_room (Nat.le_of_ble_eq_true rfl)) dJ7_copyOf_1904c_6 ⟨Nat.le_of_ble_eq_true rfl, (by show 0 + nn ≤ nn; omega)⟩) hS (fun q _ h => h) (fun q h => h) (fun r1 G2 t H locs ht hvm hw hB hz1 hk1 hS => ?_)
  have hG : mm D vwCl A G2 H := by rw [← ht]; exact hB
  clear hB hz1 hk1 hvm ht
  obtain ⟨q3, rfl, hn_q3, h4_2, h4_f⟩ := hw
  have ne_ea_q3 : ea ≠ q3 := mm_ne_new h1 hn_q3
  have k5 : G2 ea = some (.inl (cy 4, n, .inr (.inr (.inr (.inr gv))))) := h4_f _ _ h1
  refine W.widen (k := 1) (n := nn) (by omega) (by omega) ?_
  exact W.aret (v := .ref q3) hx hb hr (Or.inr ⟨_, rfl⟩) (Or.inr ⟨_, rfl⟩) (fun t ht hW => ⟨⟨(some q3), _, rfl, ⟨q3, rfl, hn_q3, h4_2, h4_f⟩, mk_end hG ht⟩, hS.F ht⟩) hS.2.2 dJ7_copyOf_1904c_9

set_option maxHeartbeats 4000000 in
set_option maxRecDepth 100000 in
theorem c_AL_grow2C (l : Launch) (D : va_G) (cy : Nat → ClassId) (A : Nat → Prop) (X : State → Prop) (hst : mk_St A X) (hXT : ∀ U : State, X U → TB U) (e0 : Nat) (tk : Nat → Nat) (hXE : ∀ U : State, X U → ES e0 tk A U) (mi : Nat) (hXL : ∀ U : State, X U → EL e0 mi A U) (G : Nat → Option va_E) (al ea : Nat) (mo : Int32) (n : Nat) (gv : Nat → Option Nat) (h0 : G al = some (.inr (1, [.int mo, .ref ea, .int (nI n)]))) (h1 : G ea = some (.inl (cy 4, n, .inr (.inr (.inr (.inr gv)))))) (hall : el_ok G n gv) (hn2 : 2 ≤ n) (hn9 : n ≤ 200) : Met l yJx4a65c_grow_92f84 [.code yJx4a65c_grow_92f84 cJx4a65c_grow_92f84 4 (some (.array (.object "java/lang/Object")))] ({ frames := 3, cells := 1, slots := (n + n / 2), locals := 90 }) (mk_Pre D vwCl (tyL cy) A X G [.ref al, .int (nI (n + 1))]) (va_Qq (fun (r : Option Nat) (G2 : Nat → Option va_E) => ∃ qa : Nat, r = some qa ∧ G qa = none ∧ G2 al = some (.inr (1, [.int mo, .ref qa, .int (nI n)])) ∧ G2 qa = some (.inl (cy 4, (n + n / 2), .inr (.inr (.inr (.inr (va_cpy gv (fun _ => none) 0 0 n)))))) ∧ ∀ (x : Nat) (e : va_E), G x = some e → x ≠ al → G2 x = some e) (mk_B D vwCl A) A) 1 (n + n / 2) A := by
  refine Met.ofW (cc := cJx4a65c_grow_92f84) (maxL := 4) (ret := (some (.array (.object "java/lang/Object")))) (by decide) rfl ?_
  intro p e s m args below meth c s₁ B hml hv
  obtain ⟨rfl, hG, hK, hA, hX⟩ := hv
  have hx := B.exec
  have hb := B.bytes
  have hr := B.returns
  have hlocks := B.notSynchronized
  have hT := hXT s hX
  have hown : s.vm.findClass RJx4a65c = some m.cls := findClass_of_methodNamed B.named
  have hf_Jx4a65c : ∀ w ∈ u_ws RJx4a65c TJx4a65c 3, w.before ([.ref al, .int (nI (n + 1))] : List Value).toArray s = true := tb_list hT fJx4a65c
  have hS : va_S A s.heap s.heap [] := va_S.rf
  have hE := hXE s hX
  have hl := lv_entry ([.ref al, .int (nI (n + 1))]) (n := 4) (Nat.le_of_ble_eq_true rfl)
  rw [lg_entry_eq]
  generalize (lg_sl ([.ref al, .int (nI (n + 1))]) ++ List.replicate (4 - (lg_sl ([.ref al, .int (nI (n + 1))])).length) Slot.unset).toArray = ls at hl ⊢
  have hl : lv_has ls 4 [(0, .ref al), (1, .int (nI (n + 1)))] := hl
  refine lv_aload_n hx hb dJx4a65c_grow_92f84_0 rfl (lv_at hl 0 rfl) ?_
  refine mm_get (v := .ref ea) hx hb hf_Jx4a65c (fun _ h9 => h9) hown hK hG h0 rfl 1 (by decide) (tb_use hT tw_266) (fun _ h9 => h9) rfl dJx4a65c_grow_92f84_1 ?_
  refine mm_alen (v := (nI n)) hx hb hK hG 4 h1 rfl rfl dJx4a65c_grow_92f84_4 ?_
  refine lv_istore_n (lv' := [(2, .int (nI n)), (0, .ref al), (1, .int (nI (n + 1)))]) hx hb dJx4a65c_grow_92f84_5 rfl hl (by decide) rfl (fun ls hl => ?_)
  refine lv_iload_n hx hb dJx4a65c_grow_92f84_6 rfl (lv_at hl 0 rfl) ?_
  refine lv_if_gt (tgt := 20) hx hb dJx4a65c_grow_92f84_7 (by decide) (fun c_7 => ?_) (fun c_7 => ?_)
  · skip
    refine lv_iload_n hx hb dJx4a65c_grow_92f84_20 rfl (lv_at hl 0 rfl) ?_
    refine lv_iload_n hx hb dJx4a65c_grow_92f84_21 rfl (lv_at hl 2 rfl) ?_
    refine lv_iload_n hx hb dJx4a65c_grow_92f84_22 rfl (lv_at hl 0 rfl) ?_
    refine lv_isub hx hb dJx4a65c_grow_92f84_23 ?_
    rw [show nI (n + 1) - nI n = 1 from g_sub n (by omega)]
    refine lv_iload_n hx hb dJx4a65c_grow_92f84_24 rfl (lv_at hl 0 rfl) ?_
    refine lv_iconst (v := 1) hx hb dJx4a65c_grow_92f84_25 (by decide) ?_
    refine lv_ishr hx hb dJx4a65c_grow_92f84_26 ?_
    rw [show nI n >>> (1 &&& 31) = nI (n / 2) from g_shr n (by omega)]
    refine va_calli (va_runS (As := [.int (nI n), .int 1, .int (nI (n / 2))]) (rest := []) ⟨hx, hb, hml, hown, (fun _ h9 => absurd h9 List.not_mem_nil : ∀ w ∈ ([] : List Cond), w.before _ s = true)⟩ (c_J8_newLength l D cy A X hst hXT e0 tk hXE G n (n / 2) (by omega) (by omega) (by omega)) (tb_cs 3 hT tw_612 tw_124 tw_610 tw_611 rfl rfl hq_J8_newLength_cabcc ⟨Nat.le_of_ble_eq_true rfl, Nat.le_of_ble_eq_true rfl⟩) (mk_preS hst hG hK hA hX hS) rfl rfl hl.1 rfl (lv_room (Nat.le_of_ble_eq_true rfl)) dJx4a65c_grow_92f84_27 ⟨Nat.le_of_ble_eq_true rfl, Nat.le_of_ble_eq_true rfl⟩) hS (fun q _ h => h) (fun q h => h) (fun r1 G2 t H locs ht hvm hw hB hz1 hk1 hS => ?_)
    have hG : mm D vwCl A G2 H := by rw [← ht]; exact hB
    clear hB hz1 hk1 hvm ht
    obtain ⟨rfl, hw⟩ := hw
    rw [hw] at hG
    refine lv_istore_n (lv' := [(3, .int (nI (n + n / 2))), (2, .int (nI n)), (0, .ref al), (1, .int (nI (n + 1)))]) hx hb dJx4a65c_grow_92f84_30 rfl hl (by decide) rfl (fun ls hl => ?_)
    refine lv_aload_n hx hb dJx4a65c_grow_92f84_31 rfl (lv_at hl 2 rfl) ?_
    refine lv_aload_n hx hb dJx4a65c_grow_92f84_32 rfl (lv_at hl 2 rfl) ?_
    refine mm_get (v := .ref ea) hx hb hf_Jx4a65c (fun _ h9 => h9) hown hK hG h0 rfl 1 (by decide) (tb_use hT tw_266) (fun _ h9 => h9) rfl dJx4a65c_grow_92f84_33 ?_
    refine lv_iload_n hx hb dJx4a65c_grow_92f84_36 rfl (lv_at hl 0 rfl) ?_
    refine va_callq (va_runS (As := [.ref ea, .int (nI (n + n / 2))]) (rest := [.ref al]) ⟨hx, hb, hml, hown, (fun _ h9 => absurd h9 List.not_mem_nil : ∀ w ∈ ([] : List Cond), w.before _ s = true)⟩ (c_J7_copyOf2 l D cy A X hst hXT e0 tk hXE mi hXL G ea n (n + n / 2) gv h1 (by omega) (by omega) hall) (tb_cs 2 hT tw_622 tw_125 tw_620 tw_621 rfl rfl hq_J7_copyOf_1904c ⟨Nat.le_of_ble_eq_true rfl, Nat.le_of_ble_eq_true rfl⟩) (mk_preS hst hG hK hA hX hS) rfl rfl hl.1 rfl (lv_room (Nat.le_of_ble_eq_true rfl)) dJx4a65c_grow_92f84_37 ⟨Nat.le_of_ble_eq_true rfl, (by show 0 + (n + n / 2) ≤ n + n / 2; omega)⟩) hS (fun q _ h => h) (fun q h => h) (fun r3 G4 t H locs ht hvm hw hB hz1 hk1 hS => ?_)
    have hG : mm D vwCl A G4 H := by rw [← ht]; exact hB
    clear hB hz1 hk1 hvm ht
    obtain ⟨q5, rfl, hn_q5, h6_2, h6_f⟩ := hw
    have ne_ea_q5 : ea ≠ q5 := mm_ne_new h1 hn_q5
    have k7 : G4 al = some (.inr (1, [.int mo, .ref ea, .int (nI n)])) := h6_f _ _ h0
    have k8 : G4 ea = some (.inl (cy 4, n, .inr (.inr (.inr (.inr gv))))) := h6_f _ _ h1
    refine lv_dup_x1 hx hb dJx4a65c_grow_92f84_40 rfl rfl ?_
    refine mm_put (v := .ref q5) (ty := .array (.object "java/lang/Object")) hx hb hf_Jx4a65c (fun _ h9 => h9) tyJx4a65c tyJx4a65c_ok nmJx4a65c hown hK hG hS k7 rfl 1 (by decide) (tb_use hT tw_266) (fun _ h9 => h9) rfl (by decide +kernel) rfl rfl (Nat.le_of_ble_eq_true rfl) dJx4a65c_grow_92f84_41 (fun H locs hG hS => ?_)
    obtain ⟨G9, eG9⟩ : ∃ g, g = mm_set G4 al (.inr (1, [.int mo, .ref q5, .int (nI n)])) := ⟨_, rfl⟩
    have hG : mm D vwCl A G9 H := by rw [eG9]; exact hG
    have k10 : G9 al = some (.inr (1, [.int mo, .ref q5, .int (nI n)])) := by rw [eG9]; exact mm_set_self
    have k11 : G9 ea = some (.inl (cy 4, n, .inr (.inr (.inr (.inr gv))))) := by rw [eG9]; exact mm_set_of k8 (mm_ne_ao k8 k7)
    have k12 : G9 q5 = some (.inl (cy 4, (n + n / 2), .inr (.inr (.inr (.inr (va_cpy gv (fun _ => none) 0 0 n)))))) := by rw [eG9]; exact mm_set_of h6_2 (mm_ne_ao h6_2 k7)
    have hfr : ∀ (x : Nat) (e : va_E), G x = some e → x ≠ al → G9 x = some e := by
      intro x e z0 n_al
      have n_q5 : x ≠ q5 := fun z => by rw [z, hn_q5] at z0; cases z0
      have z1 : G4 x = some e := h6_f x e z0
      have z2 : G9 x = some e := by rw [eG9]; exact mm_set_of z1 n_al
      exact z2
    refine W.widen (k := 1) (n := (n + n / 2)) (by omega) (by omega) ?_
    exact W.aret (v := .ref q5) hx hb hr (Or.inr ⟨_, rfl⟩) (Or.inr ⟨_, rfl⟩) (fun t ht hW => ⟨⟨(some q5), _, rfl, ⟨q5, rfl, hn_q5, k10, k12, hfr⟩, mk_end hG ht⟩, hS.F ht⟩) hS.2.2 dJx4a65c_grow_92f84_44
  · skip
    exact absurd (nI_lt (a := 0) (b := n) (by omega) (by omega)) c_7

set_option maxHeartbeats 4000000 in
set_option maxRecDepth 100000 in
theorem c_AL_grow1C (l : Launch) (D : va_G) (cy : Nat → ClassId) (A : Nat → Prop) (X : State → Prop) (hst : mk_St A X) (hXT : ∀ U : State, X U → TB U) (e0 : Nat) (tk : Nat → Nat) (hXE : ∀ U : State, X U → ES e0 tk A U) (mi : Nat) (hXL : ∀ U : State, X U → EL e0 mi A U) (G : Nat → Option va_E) (al ea : Nat) (mo : Int32) (n : Nat) (gv : Nat → Option Nat) (h0 : G al = some (.inr (1, [.int mo, .ref ea, .int (nI n)]))) (h1 : G ea = some (.inl (cy 4, n, .inr (.inr (.inr (.inr gv)))))) (hall : el_ok G n gv) (hn2 : 2 ≤ n) (hn9 : n ≤ 200) : Met l yJx4a65c_grow_d5877 [.code yJx4a65c_grow_d5877 cJx4a65c_grow_d5877 1 (some (.array (.object "java/lang/Object")))] ({ frames := 4, cells := 1, slots := (n + n / 2), locals := 120 }) (mk_Pre D vwCl (tyL cy) A X G [.ref al]) (va_Qq (fun (r : Option Nat) (G2 : Nat → Option va_E) => ∃ qa : Nat, r = some qa ∧ G qa = none ∧ G2 al = some (.inr (1, [.int mo, .ref qa, .int (nI n)])) ∧ G2 qa = some (.inl (cy 4, (n + n / 2), .inr (.inr (.inr (.inr (va_cpy gv (fun _ => none) 0 0 n)))))) ∧ ∀ (x : Nat) (e : va_E), G x = some e → x ≠ al → G2 x = some e) (mk_B D vwCl A) A) 1 (n + n / 2) A := by
  refine Met.ofW (cc := cJx4a65c_grow_d5877) (maxL := 1) (ret := (some (.array (.object "java/lang/Object")))) (by decide) rfl ?_
  intro p e s m args below meth c s₁ B hml hv
  obtain ⟨rfl, hG, hK, hA, hX⟩ := hv
  have hx := B.exec
  have hb := B.bytes
  have hr := B.returns
  have hlocks := B.notSynchronized
  have hT := hXT s hX
  have hown : s.vm.findClass RJx4a65c = some m.cls := findClass_of_methodNamed B.named
  have hf_Jx4a65c : ∀ w ∈ u_ws RJx4a65c TJx4a65c 3, w.before ([.ref al] : List Value).toArray s = true := tb_list hT fJx4a65c
  have hS : va_S A s.heap s.heap [] := va_S.rf
  have hE := hXE s hX
  have hl := lv_entry ([.ref al]) (n := 1) (Nat.le_of_ble_eq_true rfl)
  rw [lg_entry_eq]
  generalize (lg_sl ([.ref al]) ++ List.replicate (1 - (lg_sl ([.ref al])).length) Slot.unset).toArray = ls at hl ⊢
  have hl : lv_has ls 1 [(0, .ref al)] := hl
  refine lv_aload_n hx hb dJx4a65c_grow_d5877_0 rfl (lv_at hl 0 rfl) ?_
  refine lv_aload_n hx hb dJx4a65c_grow_d5877_1 rfl (lv_at hl 0 rfl) ?_
  refine mm_get (v := .int (nI n)) hx hb hf_Jx4a65c (fun _ h9 => h9) hown hK hG h0 rfl 2 (by decide) (tb_use hT tw_267) (fun _ h9 => h9) rfl dJx4a65c_grow_d5877_2 ?_
  refine lv_iconst (v := 1) hx hb dJx4a65c_grow_d5877_5 (by decide) ?_
  refine lv_iadd hx hb dJx4a65c_grow_d5877_6 ?_
  rw [← nI_succ n]
  refine va_callq (va_runV (As := [.int (nI (n + 1))]) (rest := []) ⟨hx, hb, hml, hown, (fun _ h9 => absurd h9 List.not_mem_nil : ∀ w ∈ ([] : List Cond), w.before _ s = true)⟩ (c_AL_grow2C l D cy A X hst hXT e0 tk hXE mi hXL G al ea mo n gv h0 h1 hall hn2 hn9) (tb_cw (C := RJx4a65c) 1 hT tw_609 tw_113 tw_606 tw_608 tw_19 rfl rfl hq_Jx4a65c_grow_92f84 ⟨Nat.le_of_ble_eq_true rfl, Nat.le_of_ble_eq_true rfl⟩) (mk_preC hst hG hK hA hX hS vc_1 h0) rfl rfl hl.1 rfl (lv_room (Nat.le_of_ble_eq_true rfl)) dJx4a65c_grow_d5877_7 ⟨Nat.le_of_ble_eq_true rfl, (by show 0 + (n + n / 2) ≤ n + n / 2; omega)⟩) hS (fun q _ h => h) (fun q h => h) (fun r1 G2 t H locs ht hvm hw hB hz1 hk1 hS => ?_)
  have hG : mm D vwCl A G2 H := by rw [← ht]; exact hB
  clear hB hz1 hk1 hvm ht
  obtain ⟨q3, rfl, hn_q3, h4_1, h4_2, h4_f⟩ := hw
  have ne_ea_q3 : ea ≠ q3 := mm_ne_new h1 hn_q3
  have k5 : G2 ea = some (.inl (cy 4, n, .inr (.inr (.inr (.inr gv))))) := h4_f _ _ h1 (mm_ne_ao h1 h0)
  have hfr : ∀ (x : Nat) (e : va_E), G x = some e → x ≠ al → G2 x = some e := by
    intro x e z0 n_al
    have n_q3 : x ≠ q3 := fun z => by rw [z, hn_q3] at z0; cases z0
    have z1 : G2 x = some e := h4_f x e z0 n_al
    exact z1
  refine W.widen (k := 1) (n := (n + n / 2)) (by omega) (by omega) ?_
  exact W.aret (v := .ref q3) hx hb hr (Or.inr ⟨_, rfl⟩) (Or.inr ⟨_, rfl⟩) (fun t ht hW => ⟨⟨(some q3), _, rfl, ⟨q3, rfl, hn_q3, h4_1, h4_2, hfr⟩, mk_end hG ht⟩, hS.F ht⟩) hS.2.2 dJx4a65c_grow_d5877_10

set_option maxHeartbeats 4000000 in
set_option maxRecDepth 100000 in
theorem c_AL_add3C (l : Launch) (D : va_G) (cy : Nat → ClassId) (A : Nat → Prop) (X : State → Prop) (hst : mk_St A X) (hXT : ∀ U : State, X U → TB U) (e0 : Nat) (tk : Nat → Nat) (hXE : ∀ U : State, X U → ES e0 tk A U) (mi : Nat) (hXL : ∀ U : State, X U → EL e0 mi A U) (G : Nat → Option va_E) (al ea : Nat) (mo : Int32) (n : Nat) (gv : Nat → Option Nat) (xv ci : Nat) (fx : List Value) (rr : vw_C) (h0 : G al = some (.inr (1, [.int mo, .ref ea, .int (nI n)]))) (h1 : G ea = some (.inl (cy 4, n, .inr (.inr (.inr (.inr gv)))))) (hall : el_ok G n gv) (hn2 : 2 ≤ n) (hn9 : n ≤ 200) (hxv : G xv = some (.inr (ci, fx))) (hvr : vwCl[ci]? = some rr) (hci : ci ≠ 1) (hcas : Cond.castable rr.1 "java/lang/Object" ∈ lw_tbl) : Met l yJx4a65c_add_72be8 [.code yJx4a65c_add_72be8 cJx4a65c_add_72be8 4 none] ({ frames := 5, cells := 1, slots := (n + n / 2), locals := 150 }) (mk_Pre D vwCl (tyL cy) A X G [.ref al, .ref xv, .ref ea, .int (nI n)]) (va_Qv (fun (G2 : Nat → Option va_E) => ∃ qa : Nat, G qa = none ∧ G2 al = some (.inr (1, [.int mo, .ref qa, .int (nI (n + 1))])) ∧ G2 qa = some (.inl (cy 4, (n + n / 2), .inr (.inr (.inr (.inr (va_up (va_cpy gv (fun _ => none) 0 0 n) n (some xv))))))) ∧ ∀ (x : Nat) (e : va_E), G x = some e → x ≠ al → G2 x = some e) (mk_B D vwCl A) A) 1 (n + n / 2) A := by
  refine Met.ofW (cc := cJx4a65c_add_72be8) (maxL := 4) (ret := none) (by decide) rfl ?_
  intro p e s m args below meth c s₁ B hml hv
  obtain ⟨rfl, hG, hK, hA, hX⟩ := hv
  have hx := B.exec
  have hb := B.bytes
  have hr := B.returns
  have hlocks := B.notSynchronized
  have hT := hXT s hX
  have hown : s.vm.findClass RJx4a65c = some m.cls := findClass_of_methodNamed B.named
  have hf_Jx4a65c : ∀ w ∈ u_ws RJx4a65c TJx4a65c 3, w.before ([.ref al, .ref xv, .ref ea, .int (nI n)] : List Value).toArray s = true := tb_list hT fJx4a65c
  have hS : va_S A s.heap s.heap [] := va_S.rf
  have hE := hXE s hX
  have hl := lv_entry ([.ref al, .ref xv, .ref ea, .int (nI n)]) (n := 4) (Nat.le_of_ble_eq_true rfl)
  rw [lg_entry_eq]
  generalize (lg_sl ([.ref al, .ref xv, .ref ea, .int (nI n)]) ++ List.replicate (4 - (lg_sl ([.ref al, .ref xv, .ref ea, .int (nI n)])).length) Slot.unset).toArray = ls at hl ⊢
  have hl : lv_has ls 4 [(0, .ref al), (1, .ref xv), (2, .ref ea), (3, .int (nI n))] := hl
  refine lv_iload_n hx hb dJx4a65c_add_72be8_0 rfl (lv_at hl 3 rfl) ?_
  refine lv_aload_n hx hb dJx4a65c_add_72be8_1 rfl (lv_at hl 2 rfl) ?_
  refine mm_alen (v := (nI n)) hx hb hK hG 4 h1 rfl rfl dJx4a65c_add_72be8_2 ?_
  refine lv_icmp_ne (tgt := 11) hx hb dJx4a65c_add_72be8_3 (by decide) (fun c_3 => ?_) (fun c_3 => ?_)
  · skip
    exact absurd rfl c_3
  · skip
    refine lv_aload_n hx hb dJx4a65c_add_72be8_6 rfl (lv_at hl 0 rfl) ?_
    refine va_callq (va_runV (As := []) (rest := []) ⟨hx, hb, hml, hown, (fun _ h9 => absurd h9 List.not_mem_nil : ∀ w ∈ ([] : List Cond), w.before _ s = true)⟩ (c_AL_grow1C l D cy A X hst hXT e0 tk hXE mi hXL G al ea mo n gv h0 h1 hall hn2 hn9) (tb_cw (C := RJx4a65c) 0 hT tw_605 tw_113 tw_602 tw_604 tw_18 rfl rfl hq_Jx4a65c_grow_d5877 ⟨Nat.le_of_ble_eq_true rfl, Nat.le_of_ble_eq_true rfl⟩) (mk_preC hst hG hK hA hX hS vc_1 h0) rfl rfl hl.1 rfl (lv_room (Nat.le_of_ble_eq_true rfl)) dJx4a65c_add_72be8_7 ⟨Nat.le_of_ble_eq_true rfl, (by show 0 + (n + n / 2) ≤ n + n / 2; omega)⟩) hS (fun q _ h => h) (fun q h => h) (fun r1 G2 t H locs ht hvm hw hB hz1 hk1 hS => ?_)
    have hG : mm D vwCl A G2 H := by rw [← ht]; exact hB
    clear hB hz1 hk1 hvm ht
    obtain ⟨q3, rfl, hn_q3, h4_1, h4_2, h4_f⟩ := hw
    have ne_ea_q3 : ea ≠ q3 := mm_ne_new h1 hn_q3
    have k5 : G2 ea = some (.inl (cy 4, n, .inr (.inr (.inr (.inr gv))))) := h4_f _ _ h1 (mm_ne_ao h1 h0)
    have k6 : G2 xv = some (.inr (ci, fx)) := h4_f _ _ hxv (mm_ne_oo hxv h0 hci)
    refine lv_astore_n (lv' := [(2, .ref q3), (0, .ref al), (1, .ref xv), (3, .int (nI n))]) hx hb dJx4a65c_add_72be8_10 rfl hl (by decide) rfl (fun ls hl => ?_)
    refine lv_aload_n hx hb dJx4a65c_add_72be8_11 rfl (lv_at hl 0 rfl) ?_
    refine lv_iload_n hx hb dJx4a65c_add_72be8_12 rfl (lv_at hl 3 rfl) ?_
    refine lv_aload_n hx hb dJx4a65c_add_72be8_13 rfl (lv_at hl 2 rfl) ?_
    refine mm_aastO hx hb hK hG hS 4 ci h4_2 rfl (hT _ hcas rfl) k6 hvr (nI_in (N := n + n / 2) (by omega) (by omega)) dJx4a65c_add_72be8_14 (fun H locs hG hS => ?_)
    obtain ⟨G7, eG7⟩ : ∃ g, g = mm_set G2 q3 (.inl (cy 4, (n + n / 2), .inr (.inr (.inr (.inr (va_up (va_cpy gv (fun _ => none) 0 0 n) (nI n).toNatClampNeg (some xv))))))) := ⟨_, rfl⟩
    have hG : mm D vwCl A G7 H := by rw [eG7]; exact hG
    have k8 : G7 ea = some (.inl (cy 4, n, .inr (.inr (.inr (.inr gv))))) := by rw [eG7]; exact mm_set_of k5 ne_ea_q3
    have k9 : G7 xv = some (.inr (ci, fx)) := by rw [eG7]; exact mm_set_of k6 (mm_ne_oa k6 h4_2)
    have k10 : G7 al = some (.inr (1, [.int mo, .ref q3, .int (nI n)])) := by rw [eG7]; exact mm_set_of h4_1 (mm_ne_oa h4_1 h4_2)
    have k11 : G7 q3 = some (.inl (cy 4, (n + n / 2), .inr (.inr (.inr (.inr (va_up (va_cpy gv (fun _ => none) 0 0 n) (nI n).toNatClampNeg (some xv))))))) := by rw [eG7]; exact mm_set_self
    refine lv_aload_n hx hb dJx4a65c_add_72be8_15 rfl (lv_at hl 1 rfl) ?_
    refine lv_iload_n hx hb dJx4a65c_add_72be8_16 rfl (lv_at hl 3 rfl) ?_
    refine lv_iconst (v := 1) hx hb dJx4a65c_add_72be8_17 (by decide) ?_
    refine lv_iadd hx hb dJx4a65c_add_72be8_18 ?_
    rw [← nI_succ n]
    refine mm_put (v := .int (nI (n + 1))) (ty := .int) hx hb hf_Jx4a65c (fun _ h9 => h9) tyJx4a65c tyJx4a65c_ok nmJx4a65c hown hK hG hS k10 rfl 2 (by decide) (tb_use hT tw_267) (fun _ h9 => h9) rfl (by decide +kernel) rfl rfl (Nat.le_of_ble_eq_true rfl) dJx4a65c_add_72be8_19 (fun H locs hG hS => ?_)
    obtain ⟨G12, eG12⟩ : ∃ g, g = mm_set G7 al (.inr (1, [.int mo, .ref q3, .int (nI (n + 1))])) := ⟨_, rfl⟩
    have hG : mm D vwCl A G12 H := by rw [eG12]; exact hG
    have k13 : G12 ea = some (.inl (cy 4, n, .inr (.inr (.inr (.inr gv))))) := by rw [eG12]; exact mm_set_of k8 (mm_ne_ao k8 k10)
    have k14 : G12 xv = some (.inr (ci, fx)) := by rw [eG12]; exact mm_set_of k9 (mm_ne_oo k9 k10 hci)
    have k15 : G12 al = some (.inr (1, [.int mo, .ref q3, .int (nI (n + 1))])) := by rw [eG12]; exact mm_set_self
    have k16 : G12 q3 = some (.inl (cy 4, (n + n / 2), .inr (.inr (.inr (.inr (va_up (va_cpy gv (fun _ => none) 0 0 n) (nI n).toNatClampNeg (some xv))))))) := by rw [eG12]; exact mm_set_of k11 (mm_ne_ao k11 k10)
    have hfr : ∀ (x : Nat) (e : va_E), G x = some e → x ≠ al → G12 x = some e := by
      intro x e z0 n_al
      have n_q3 : x ≠ q3 := fun z => by rw [z, hn_q3] at z0; cases z0
      have z1 : G2 x = some e := h4_f x e z0 n_al
      have z2 : G7 x = some e := by rw [eG7]; exact mm_set_of z1 n_q3
      have z3 : G12 x = some e := by rw [eG12]; exact mm_set_of z2 n_al
      exact z3
    refine W.widen (k := 1) (n := (n + n / 2)) (by omega) (by omega) ?_
    exact W.vret hx hb hr (fun t ht hW => ⟨⟨_, rfl, ⟨q3, hn_q3, k15, (by have z := k16; rw [nI_clamp (n := n) (by omega)] at z; exact z), hfr⟩, mk_end hG ht⟩, hS.F ht⟩) hS.2.2 dJx4a65c_add_72be8_22

set_option maxHeartbeats 4000000 in
set_option maxRecDepth 100000 in
theorem c_AL_addG (l : Launch) (D : va_G) (cy : Nat → ClassId) (A : Nat → Prop) (X : State → Prop) (hst : mk_St A X) (hXT : ∀ U : State, X U → TB U) (e0 : Nat) (tk : Nat → Nat) (hXE : ∀ U : State, X U → ES e0 tk A U) (mi : Nat) (hXL : ∀ U : State, X U → EL e0 mi A U) (G : Nat → Option va_E) (al ea : Nat) (mo : Int32) (n : Nat) (gv : Nat → Option Nat) (xv ci : Nat) (fx : List Value) (rr : vw_C) (h0 : G al = some (.inr (1, [.int mo, .ref ea, .int (nI n)]))) (h1 : G ea = some (.inl (cy 4, n, .inr (.inr (.inr (.inr gv)))))) (hall : el_ok G n gv) (hn2 : 2 ≤ n) (hn9 : n ≤ 200) (hxv : G xv = some (.inr (ci, fx))) (hvr : vwCl[ci]? = some rr) (hci : ci ≠ 1) (hcas : Cond.castable rr.1 "java/lang/Object" ∈ lw_tbl) : Met l yJx4a65c_add_9ea2d [.code yJx4a65c_add_9ea2d cJx4a65c_add_9ea2d 2 (some .boolean)] ({ frames := 6, cells := 1, slots := (n + n / 2), locals := 180 }) (mk_Pre D vwCl (tyL cy) A X G [.ref al, .ref xv]) (va_Qi (fun (r : Int32) (G2 : Nat → Option va_E) => ∃ qa : Nat, G qa = none ∧ G2 al = some (.inr (1, [.int (mo + 1), .ref qa, .int (nI (n + 1))])) ∧ G2 qa = some (.inl (cy 4, (n + n / 2), .inr (.inr (.inr (.inr (va_up (va_cpy gv (fun _ => none) 0 0 n) n (some xv))))))) ∧ ∀ (x : Nat) (e : va_E), G x = some e → x ≠ al → G2 x = some e) (mk_B D vwCl A) A) 1 (n + n / 2) A := by
  refine Met.ofW (cc := cJx4a65c_add_9ea2d) (maxL := 2) (ret := (some .boolean)) (by decide) rfl ?_
  intro p e s m args below meth c s₁ B hml hv
  obtain ⟨rfl, hG, hK, hA, hX⟩ := hv
  have hx := B.exec
  have hb := B.bytes
  have hr := B.returns
  have hlocks := B.notSynchronized
  have hT := hXT s hX
  have hown : s.vm.findClass RJx4a65c = some m.cls := findClass_of_methodNamed B.named
  have hf_Jx4a65c : ∀ w ∈ u_ws RJx4a65c TJx4a65c 3, w.before ([.ref al, .ref xv] : List Value).toArray s = true := tb_list hT fJx4a65c
  have hS : va_S A s.heap s.heap [] := va_S.rf
  have hE := hXE s hX
  have hl := lv_entry ([.ref al, .ref xv]) (n := 2) (Nat.le_of_ble_eq_true rfl)
  rw [lg_entry_eq]
  generalize (lg_sl ([.ref al, .ref xv]) ++ List.replicate (2 - (lg_sl ([.ref al, .ref xv])).length) Slot.unset).toArray = ls at hl ⊢
  have hl : lv_has ls 2 [(0, .ref al), (1, .ref xv)] := hl
  refine lv_aload_n hx hb dJx4a65c_add_9ea2d_0 rfl (lv_at hl 0 rfl) ?_
  refine lv_dup hx hb dJx4a65c_add_9ea2d_1 rfl ?_
  refine mm_get (v := .int mo) hx hb hf_Jx4a65c (fun _ h9 => h9) hown hK hG h0 rfl 0 (by decide) (tb_use hT tw_269) (u_same (args := #[]) (tb_use hT tw_270)) rfl dJx4a65c_add_9ea2d_2 ?_
  refine lv_iconst (v := 1) hx hb dJx4a65c_add_9ea2d_5 (by decide) ?_
  refine lv_iadd hx hb dJx4a65c_add_9ea2d_6 ?_
  refine lv_topi (fun x1 ex1 => ?_)
  refine mm_put (v := .int x1) (ty := .int) hx hb hf_Jx4a65c (fun _ h9 => h9) tyJx4a65c tyJx4a65c_ok nmJx4a65c hown hK hG hS h0 rfl 0 (by decide) (tb_use hT tw_269) (u_same (args := #[]) (tb_use hT tw_270)) rfl (by decide +kernel) rfl rfl (Nat.le_of_ble_eq_true rfl) dJx4a65c_add_9ea2d_7 (fun H locs hG hS => ?_)
  obtain ⟨G2, eG2⟩ : ∃ g, g = mm_set G al (.inr (1, [.int x1, .ref ea, .int (nI n)])) := ⟨_, rfl⟩
  have hG : mm D vwCl A G2 H := by rw [eG2]; exact hG
  have k3 : G2 al = some (.inr (1, [.int x1, .ref ea, .int (nI n)])) := by rw [eG2]; exact mm_set_self
  have k4 : G2 ea = some (.inl (cy 4, n, .inr (.inr (.inr (.inr gv))))) := by rw [eG2]; exact mm_set_of h1 (mm_ne_ao h1 h0)
  have k5 : G2 xv = some (.inr (ci, fx)) := by rw [eG2]; exact mm_set_of hxv (mm_ne_oo hxv h0 hci)
  refine lv_aload_n hx hb dJx4a65c_add_9ea2d_10 rfl (lv_at hl 0 rfl) ?_
  refine lv_aload_n hx hb dJx4a65c_add_9ea2d_11 rfl (lv_at hl 1 rfl) ?_
  refine lv_aload_n hx hb dJx4a65c_add_9ea2d_12 rfl (lv_at hl 0 rfl) ?_
  refine mm_get (v := .ref ea) hx hb hf_Jx4a65c (fun _ h9 => h9) hown hK hG k3 rfl 1 (by decide) (tb_use hT tw_266) (fun _ h9 => h9) rfl dJx4a65c_add_9ea2d_13 ?_
  refine lv_aload_n hx hb dJx4a65c_add_9ea2d_16 rfl (lv_at hl 0 rfl) ?_
  refine mm_get (v := .int (nI n)) hx hb hf_Jx4a65c (fun _ h9 => h9) hown hK hG k3 rfl 2 (by decide) (tb_use hT tw_267) (fun _ h9 => h9) rfl dJx4a65c_add_9ea2d_17 ?_
  refine va_callv (va_runV (As := [.ref xv, .ref ea, .int (nI n)]) (rest := []) ⟨hx, hb, hml, hown, (fun _ h9 => absurd h9 List.not_mem_nil : ∀ w ∈ ([] : List Cond), w.before _ s = true)⟩ (c_AL_add3C l D cy A X hst hXT e0 tk hXE mi hXL G2 al ea x1 n gv xv ci fx rr k3 k4 (by rw [eG2]; exact hall.put h0) hn2 hn9 k5 hvr hci hcas) (tb_cw (C := RJx4a65c) 3 hT tw_601 tw_113 tw_598 tw_600 tw_17 rfl rfl hq_Jx4a65c_add_72be8 ⟨Nat.le_of_ble_eq_true rfl, Nat.le_of_ble_eq_true rfl⟩) (mk_preC hst hG hK hA hX hS vc_1 k3) rfl rfl hl.1 rfl (lv_room (Nat.le_of_ble_eq_true rfl)) dJx4a65c_add_9ea2d_20 ⟨Nat.le_of_ble_eq_true rfl, (by show 0 + (n + n / 2) ≤ n + n / 2; omega)⟩) hS (fun q _ h => h) (fun q h => h) (fun  G6 t H locs ht hvm hw hB hz1 hk1 hS => ?_)
  have hG : mm D vwCl A G6 H := by rw [← ht]; exact hB
  clear hB hz1 hk1 hvm ht
  obtain ⟨q7, hn_q7, h8_1, h8_2, h8_f⟩ := hw
  rw [eG2] at hn_q7
  replace hn_q7 := mm_none hn_q7
  have k9 : G6 ea = some (.inl (cy 4, n, .inr (.inr (.inr (.inr gv))))) := h8_f _ _ k4 (mm_ne_ao k4 k3)
  have k10 : G6 xv = some (.inr (ci, fx)) := h8_f _ _ k5 (mm_ne_oo k5 k3 hci)
  refine lv_iconst (v := 1) hx hb dJx4a65c_add_9ea2d_23 (by decide) ?_
  have hfr : ∀ (x : Nat) (e : va_E), G x = some e → x ≠ al → G6 x = some e := by
    intro x e z0 n_al
    have n_q7 : x ≠ q7 := fun z => by rw [z, hn_q7] at z0; cases z0
    have z1 : G2 x = some e := by rw [eG2]; exact mm_set_of z0 n_al
    have z2 : G6 x = some e := h8_f x e z1 n_al
    exact z2
  refine W.widen (k := 1) (n := (n + n / 2)) (by omega) (by omega) ?_
  exact W.zret (v := 1) hx hb hr rfl (fun t ht hW => ⟨⟨_, _, rfl, ⟨q7, hn_q7, (by rw [← ex1]; exact h8_1), h8_2, hfr⟩, mk_end hG ht⟩, hS.F ht⟩) hS.2.2 dJx4a65c_add_9ea2d_24
