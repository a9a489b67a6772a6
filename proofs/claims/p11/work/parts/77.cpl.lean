theorem mm_copyl {p : Program} {l : Launch} {e : Env} {R : Room} {s : State} {m : MethodId} {args : Array Value} {below : List Frame} {meth : Method} {c : Code} {H : Heap} {locs : List Loc} {cells slots : Nat} {Q : State → Prop} {cc : ByteArray} {pc : Nat} {ls : Array Slot} {rest : List Value} {D : va_G} {cl : List vw_C} {A : Nat → Prop} {a : Nat} {tys : List (ClassId × FieldType)} {G : Nat → Option va_E} {H0 : Heap} (hexec : p.tables.exec = Jvm.exec) (hb : c.code = cc) (hml : c.maxLocals = ls.size) {own : String} {index : Nat} (hown : s.vm.findClass own = some m.cls) (hlink : (Cond.methodLink own index arraycopyName).before args s = true) (hnat : (Cond.native arraycopyName).before args s = true) (hstat : (Cond.static arraycopyName).before args s = true) (hini : (Cond.initialized "java/lang/System").before args s = true)
    (hK : va_K D cl tys s) (hG : mm D cl A G H) (hS : va_S A H0 H locs) (t0 t1 : Nat) {a0 : Nat} {c0 c1 : ClassId} {n0 n1 : Nat} {f g : Nat → Int64} (ha0 : G a0 = some (.inl (c0, n0, .inr (.inl f)))) (ha1 : G a = some (.inl (c1, n1, .inr (.inl g)))) (ht0 : tys[t0]? = some (c0, .long)) (ht1 : tys[t1]? = some (c1, .long))
    {sp dp n : Int32} (h1 : ¬ sp < 0) (h2 : ¬ dp < 0) (h3 : ¬ n < 0) (h4 : sp.toNatClampNeg + n.toNatClampNeg ≤ n0) (h5 : dp.toNatClampNeg + n.toNatClampNeg ≤ n1)
    (hframes : 1 ≤ R.frames) (hlocals : (rest.map fun v => v.category).sum + (nativeFrameWords "java/lang/System" "arraycopy" 5 + 11) ≤ R.locals) (hdg : decode cc pc = .ok (.invokestatic index, 3))
    (kk : ∀ (H1 : Heap) (locs1 : List Loc), mm D cl A (mm_set G a (.inl (c1, n1, .inr (.inl (va_cpy f g sp.toNatClampNeg dp.toNatClampNeg n.toNatClampNeg))))) H1 → va_S A H0 H1 locs1 → W p l e R s m args below meth c H1 locs1 cells slots Q (F0 m (pc + 3) ls rest)) : W p l e R s m args below meth c H locs cells slots Q (F0 m pc ls (.int n :: .int dp :: .ref a :: .int sp :: .ref a0 :: rest)) := by
  obtain ⟨L, gg, rfl, hP, hD⟩ := hG
  obtain ⟨hL0, hf0⟩ := mm_of_some ha0
  obtain ⟨hL, hf⟩ := mm_of_some ha1
  obtain ⟨q0, hq0⟩ := va_pl_get (X := []) (f := gg) hL0
  obtain ⟨q, hq⟩ := va_pl_get (X := []) (f := gg) hL
  exact va_copyl hexec hb hml hown hlink hnat hstat hini hK hP hD hS q0 q t0 t1 (by rw [← hf0]; exact hq0) (by rw [← hf]; exact hq) ht0 ht1 rfl h1 h2 h3 h4 h5 (fun _ _ => rfl) hframes hlocals hdg (fun H1 locs1 hP1 hD1 hS1 => kk H1 locs1 (mm_wrote hD hL hq hP1 hD1) hS1)
set_option maxHeartbeats 4000000 in
set_option maxRecDepth 100000 in
theorem c_J7_copyOfL (l : Launch) (D : va_G) (cy : Nat → ClassId) (A : Nat → Prop) (X : State → Prop) (hst : mk_St A X) (hXT : ∀ U : State, X U → TB U) (e0 : Nat) (tk : Nat → Nat) (hXE : ∀ U : State, X U → ES e0 tk A U) (mi : Nat) (hXL : ∀ U : State, X U → EL e0 mi A U) (G : Nat → Option va_E) (ea : Nat) (n nn : Nat) (gl : Nat → Int64) (h1 : G ea = some (.inl (cy 2, n, .inr (.inl gl)))) (hnn : n < nn) (h9 : nn ≤ 100000) : Met l yJ7_copyOf_c38d5 [.code yJ7_copyOf_c38d5 cJ7_copyOf_c38d5 3 (some (.array .long))] ({ frames := 1, cells := 1, slots := nn, locals := 30 }) (mk_Pre D vwCl (tyL cy) A X G [.ref ea, .int (nI nn)]) (va_Qq (fun (r : Option Nat) (G2 : Nat → Option va_E) => ∃ qa : Nat, r = some qa ∧ G qa = none ∧ G2 qa = some (.inl (cy 2, nn, .inr (.inl (va_cpy gl (fun _ => 0) 0 0 n)))) ∧ ∀ (x : Nat) (e : va_E), G x = some e → G2 x = some e) (mk_B D vwCl A) A) 1 nn A := by
  refine Met.ofW (cc := cJ7_copyOf_c38d5) (maxL := 3) (ret := (some (.array .long))) (by decide) rfl ?_
  intro p e s m args below meth c s₁ B hml hv
  obtain ⟨rfl, hG, hK, hA, hX⟩ := hv
  have hx := B.exec
  have hb := B.bytes
  have hr := B.returns
  have hlocks := B.notSynchronized
  have hT := hXT s hX
  have hown : s.vm.findClass RJ7 = some m.cls := findClass_of_methodNamed B.named
  have hS : va_S A s.heap s.heap [] := va_S.rf
  have hE := hXE s hX
  have hl := lv_entry ([.ref ea, .int (nI nn)]) (n := 3) (Nat.le_of_ble_eq_true rfl)
  rw [lg_entry_eq]
  generalize (lg_sl ([.ref ea, .int (nI nn)]) ++ List.replicate (3 - (lg_sl ([.ref ea, .int (nI nn)])).length) Slot.unset).toArray = ls at hl ⊢
  have hl : lv_has ls 3 [(0, .ref ea), (1, .int (nI nn))] := hl
  refine lv_iload_n hx hb dJ7_copyOf_c38d5_0 rfl (lv_at hl 1 rfl) ?_
  refine lv_aload_n hx hb dJ7_copyOf_c38d5_1 rfl (lv_at hl 0 rfl) ?_
  refine mm_alen (v := (nI n)) hx hb hK hG 2 h1 rfl rfl dJ7_copyOf_c38d5_2 ?_
  refine lv_icmp_ne (tgt := 14) hx hb dJ7_copyOf_c38d5_3 (by decide) (fun c_3 => ?_) (fun c_3 => ?_)
  · skip
    refine lv_iload_n hx hb dJ7_copyOf_c38d5_14 rfl (lv_at hl 1 rfl) ?_
    refine mm_newa (n := (nI nn)) (atype := .long) (ty := .long) (N' := nn) (a0 := (nn, .inr (.inl (fun _ => 0)))) hx hb (tb_arr hT tw_176) rfl hK hG hS hA 2 rfl (fun cA => rfl) (nI_pos (by omega)) (nI_clamp (by omega)) (by show nn * 8 ≤ 536870912; omega) (by exact Nat.le_of_ble_eq_true rfl) (by show 0 + nn ≤ nn; omega) dJ7_copyOf_c38d5_15 (fun q21 H hn_q21 hG hS => ?_)
    obtain ⟨G22, eG22⟩ : ∃ g, g = mm_set G q21 (.inl (cy 2, nn, .inr (.inl (fun _ => 0)))) := ⟨_, rfl⟩
    have hG : mm D vwCl A G22 H := by rw [eG22]; exact hG
    have ne_ea_q21 : ea ≠ q21 := mm_ne_new h1 hn_q21
    have k23 : G22 ea = some (.inl (cy 2, n, .inr (.inl gl))) := by rw [eG22]; exact mm_set_new h1 hn_q21
    have k24 : G22 q21 = some (.inl (cy 2, nn, .inr (.inl (fun _ => 0)))) := by rw [eG22]; exact mm_set_self
    refine lv_astore_n (lv' := [(2, .ref q21), (0, .ref ea), (1, .int (nI nn))]) hx hb dJ7_copyOf_c38d5_17 rfl hl (by decide) rfl (fun ls hl => ?_)
    refine lv_aload_n hx hb dJ7_copyOf_c38d5_18 rfl (lv_at hl 1 rfl) ?_
    refine lv_iconst (v := 0) hx hb dJ7_copyOf_c38d5_19 (by decide) ?_
    refine lv_aload_n hx hb dJ7_copyOf_c38d5_20 rfl (lv_at hl 0 rfl) ?_
    refine lv_iconst (v := 0) hx hb dJ7_copyOf_c38d5_21 (by decide) ?_
    refine lv_aload_n hx hb dJ7_copyOf_c38d5_22 rfl (lv_at hl 1 rfl) ?_
    refine mm_alen (v := (nI n)) hx hb hK hG 2 k23 rfl rfl dJ7_copyOf_c38d5_23 ?_
    refine lv_iload_n hx hb dJ7_copyOf_c38d5_24 rfl (lv_at hl 2 rfl) ?_
    refine va_mmin hx hb (by rw [hml]; exact hl.1.symm) hown (tb_use hT tw_649) (tb_use hT tw_334) (tb_use hT tw_114) (tb_use hT tw_335) (Nat.le_of_ble_eq_true rfl) (Nat.le_of_ble_eq_true rfl) (Nat.le_of_ble_eq_true rfl) (by show 0 + nn ≤ nn; omega) dJ7_copyOf_c38d5_25 ?_
    rw [show (if nI nn < nI n then nI nn else nI n) = nI n from if_neg (nI_nlt (by omega) (by omega))]
    refine mm_copyl (sp := 0) (dp := 0) (n := (nI n)) hx hb (by rw [hml]; exact hl.1.symm) hown (tb_use hT tw_650) (tb_use hT tw_652) (tb_use hT tw_651) (tb_use hT tw_126) hK hG hS 2 2 k23 k24 rfl rfl (by decide) (by decide) (nI_pos (by omega)) (by rw [nI_clamp (n := n) (by omega)]; show 0 + n ≤ n; omega) (by rw [nI_clamp (n := n) (by omega)]; show 0 + n ≤ nn; omega) (Nat.le_of_ble_eq_true rfl) (Nat.le_of_ble_eq_true rfl) dJ7_copyOf_c38d5_28 (fun H locs hG hS => ?_)
    obtain ⟨G25, eG25⟩ : ∃ g, g = mm_set G22 q21 (.inl (cy 2, nn, .inr (.inl (va_cpy gl (fun _ => 0) (0 : Int32).toNatClampNeg (0 : Int32).toNatClampNeg ((nI n) : Int32).toNatClampNeg)))) := ⟨_, rfl⟩
    have hG : mm D vwCl A G25 H := by rw [eG25]; exact hG
    have k26 : G25 ea = some (.inl (cy 2, n, .inr (.inl gl))) := by rw [eG25]; exact mm_set_of k23 ne_ea_q21
    have k27 : G25 q21 = some (.inl (cy 2, nn, .inr (.inl (va_cpy gl (fun _ => 0) (0 : Int32).toNatClampNeg (0 : Int32).toNatClampNeg ((nI n) : Int32).toNatClampNeg)))) := by rw [eG25]; exact mm_set_self
    refine lv_aload_n hx hb dJ7_copyOf_c38d5_31 rfl (lv_at hl 0 rfl) ?_
    have hfr : ∀ (x : Nat) (e : va_E), G x = some e → G25 x = some e := by
      intro x e z0
      have n_q21 : x ≠ q21 := fun z => by rw [z, hn_q21] at z0; cases z0
      have n_q21 : x ≠ q21 := fun z => by rw [z, hn_q21] at z0; cases z0
      have z1 : G22 x = some e := by rw [eG22]; exact mm_set_of z0 n_q21
      have z2 : G25 x = some e := by rw [eG25]; exact mm_set_of z1 n_q21
      exact z2
    refine W.widen (k := 1) (n := nn) (by omega) (by omega) ?_
    exact W.aret (v := .ref q21) hx hb hr (Or.inr ⟨_, rfl⟩) (Or.inr ⟨_, rfl⟩) (fun t ht hW => ⟨⟨(some q21), _, rfl, ⟨q21, rfl, hn_q21, (by have z := k27; rw [nI_clamp (n := n) (by omega)] at z; exact z), hfr⟩, mk_end hG ht⟩, hS.F ht⟩) hS.2.2 dJ7_copyOf_c38d5_32
  · skip
    exact absurd (nI_inj (by omega) (by omega) c_3) (by omega)
