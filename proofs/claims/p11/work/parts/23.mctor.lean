/-- cells that are arrays, all different -/
def gl (G : Nat → Option va_E) (Ls : List (Nat × (ClassId × vp_A))) : Prop := (∀ x ∈ Ls, G x.1 = some (.inl x.2)) ∧ (Ls.map Prod.fst).Nodup
theorem gl_nil {G : Nat → Option va_E} : gl G [] := ⟨fun x h => absurd h List.not_mem_nil, List.nodup_nil⟩
theorem gl_new {G : Nat → Option va_E} {Ls : List (Nat × (ClassId × vp_A))} {q : Nat} {y : ClassId × vp_A} (h : gl G Ls) (hn : G q = none) : gl (mm_set G q (.inl y)) ((q, y) :: Ls) := by
  refine ⟨fun x hx => ?_, List.nodup_cons.mpr ⟨fun hm => ?_, h.2⟩⟩
  · rcases List.mem_cons.mp hx with rfl | hx
    · exact mm_set_self
    · exact mm_set_new (h.1 x hx) hn
  · obtain ⟨x, hx, ex⟩ := List.mem_map.mp hm
    have h2 := h.1 x hx
    rw [ex, hn] at h2
    cases h2
theorem gl_wr {G : Nat → Option va_E} {Ls : List (Nat × (ClassId × vp_A))} {o : Nat} {z : Nat × List Value} {e' : va_E} (h : gl G Ls) (ho : G o = some (.inr z)) : gl (mm_set G o e') Ls := ⟨fun x hx => mm_set_of (h.1 x hx) (mm_ne_ao (h.1 x hx) ho), h.2⟩
/-- what stood stands still, but for o -/
def FRo (G G2 : Nat → Option va_E) (o : Nat) : Prop := ∀ (x : Nat) (e : va_E), G x = some e → x ≠ o → G2 x = some e
theorem FRo.rf {G : Nat → Option va_E} {o : Nat} : FRo G G o := fun _ _ h _ => h
theorem FRo.new {G G1 : Nat → Option va_E} {o q : Nat} {e' : va_E} (h : FRo G G1 o) (hn : G1 q = none) : FRo G (mm_set G1 q e') o := fun x e h0 h1 => mm_set_new (h x e h0 h1) hn
theorem FRo.wr {G G1 : Nat → Option va_E} {o : Nat} {e' : va_E} (h : FRo G G1 o) : FRo G (mm_set G1 o e') o := fun x e h0 h1 => mm_set_of (h x e h0 h1) h1
theorem FRo.none {G G1 : Nat → Option va_E} {o q : Nat} {z : va_E} (h : FRo G G1 o) (ho : G1 o = some z) (hn : G1 q = none) : G q = none := by
  cases hq : G q with
  | none => rfl
  | some e =>
    have hne : q ≠ o := fun e2 => by rw [e2, ho] at hn; cases hn
    rw [h q e hq hne] at hn
    cases hn
theorem nd_inj : ∀ {l : List Nat}, l.Nodup → ∀ (i j a : Nat), l[i]? = some a → l[j]? = some a → i = j
  | [], _, i, j, a, h1, _ => by simp at h1
  | b :: l, hn, 0, 0, a, _, _ => rfl
  | b :: l, hn, 0, j + 1, a, h1, h2 => by
    rw [List.getElem?_cons_zero] at h1
    rw [List.getElem?_cons_succ] at h2
    cases h1
    exact absurd (List.mem_of_getElem? h2) (List.nodup_cons.mp hn).1
  | b :: l, hn, i + 1, 0, a, h1, h2 => by
    rw [List.getElem?_cons_succ] at h1
    rw [List.getElem?_cons_zero] at h2
    cases h2
    exact absurd (List.mem_of_getElem? h1) (List.nodup_cons.mp hn).1
  | b :: l, hn, i + 1, j + 1, a, h1, h2 => by
    rw [List.getElem?_cons_succ] at h1 h2
    rw [nd_inj (List.nodup_cons.mp hn).2 i j a h1 h2]
def mI0 (k : Nat) : Int32 := if k = 42 then 1 else 0
def mdP (k : Nat) : Nat := match k with
  | 0 => 53
  | 1 => 52
  | 2 => 51
  | 3 => 50
  | 4 => 49
  | 5 => 48
  | 6 => 47
  | 7 => 46
  | 8 => 45
  | 9 => 44
  | 10 => 43
  | 11 => 42
  | 12 => 41
  | 13 => 40
  | 14 => 39
  | 15 => 38
  | 16 => 37
  | 17 => 36
  | 18 => 35
  | 19 => 34
  | 20 => 33
  | 21 => 32
  | 22 => 31
  | 23 => 30
  | 24 => 29
  | 25 => 28
  | 26 => 27
  | 27 => 26
  | 28 => 25
  | 29 => 24
  | 30 => 23
  | 31 => 22
  | 32 => 21
  | 33 => 20
  | 34 => 19
  | 35 => 18
  | 36 => 17
  | 37 => 16
  | 40 => 15
  | 45 => 14
  | 46 => 13
  | 59 => 12
  | 60 => 11
  | 61 => 10
  | 62 => 9
  | 64 => 8
  | 65 => 7
  | 67 => 6
  | 70 => 5
  | 71 => 4
  | 72 => 3
  | 73 => 2
  | 74 => 1
  | 75 => 0
  | _ => 0
theorem mdR_lt {k : Nat} (h : mdR k = true) : k < 76 := by
  rcases Nat.lt_or_ge k 76 with q | q
  · exact q
  · exfalso
    obtain ⟨j, rfl⟩ : ∃ j, k = j + 76 := ⟨k - 76, by omega⟩
    simp [mdR, mdI, mdJ] at h
theorem mdP_inj : ∀ j, j < 76 → ∀ k, k < 76 → mdR j = true → mdR k = true → mdP j = mdP k → j = k := by decide +kernel
set_option maxHeartbeats 4000000 in
set_option maxRecDepth 100000 in
theorem c_X14_init (l : Launch) (D : va_G) (cy : Nat → ClassId) (A : Nat → Prop) (X : State → Prop) (hst : mk_St A X) (hXT : ∀ U : State, X U → TB U) (G : Nat → Option va_E) (o : Nat) (h0 : G o = some (.inr (15, [.null, .null, .null, .null, .null, .null, .null, .null, .null, .null, .null, .null, .null, .null, .null, .null, .null, .null, .null, .null, .null, .null, .null, .null, .null, .null, .null, .null, .null, .null, .null, .null, .null, .null, .null, .null, .null, .null, .int 0, .int 0, .null, .int 0, .int 0, .int 0, .int 0, .null, .null, .null, .int 0, .int 0, .int 0, .int 0, .int 0, .int 0, .int 0, .int 0, .int 0, .int 0, .int 0, .null, .null, .null, .null, .int 0, .null, .null, .int 0, .null, .int 0, .int 0, .null, .null, .null, .null, .null, .null]))) : Met l yX14_init [.code yX14_init cX14_init 1 none] ({ frames := 1, cells := 54, slots := 48826, locals := 12 }) (mk_Pre D vwCl (tyL cy) A X G [.ref o]) (va_Qv (fun (G2 : Nat → Option va_E) => ∃ Ar : Nat → Nat, MD cy G2 o Ar mI0 (fun _ _ => 0) (fun _ _ => 0) ∧ Ar 47 = Ar 40 ∧ (∀ k, mdR k = true → G (Ar k) = none) ∧ FRo G G2 o) (mk_B D vwCl A) A) 54 48826 A := by
  refine Met.ofW (cc := cX14_init) (maxL := 1) (ret := none) (by decide) rfl ?_
  intro p e s m args below meth c s₁ B hml hv
  obtain ⟨rfl, hG, hK, hA, hX⟩ := hv
  have hx := B.exec
  have hb := B.bytes
  have hr := B.returns
  have hlocks := B.notSynchronized
  have hT := hXT s hX
  have hown : s.vm.findClass RX14 = some m.cls := findClass_of_methodNamed B.named
  have hin : meth.name = "<init>" := (name_of_methodNamed B.named B.method).1
  have hf_X14 : ∀ w ∈ u_ws RX14 TX14 76, w.before ([.ref o] : List Value).toArray s = true := tb_list hT fX14
  have hS : va_S A s.heap s.heap [] := va_S.rf
  have hl := lv_entry ([.ref o]) (n := 1) (Nat.le_of_ble_eq_true rfl)
  rw [lg_entry_eq]
  generalize (lg_sl ([.ref o]) ++ List.replicate (1 - (lg_sl ([.ref o])).length) Slot.unset).toArray = ls at hl ⊢
  have hl : lv_has ls 1 [(0, .ref o)] := hl
  have hgl : gl G [] := gl_nil
  have hfr : FRo G G o := FRo.rf
  obtain ⟨fs0, efs0⟩ : ∃ z : List Value, z = [.null, .null, .null, .null, .null, .null, .null, .null, .null, .null, .null, .null, .null, .null, .null, .null, .null, .null, .null, .null, .null, .null, .null, .null, .null, .null, .null, .null, .null, .null, .null, .null, .null, .null, .null, .null, .null, .null, .int 0, .int 0, .null, .int 0, .int 0, .int 0, .int 0, .null, .null, .null, .int 0, .int 0, .int 0, .int 0, .int 0, .int 0, .int 0, .int 0, .int 0, .int 0, .int 0, .null, .null, .null, .null, .int 0, .null, .null, .int 0, .null, .int 0, .int 0, .null, .null, .null, .null, .null, .null] := ⟨_, rfl⟩
  have ko : G o = some (.inr (15, fs0)) := by rw [efs0]; exact h0
  have hlen : fs0.length = 76 := by rw [efs0]; rfl
  refine lv_aload_n hx hb dX14_init_0 rfl (lv_at hl 0 rfl) ?_
  refine W.objInit hx hb hown (tb_use hT tw_1390) (tb_use hT tw_144) (tb_use hT tw_145) rfl (by rw [hml]; exact hl.1) rfl dX14_init_1 (Nat.le_of_ble_eq_true rfl) (Nat.le_of_ble_eq_true rfl) ?_
  refine W.eq (g2 := F0 m 4 ls []) rfl ?_
  refine lv_aload_n hx hb dX14_init_4 rfl (lv_at hl 0 rfl) ?_
  refine lv_iconst (v := 2) hx hb dX14_init_5 (by decide) ?_
  refine mm_newa (n := 2) (atype := .int) (ty := .int) (N' := 2) (a0 := (2, .inl (fun _ => 0))) hx hb (tb_arr hT tw_175) rfl hK hG hS hA 1 rfl (fun cA => rfl) (by decide) (by decide) (by decide) (by exact Nat.le_of_ble_eq_true rfl) (by exact Nat.le_of_ble_eq_true rfl) dX14_init_6 (fun q1 H hn_q1 hG hS => ?_)
  replace hgl := gl_new (y := (cy 1, 2, .inl (fun _ => 0))) hgl hn_q1
  have fz_q1 : G q1 = none := hfr.none ko hn_q1
  replace hfr := hfr.new (e' := .inl (cy 1, 2, .inl (fun _ => 0))) hn_q1
  replace ko := mm_set_new (e := .inl (cy 1, 2, .inl (fun _ => 0))) ko hn_q1
  obtain ⟨Lz3, eLz3⟩ : ∃ z, z = (q1, ((cy 1, 2, .inl (fun _ => 0)) : ClassId × vp_A)) :: [] := ⟨_, rfl⟩
  rw [← eLz3] at hgl
  clear hn_q1
  generalize mm_set _ _ _ = G2 at hG hgl hfr ko
  refine mm_putF (v := .ref q1) (ty := .array .int) hx hb hf_X14 (fun _ h9 => h9) tyX14 tyX14_ok nmX14 hown hK hG hS ko rfl 0 (by decide) (tb_use hT tw_1391) (fun _ h9 => h9) rfl hin rfl (by decide +kernel) rfl rfl (by rw [hlen]; decide) dX14_init_8 (fun H locs hG hS => ?_)
  obtain ⟨fs4, efs4⟩ : ∃ z : List Value, z = [.ref q1, .null, .null, .null, .null, .null, .null, .null, .null, .null, .null, .null, .null, .null, .null, .null, .null, .null, .null, .null, .null, .null, .null, .null, .null, .null, .null, .null, .null, .null, .null, .null, .null, .null, .null, .null, .null, .null, .int 0, .int 0, .null, .int 0, .int 0, .int 0, .int 0, .null, .null, .null, .int 0, .int 0, .int 0, .int 0, .int 0, .int 0, .int 0, .int 0, .int 0, .int 0, .int 0, .null, .null, .null, .null, .int 0, .null, .null, .int 0, .null, .int 0, .int 0, .null, .null, .null, .null, .null, .null] := ⟨_, rfl⟩
  have es : fs0.set 0 (.ref q1) = fs4 := by rw [efs0, efs4]; rfl
  rw [es] at hG
  replace hlen : fs4.length = 76 := by rw [efs4]; rfl
  clear es efs0
  replace hgl := gl_wr (e' := .inr (15, fs4)) hgl ko
  replace hfr := hfr.wr (e' := .inr (15, fs4))
  replace ko : mm_set G2 o (.inr (15, fs4)) o = some (.inr (15, fs4)) := mm_set_self
  generalize mm_set _ _ _ = G5 at hG hgl hfr ko
  refine lv_aload_n hx hb dX14_init_11 rfl (lv_at hl 0 rfl) ?_
  refine lv_iconst (v := 2) hx hb dX14_init_12 (by decide) ?_
  refine mm_newa (n := 2) (atype := .int) (ty := .int) (N' := 2) (a0 := (2, .inl (fun _ => 0))) hx hb (tb_arr hT tw_175) rfl hK hG hS hA 1 rfl (fun cA => rfl) (by decide) (by decide) (by decide) (by exact Nat.le_of_ble_eq_true rfl) (by exact Nat.le_of_ble_eq_true rfl) dX14_init_13 (fun q6 H hn_q6 hG hS => ?_)
  replace hgl := gl_new (y := (cy 1, 2, .inl (fun _ => 0))) hgl hn_q6
  have fz_q6 : G q6 = none := hfr.none ko hn_q6
  replace hfr := hfr.new (e' := .inl (cy 1, 2, .inl (fun _ => 0))) hn_q6
  replace ko := mm_set_new (e := .inl (cy 1, 2, .inl (fun _ => 0))) ko hn_q6
  obtain ⟨Lz8, eLz8⟩ : ∃ z, z = (q6, ((cy 1, 2, .inl (fun _ => 0)) : ClassId × vp_A)) :: Lz3 := ⟨_, rfl⟩
  rw [← eLz8] at hgl
  clear hn_q6
  generalize mm_set _ _ _ = G7 at hG hgl hfr ko
  refine mm_putF (v := .ref q6) (ty := .array .int) hx hb hf_X14 (fun _ h9 => h9) tyX14 tyX14_ok nmX14 hown hK hG hS ko rfl 1 (by decide) (tb_use hT tw_1392) (fun _ h9 => h9) rfl hin rfl (by decide +kernel) rfl rfl (by rw [hlen]; decide) dX14_init_15 (fun H locs hG hS => ?_)
  obtain ⟨fs9, efs9⟩ : ∃ z : List Value, z = [.ref q1, .ref q6, .null, .null, .null, .null, .null, .null, .null, .null, .null, .null, .null, .null, .null, .null, .null, .null, .null, .null, .null, .null, .null, .null, .null, .null, .null, .null, .null, .null, .null, .null, .null, .null, .null, .null, .null, .null, .int 0, .int 0, .null, .int 0, .int 0, .int 0, .int 0, .null, .null, .null, .int 0, .int 0, .int 0, .int 0, .int 0, .int 0, .int 0, .int 0, .int 0, .int 0, .int 0, .null, .null, .null, .null, .int 0, .null, .null, .int 0, .null, .int 0, .int 0, .null, .null, .null, .null, .null, .null] := ⟨_, rfl⟩
  have es : fs4.set 1 (.ref q6) = fs9 := by rw [efs4, efs9]; rfl
  rw [es] at hG
  replace hlen : fs9.length = 76 := by rw [efs9]; rfl
  clear es efs4
  replace hgl := gl_wr (e' := .inr (15, fs9)) hgl ko
  replace hfr := hfr.wr (e' := .inr (15, fs9))
  replace ko : mm_set G7 o (.inr (15, fs9)) o = some (.inr (15, fs9)) := mm_set_self
  generalize mm_set _ _ _ = G10 at hG hgl hfr ko
  refine lv_aload_n hx hb dX14_init_18 rfl (lv_at hl 0 rfl) ?_
  refine lv_iconst (v := 2) hx hb dX14_init_19 (by decide) ?_
  refine mm_newa (n := 2) (atype := .int) (ty := .int) (N' := 2) (a0 := (2, .inl (fun _ => 0))) hx hb (tb_arr hT tw_175) rfl hK hG hS hA 1 rfl (fun cA => rfl) (by decide) (by decide) (by decide) (by exact Nat.le_of_ble_eq_true rfl) (by exact Nat.le_of_ble_eq_true rfl) dX14_init_20 (fun q11 H hn_q11 hG hS => ?_)
  replace hgl := gl_new (y := (cy 1, 2, .inl (fun _ => 0))) hgl hn_q11
  have fz_q11 : G q11 = none := hfr.none ko hn_q11
  replace hfr := hfr.new (e' := .inl (cy 1, 2, .inl (fun _ => 0))) hn_q11
  replace ko := mm_set_new (e := .inl (cy 1, 2, .inl (fun _ => 0))) ko hn_q11
  obtain ⟨Lz13, eLz13⟩ : ∃ z, z = (q11, ((cy 1, 2, .inl (fun _ => 0)) : ClassId × vp_A)) :: Lz8 := ⟨_, rfl⟩
  rw [← eLz13] at hgl
  clear hn_q11
  generalize mm_set _ _ _ = G12 at hG hgl hfr ko
  refine mm_putF (v := .ref q11) (ty := .array .int) hx hb hf_X14 (fun _ h9 => h9) tyX14 tyX14_ok nmX14 hown hK hG hS ko rfl 2 (by decide) (tb_use hT tw_1393) (fun _ h9 => h9) rfl hin rfl (by decide +kernel) rfl rfl (by rw [hlen]; decide) dX14_init_22 (fun H locs hG hS => ?_)
  obtain ⟨fs14, efs14⟩ : ∃ z : List Value, z = [.ref q1, .ref q6, .ref q11, .null, .null, .null, .null, .null, .null, .null, .null, .null, .null, .null, .null, .null, .null, .null, .null, .null, .null, .null, .null, .null, .null, .null, .null, .null, .null, .null, .null, .null, .null, .null, .null, .null, .null, .null, .int 0, .int 0, .null, .int 0, .int 0, .int 0, .int 0, .null, .null, .null, .int 0, .int 0, .int 0, .int 0, .int 0, .int 0, .int 0, .int 0, .int 0, .int 0, .int 0, .null, .null, .null, .null, .int 0, .null, .null, .int 0, .null, .int 0, .int 0, .null, .null, .null, .null, .null, .null] := ⟨_, rfl⟩
  have es : fs9.set 2 (.ref q11) = fs14 := by rw [efs9, efs14]; rfl
  rw [es] at hG
  replace hlen : fs14.length = 76 := by rw [efs14]; rfl
  clear es efs9
  replace hgl := gl_wr (e' := .inr (15, fs14)) hgl ko
  replace hfr := hfr.wr (e' := .inr (15, fs14))
  replace ko : mm_set G12 o (.inr (15, fs14)) o = some (.inr (15, fs14)) := mm_set_self
  generalize mm_set _ _ _ = G15 at hG hgl hfr ko
  refine lv_aload_n hx hb dX14_init_25 rfl (lv_at hl 0 rfl) ?_
  refine lv_iconst (v := 2) hx hb dX14_init_26 (by decide) ?_
  refine mm_newa (n := 2) (atype := .int) (ty := .int) (N' := 2) (a0 := (2, .inl (fun _ => 0))) hx hb (tb_arr hT tw_175) rfl hK hG hS hA 1 rfl (fun cA => rfl) (by decide) (by decide) (by decide) (by exact Nat.le_of_ble_eq_true rfl) (by exact Nat.le_of_ble_eq_true rfl) dX14_init_27 (fun q16 H hn_q16 hG hS => ?_)
  replace hgl := gl_new (y := (cy 1, 2, .inl (fun _ => 0))) hgl hn_q16
  have fz_q16 : G q16 = none := hfr.none ko hn_q16
  replace hfr := hfr.new (e' := .inl (cy 1, 2, .inl (fun _ => 0))) hn_q16
  replace ko := mm_set_new (e := .inl (cy 1, 2, .inl (fun _ => 0))) ko hn_q16
  obtain ⟨Lz18, eLz18⟩ : ∃ z, z = (q16, ((cy 1, 2, .inl (fun _ => 0)) : ClassId × vp_A)) :: Lz13 := ⟨_, rfl⟩
  rw [← eLz18] at hgl
  clear hn_q16
  generalize mm_set _ _ _ = G17 at hG hgl hfr ko
  refine mm_putF (v := .ref q16) (ty := .array .int) hx hb hf_X14 (fun _ h9 => h9) tyX14 tyX14_ok nmX14 hown hK hG hS ko rfl 3 (by decide) (tb_use hT tw_1394) (fun _ h9 => h9) rfl hin rfl (by decide +kernel) rfl rfl (by rw [hlen]; decide) dX14_init_29 (fun H locs hG hS => ?_)
  obtain ⟨fs19, efs19⟩ : ∃ z : List Value, z = [.ref q1, .ref q6, .ref q11, .ref q16, .null, .null, .null, .null, .null, .null, .null, .null, .null, .null, .null, .null, .null, .null, .null, .null, .null, .null, .null, .null, .null, .null, .null, .null, .null, .null, .null, .null, .null, .null, .null, .null, .null, .null, .int 0, .int 0, .null, .int 0, .int 0, .int 0, .int 0, .null, .null, .null, .int 0, .int 0, .int 0, .int 0, .int 0, .int 0, .int 0, .int 0, .int 0, .int 0, .int 0, .null, .null, .null, .null, .int 0, .null, .null, .int 0, .null, .int 0, .int 0, .null, .null, .null, .null, .null, .null] := ⟨_, rfl⟩
  have es : fs14.set 3 (.ref q16) = fs19 := by rw [efs14, efs19]; rfl
  rw [es] at hG
  replace hlen : fs19.length = 76 := by rw [efs19]; rfl
  clear es efs14
  replace hgl := gl_wr (e' := .inr (15, fs19)) hgl ko
  replace hfr := hfr.wr (e' := .inr (15, fs19))
  replace ko : mm_set G17 o (.inr (15, fs19)) o = some (.inr (15, fs19)) := mm_set_self
  generalize mm_set _ _ _ = G20 at hG hgl hfr ko
  refine lv_aload_n hx hb dX14_init_32 rfl (lv_at hl 0 rfl) ?_
  refine lv_iconst (v := 2) hx hb dX14_init_33 (by decide) ?_
  refine mm_newa (n := 2) (atype := .int) (ty := .int) (N' := 2) (a0 := (2, .inl (fun _ => 0))) hx hb (tb_arr hT tw_175) rfl hK hG hS hA 1 rfl (fun cA => rfl) (by decide) (by decide) (by decide) (by exact Nat.le_of_ble_eq_true rfl) (by exact Nat.le_of_ble_eq_true rfl) dX14_init_34 (fun q21 H hn_q21 hG hS => ?_)
  replace hgl := gl_new (y := (cy 1, 2, .inl (fun _ => 0))) hgl hn_q21
  have fz_q21 : G q21 = none := hfr.none ko hn_q21
  replace hfr := hfr.new (e' := .inl (cy 1, 2, .inl (fun _ => 0))) hn_q21
  replace ko := mm_set_new (e := .inl (cy 1, 2, .inl (fun _ => 0))) ko hn_q21
  obtain ⟨Lz23, eLz23⟩ : ∃ z, z = (q21, ((cy 1, 2, .inl (fun _ => 0)) : ClassId × vp_A)) :: Lz18 := ⟨_, rfl⟩
  rw [← eLz23] at hgl
  clear hn_q21
  generalize mm_set _ _ _ = G22 at hG hgl hfr ko
  refine mm_putF (v := .ref q21) (ty := .array .int) hx hb hf_X14 (fun _ h9 => h9) tyX14 tyX14_ok nmX14 hown hK hG hS ko rfl 4 (by decide) (tb_use hT tw_1395) (fun _ h9 => h9) rfl hin rfl (by decide +kernel) rfl rfl (by rw [hlen]; decide) dX14_init_36 (fun H locs hG hS => ?_)
  obtain ⟨fs24, efs24⟩ : ∃ z : List Value, z = [.ref q1, .ref q6, .ref q11, .ref q16, .ref q21, .null, .null, .null, .null, .null, .null, .null, .null, .null, .null, .null, .null, .null, .null, .null, .null, .null, .null, .null, .null, .null, .null, .null, .null, .null, .null, .null, .null, .null, .null, .null, .null, .null, .int 0, .int 0, .null, .int 0, .int 0, .int 0, .int 0, .null, .null, .null, .int 0, .int 0, .int 0, .int 0, .int 0, .int 0, .int 0, .int 0, .int 0, .int 0, .int 0, .null, .null, .null, .null, .int 0, .null, .null, .int 0, .null, .int 0, .int 0, .null, .null, .null, .null, .null, .null] := ⟨_, rfl⟩
  have es : fs19.set 4 (.ref q21) = fs24 := by rw [efs19, efs24]; rfl
  rw [es] at hG
  replace hlen : fs24.length = 76 := by rw [efs24]; rfl
  clear es efs19
  replace hgl := gl_wr (e' := .inr (15, fs24)) hgl ko
  replace hfr := hfr.wr (e' := .inr (15, fs24))
  replace ko : mm_set G22 o (.inr (15, fs24)) o = some (.inr (15, fs24)) := mm_set_self
  generalize mm_set _ _ _ = G25 at hG hgl hfr ko
  refine lv_aload_n hx hb dX14_init_39 rfl (lv_at hl 0 rfl) ?_
  refine lv_iconst (v := 2) hx hb dX14_init_40 (by decide) ?_
  refine mm_newa (n := 2) (atype := .int) (ty := .int) (N' := 2) (a0 := (2, .inl (fun _ => 0))) hx hb (tb_arr hT tw_175) rfl hK hG hS hA 1 rfl (fun cA => rfl) (by decide) (by decide) (by decide) (by exact Nat.le_of_ble_eq_true rfl) (by exact Nat.le_of_ble_eq_true rfl) dX14_init_41 (fun q26 H hn_q26 hG hS => ?_)
  replace hgl := gl_new (y := (cy 1, 2, .inl (fun _ => 0))) hgl hn_q26
  have fz_q26 : G q26 = none := hfr.none ko hn_q26
  replace hfr := hfr.new (e' := .inl (cy 1, 2, .inl (fun _ => 0))) hn_q26
  replace ko := mm_set_new (e := .inl (cy 1, 2, .inl (fun _ => 0))) ko hn_q26
  obtain ⟨Lz28, eLz28⟩ : ∃ z, z = (q26, ((cy 1, 2, .inl (fun _ => 0)) : ClassId × vp_A)) :: Lz23 := ⟨_, rfl⟩
  rw [← eLz28] at hgl
  clear hn_q26
  generalize mm_set _ _ _ = G27 at hG hgl hfr ko
  refine mm_putF (v := .ref q26) (ty := .array .int) hx hb hf_X14 (fun _ h9 => h9) tyX14 tyX14_ok nmX14 hown hK hG hS ko rfl 5 (by decide) (tb_use hT tw_1396) (fun _ h9 => h9) rfl hin rfl (by decide +kernel) rfl rfl (by rw [hlen]; decide) dX14_init_43 (fun H locs hG hS => ?_)
  obtain ⟨fs29, efs29⟩ : ∃ z : List Value, z = [.ref q1, .ref q6, .ref q11, .ref q16, .ref q21, .ref q26, .null, .null, .null, .null, .null, .null, .null, .null, .null, .null, .null, .null, .null, .null, .null, .null, .null, .null, .null, .null, .null, .null, .null, .null, .null, .null, .null, .null, .null, .null, .null, .null, .int 0, .int 0, .null, .int 0, .int 0, .int 0, .int 0, .null, .null, .null, .int 0, .int 0, .int 0, .int 0, .int 0, .int 0, .int 0, .int 0, .int 0, .int 0, .int 0, .null, .null, .null, .null, .int 0, .null, .null, .int 0, .null, .int 0, .int 0, .null, .null, .null, .null, .null, .null] := ⟨_, rfl⟩
  have es : fs24.set 5 (.ref q26) = fs29 := by rw [efs24, efs29]; rfl
  rw [es] at hG
  replace hlen : fs29.length = 76 := by rw [efs29]; rfl
  clear es efs24
  replace hgl := gl_wr (e' := .inr (15, fs29)) hgl ko
  replace hfr := hfr.wr (e' := .inr (15, fs29))
  replace ko : mm_set G27 o (.inr (15, fs29)) o = some (.inr (15, fs29)) := mm_set_self
  generalize mm_set _ _ _ = G30 at hG hgl hfr ko
  refine lv_aload_n hx hb dX14_init_46 rfl (lv_at hl 0 rfl) ?_
  refine lv_iconst (v := 2) hx hb dX14_init_47 (by decide) ?_
  refine mm_newa (n := 2) (atype := .int) (ty := .int) (N' := 2) (a0 := (2, .inl (fun _ => 0))) hx hb (tb_arr hT tw_175) rfl hK hG hS hA 1 rfl (fun cA => rfl) (by decide) (by decide) (by decide) (by exact Nat.le_of_ble_eq_true rfl) (by exact Nat.le_of_ble_eq_true rfl) dX14_init_48 (fun q31 H hn_q31 hG hS => ?_)
  replace hgl := gl_new (y := (cy 1, 2, .inl (fun _ => 0))) hgl hn_q31
  have fz_q31 : G q31 = none := hfr.none ko hn_q31
  replace hfr := hfr.new (e' := .inl (cy 1, 2, .inl (fun _ => 0))) hn_q31
  replace ko := mm_set_new (e := .inl (cy 1, 2, .inl (fun _ => 0))) ko hn_q31
  obtain ⟨Lz33, eLz33⟩ : ∃ z, z = (q31, ((cy 1, 2, .inl (fun _ => 0)) : ClassId × vp_A)) :: Lz28 := ⟨_, rfl⟩
  rw [← eLz33] at hgl
  clear hn_q31
  generalize mm_set _ _ _ = G32 at hG hgl hfr ko
  refine mm_putF (v := .ref q31) (ty := .array .int) hx hb hf_X14 (fun _ h9 => h9) tyX14 tyX14_ok nmX14 hown hK hG hS ko rfl 6 (by decide) (tb_use hT tw_1397) (fun _ h9 => h9) rfl hin rfl (by decide +kernel) rfl rfl (by rw [hlen]; decide) dX14_init_50 (fun H locs hG hS => ?_)
  obtain ⟨fs34, efs34⟩ : ∃ z : List Value, z = [.ref q1, .ref q6, .ref q11, .ref q16, .ref q21, .ref q26, .ref q31, .null, .null, .null, .null, .null, .null, .null, .null, .null, .null, .null, .null, .null, .null, .null, .null, .null, .null, .null, .null, .null, .null, .null, .null, .null, .null, .null, .null, .null, .null, .null, .int 0, .int 0, .null, .int 0, .int 0, .int 0, .int 0, .null, .null, .null, .int 0, .int 0, .int 0, .int 0, .int 0, .int 0, .int 0, .int 0, .int 0, .int 0, .int 0, .null, .null, .null, .null, .int 0, .null, .null, .int 0, .null, .int 0, .int 0, .null, .null, .null, .null, .null, .null] := ⟨_, rfl⟩
  have es : fs29.set 6 (.ref q31) = fs34 := by rw [efs29, efs34]; rfl
  rw [es] at hG
  replace hlen : fs34.length = 76 := by rw [efs34]; rfl
  clear es efs29
  replace hgl := gl_wr (e' := .inr (15, fs34)) hgl ko
  replace hfr := hfr.wr (e' := .inr (15, fs34))
  replace ko : mm_set G32 o (.inr (15, fs34)) o = some (.inr (15, fs34)) := mm_set_self
  generalize mm_set _ _ _ = G35 at hG hgl hfr ko
  refine lv_aload_n hx hb dX14_init_53 rfl (lv_at hl 0 rfl) ?_
  refine lv_sipush (v := 2002) hx hb dX14_init_54 (by decide) ?_
  refine mm_newa (n := 2002) (atype := .int) (ty := .int) (N' := 2002) (a0 := (2002, .inl (fun _ => 0))) hx hb (tb_arr hT tw_175) rfl hK hG hS hA 1 rfl (fun cA => rfl) (by decide) (by decide) (by decide) (by exact Nat.le_of_ble_eq_true rfl) (by exact Nat.le_of_ble_eq_true rfl) dX14_init_57 (fun q36 H hn_q36 hG hS => ?_)
  replace hgl := gl_new (y := (cy 1, 2002, .inl (fun _ => 0))) hgl hn_q36
  have fz_q36 : G q36 = none := hfr.none ko hn_q36
  replace hfr := hfr.new (e' := .inl (cy 1, 2002, .inl (fun _ => 0))) hn_q36
  replace ko := mm_set_new (e := .inl (cy 1, 2002, .inl (fun _ => 0))) ko hn_q36
  obtain ⟨Lz38, eLz38⟩ : ∃ z, z = (q36, ((cy 1, 2002, .inl (fun _ => 0)) : ClassId × vp_A)) :: Lz33 := ⟨_, rfl⟩
  rw [← eLz38] at hgl
  clear hn_q36
  generalize mm_set _ _ _ = G37 at hG hgl hfr ko
  refine mm_putF (v := .ref q36) (ty := .array .int) hx hb hf_X14 (fun _ h9 => h9) tyX14 tyX14_ok nmX14 hown hK hG hS ko rfl 7 (by decide) (tb_use hT tw_1398) (fun _ h9 => h9) rfl hin rfl (by decide +kernel) rfl rfl (by rw [hlen]; decide) dX14_init_59 (fun H locs hG hS => ?_)
  obtain ⟨fs39, efs39⟩ : ∃ z : List Value, z = [.ref q1, .ref q6, .ref q11, .ref q16, .ref q21, .ref q26, .ref q31, .ref q36, .null, .null, .null, .null, .null, .null, .null, .null, .null, .null, .null, .null, .null, .null, .null, .null, .null, .null, .null, .null, .null, .null, .null, .null, .null, .null, .null, .null, .null, .null, .int 0, .int 0, .null, .int 0, .int 0, .int 0, .int 0, .null, .null, .null, .int 0, .int 0, .int 0, .int 0, .int 0, .int 0, .int 0, .int 0, .int 0, .int 0, .int 0, .null, .null, .null, .null, .int 0, .null, .null, .int 0, .null, .int 0, .int 0, .null, .null, .null, .null, .null, .null] := ⟨_, rfl⟩
  have es : fs34.set 7 (.ref q36) = fs39 := by rw [efs34, efs39]; rfl
  rw [es] at hG
  replace hlen : fs39.length = 76 := by rw [efs39]; rfl
  clear es efs34
  replace hgl := gl_wr (e' := .inr (15, fs39)) hgl ko
  replace hfr := hfr.wr (e' := .inr (15, fs39))
  replace ko : mm_set G37 o (.inr (15, fs39)) o = some (.inr (15, fs39)) := mm_set_self
  generalize mm_set _ _ _ = G40 at hG hgl hfr ko
  refine lv_aload_n hx hb dX14_init_62 rfl (lv_at hl 0 rfl) ?_
  refine lv_sipush (v := 24024) hx hb dX14_init_63 (by decide) ?_
  refine mm_newa (n := 24024) (atype := .int) (ty := .int) (N' := 24024) (a0 := (24024, .inl (fun _ => 0))) hx hb (tb_arr hT tw_175) rfl hK hG hS hA 1 rfl (fun cA => rfl) (by decide) (by decide) (by decide) (by exact Nat.le_of_ble_eq_true rfl) (by exact Nat.le_of_ble_eq_true rfl) dX14_init_66 (fun q41 H hn_q41 hG hS => ?_)
  replace hgl := gl_new (y := (cy 1, 24024, .inl (fun _ => 0))) hgl hn_q41
  have fz_q41 : G q41 = none := hfr.none ko hn_q41
  replace hfr := hfr.new (e' := .inl (cy 1, 24024, .inl (fun _ => 0))) hn_q41
  replace ko := mm_set_new (e := .inl (cy 1, 24024, .inl (fun _ => 0))) ko hn_q41
  obtain ⟨Lz43, eLz43⟩ : ∃ z, z = (q41, ((cy 1, 24024, .inl (fun _ => 0)) : ClassId × vp_A)) :: Lz38 := ⟨_, rfl⟩
  rw [← eLz43] at hgl
  clear hn_q41
  generalize mm_set _ _ _ = G42 at hG hgl hfr ko
  refine mm_putF (v := .ref q41) (ty := .array .int) hx hb hf_X14 (fun _ h9 => h9) tyX14 tyX14_ok nmX14 hown hK hG hS ko rfl 8 (by decide) (tb_use hT tw_1399) (fun _ h9 => h9) rfl hin rfl (by decide +kernel) rfl rfl (by rw [hlen]; decide) dX14_init_68 (fun H locs hG hS => ?_)
  obtain ⟨fs44, efs44⟩ : ∃ z : List Value, z = [.ref q1, .ref q6, .ref q11, .ref q16, .ref q21, .ref q26, .ref q31, .ref q36, .ref q41, .null, .null, .null, .null, .null, .null, .null, .null, .null, .null, .null, .null, .null, .null, .null, .null, .null, .null, .null, .null, .null, .null, .null, .null, .null, .null, .null, .null, .null, .int 0, .int 0, .null, .int 0, .int 0, .int 0, .int 0, .null, .null, .null, .int 0, .int 0, .int 0, .int 0, .int 0, .int 0, .int 0, .int 0, .int 0, .int 0, .int 0, .null, .null, .null, .null, .int 0, .null, .null, .int 0, .null, .int 0, .int 0, .null, .null, .null, .null, .null, .null] := ⟨_, rfl⟩
  have es : fs39.set 8 (.ref q41) = fs44 := by rw [efs39, efs44]; rfl
  rw [es] at hG
  replace hlen : fs44.length = 76 := by rw [efs44]; rfl
  clear es efs39
  replace hgl := gl_wr (e' := .inr (15, fs44)) hgl ko
  replace hfr := hfr.wr (e' := .inr (15, fs44))
  replace ko : mm_set G42 o (.inr (15, fs44)) o = some (.inr (15, fs44)) := mm_set_self
  generalize mm_set _ _ _ = G45 at hG hgl hfr ko
  refine lv_aload_n hx hb dX14_init_71 rfl (lv_at hl 0 rfl) ?_
  refine lv_bipush (v := 24) hx hb dX14_init_72 (by decide) ?_
  refine mm_newa (n := 24) (atype := .int) (ty := .int) (N' := 24) (a0 := (24, .inl (fun _ => 0))) hx hb (tb_arr hT tw_175) rfl hK hG hS hA 1 rfl (fun cA => rfl) (by decide) (by decide) (by decide) (by exact Nat.le_of_ble_eq_true rfl) (by exact Nat.le_of_ble_eq_true rfl) dX14_init_74 (fun q46 H hn_q46 hG hS => ?_)
  replace hgl := gl_new (y := (cy 1, 24, .inl (fun _ => 0))) hgl hn_q46
  have fz_q46 : G q46 = none := hfr.none ko hn_q46
  replace hfr := hfr.new (e' := .inl (cy 1, 24, .inl (fun _ => 0))) hn_q46
  replace ko := mm_set_new (e := .inl (cy 1, 24, .inl (fun _ => 0))) ko hn_q46
  obtain ⟨Lz48, eLz48⟩ : ∃ z, z = (q46, ((cy 1, 24, .inl (fun _ => 0)) : ClassId × vp_A)) :: Lz43 := ⟨_, rfl⟩
  rw [← eLz48] at hgl
  clear hn_q46
  generalize mm_set _ _ _ = G47 at hG hgl hfr ko
  refine mm_putF (v := .ref q46) (ty := .array .int) hx hb hf_X14 (fun _ h9 => h9) tyX14 tyX14_ok nmX14 hown hK hG hS ko rfl 9 (by decide) (tb_use hT tw_1400) (fun _ h9 => h9) rfl hin rfl (by decide +kernel) rfl rfl (by rw [hlen]; decide) dX14_init_76 (fun H locs hG hS => ?_)
  obtain ⟨fs49, efs49⟩ : ∃ z : List Value, z = [.ref q1, .ref q6, .ref q11, .ref q16, .ref q21, .ref q26, .ref q31, .ref q36, .ref q41, .ref q46, .null, .null, .null, .null, .null, .null, .null, .null, .null, .null, .null, .null, .null, .null, .null, .null, .null, .null, .null, .null, .null, .null, .null, .null, .null, .null, .null, .null, .int 0, .int 0, .null, .int 0, .int 0, .int 0, .int 0, .null, .null, .null, .int 0, .int 0, .int 0, .int 0, .int 0, .int 0, .int 0, .int 0, .int 0, .int 0, .int 0, .null, .null, .null, .null, .int 0, .null, .null, .int 0, .null, .int 0, .int 0, .null, .null, .null, .null, .null, .null] := ⟨_, rfl⟩
  have es : fs44.set 9 (.ref q46) = fs49 := by rw [efs44, efs49]; rfl
  rw [es] at hG
  replace hlen : fs49.length = 76 := by rw [efs49]; rfl
  clear es efs44
  replace hgl := gl_wr (e' := .inr (15, fs49)) hgl ko
  replace hfr := hfr.wr (e' := .inr (15, fs49))
  replace ko : mm_set G47 o (.inr (15, fs49)) o = some (.inr (15, fs49)) := mm_set_self
  generalize mm_set _ _ _ = G50 at hG hgl hfr ko
  refine lv_aload_n hx hb dX14_init_79 rfl (lv_at hl 0 rfl) ?_
  refine lv_bipush (v := 24) hx hb dX14_init_80 (by decide) ?_
  refine mm_newa (n := 24) (atype := .int) (ty := .int) (N' := 24) (a0 := (24, .inl (fun _ => 0))) hx hb (tb_arr hT tw_175) rfl hK hG hS hA 1 rfl (fun cA => rfl) (by decide) (by decide) (by decide) (by exact Nat.le_of_ble_eq_true rfl) (by exact Nat.le_of_ble_eq_true rfl) dX14_init_82 (fun q51 H hn_q51 hG hS => ?_)
  replace hgl := gl_new (y := (cy 1, 24, .inl (fun _ => 0))) hgl hn_q51
  have fz_q51 : G q51 = none := hfr.none ko hn_q51
  replace hfr := hfr.new (e' := .inl (cy 1, 24, .inl (fun _ => 0))) hn_q51
  replace ko := mm_set_new (e := .inl (cy 1, 24, .inl (fun _ => 0))) ko hn_q51
  obtain ⟨Lz53, eLz53⟩ : ∃ z, z = (q51, ((cy 1, 24, .inl (fun _ => 0)) : ClassId × vp_A)) :: Lz48 := ⟨_, rfl⟩
  rw [← eLz53] at hgl
  clear hn_q51
  generalize mm_set _ _ _ = G52 at hG hgl hfr ko
  refine mm_putF (v := .ref q51) (ty := .array .int) hx hb hf_X14 (fun _ h9 => h9) tyX14 tyX14_ok nmX14 hown hK hG hS ko rfl 10 (by decide) (tb_use hT tw_1401) (fun _ h9 => h9) rfl hin rfl (by decide +kernel) rfl rfl (by rw [hlen]; decide) dX14_init_84 (fun H locs hG hS => ?_)
  obtain ⟨fs54, efs54⟩ : ∃ z : List Value, z = [.ref q1, .ref q6, .ref q11, .ref q16, .ref q21, .ref q26, .ref q31, .ref q36, .ref q41, .ref q46, .ref q51, .null, .null, .null, .null, .null, .null, .null, .null, .null, .null, .null, .null, .null, .null, .null, .null, .null, .null, .null, .null, .null, .null, .null, .null, .null, .null, .null, .int 0, .int 0, .null, .int 0, .int 0, .int 0, .int 0, .null, .null, .null, .int 0, .int 0, .int 0, .int 0, .int 0, .int 0, .int 0, .int 0, .int 0, .int 0, .int 0, .null, .null, .null, .null, .int 0, .null, .null, .int 0, .null, .int 0, .int 0, .null, .null, .null, .null, .null, .null] := ⟨_, rfl⟩
  have es : fs49.set 10 (.ref q51) = fs54 := by rw [efs49, efs54]; rfl
  rw [es] at hG
  replace hlen : fs54.length = 76 := by rw [efs54]; rfl
  clear es efs49
  replace hgl := gl_wr (e' := .inr (15, fs54)) hgl ko
  replace hfr := hfr.wr (e' := .inr (15, fs54))
  replace ko : mm_set G52 o (.inr (15, fs54)) o = some (.inr (15, fs54)) := mm_set_self
  generalize mm_set _ _ _ = G55 at hG hgl hfr ko
  refine lv_aload_n hx hb dX14_init_87 rfl (lv_at hl 0 rfl) ?_
  refine lv_bipush (v := 24) hx hb dX14_init_88 (by decide) ?_
  refine mm_newa (n := 24) (atype := .int) (ty := .int) (N' := 24) (a0 := (24, .inl (fun _ => 0))) hx hb (tb_arr hT tw_175) rfl hK hG hS hA 1 rfl (fun cA => rfl) (by decide) (by decide) (by decide) (by exact Nat.le_of_ble_eq_true rfl) (by exact Nat.le_of_ble_eq_true rfl) dX14_init_90 (fun q56 H hn_q56 hG hS => ?_)
  replace hgl := gl_new (y := (cy 1, 24, .inl (fun _ => 0))) hgl hn_q56
  have fz_q56 : G q56 = none := hfr.none ko hn_q56
  replace hfr := hfr.new (e' := .inl (cy 1, 24, .inl (fun _ => 0))) hn_q56
  replace ko := mm_set_new (e := .inl (cy 1, 24, .inl (fun _ => 0))) ko hn_q56
  obtain ⟨Lz58, eLz58⟩ : ∃ z, z = (q56, ((cy 1, 24, .inl (fun _ => 0)) : ClassId × vp_A)) :: Lz53 := ⟨_, rfl⟩
  rw [← eLz58] at hgl
  clear hn_q56
  generalize mm_set _ _ _ = G57 at hG hgl hfr ko
  refine mm_putF (v := .ref q56) (ty := .array .int) hx hb hf_X14 (fun _ h9 => h9) tyX14 tyX14_ok nmX14 hown hK hG hS ko rfl 11 (by decide) (tb_use hT tw_1402) (fun _ h9 => h9) rfl hin rfl (by decide +kernel) rfl rfl (by rw [hlen]; decide) dX14_init_92 (fun H locs hG hS => ?_)
  obtain ⟨fs59, efs59⟩ : ∃ z : List Value, z = [.ref q1, .ref q6, .ref q11, .ref q16, .ref q21, .ref q26, .ref q31, .ref q36, .ref q41, .ref q46, .ref q51, .ref q56, .null, .null, .null, .null, .null, .null, .null, .null, .null, .null, .null, .null, .null, .null, .null, .null, .null, .null, .null, .null, .null, .null, .null, .null, .null, .null, .int 0, .int 0, .null, .int 0, .int 0, .int 0, .int 0, .null, .null, .null, .int 0, .int 0, .int 0, .int 0, .int 0, .int 0, .int 0, .int 0, .int 0, .int 0, .int 0, .null, .null, .null, .null, .int 0, .null, .null, .int 0, .null, .int 0, .int 0, .null, .null, .null, .null, .null, .null] := ⟨_, rfl⟩
  have es : fs54.set 11 (.ref q56) = fs59 := by rw [efs54, efs59]; rfl
  rw [es] at hG
  replace hlen : fs59.length = 76 := by rw [efs59]; rfl
  clear es efs54
  replace hgl := gl_wr (e' := .inr (15, fs59)) hgl ko
  replace hfr := hfr.wr (e' := .inr (15, fs59))
  replace ko : mm_set G57 o (.inr (15, fs59)) o = some (.inr (15, fs59)) := mm_set_self
  generalize mm_set _ _ _ = G60 at hG hgl hfr ko
  refine lv_aload_n hx hb dX14_init_95 rfl (lv_at hl 0 rfl) ?_
  refine lv_bipush (v := 24) hx hb dX14_init_96 (by decide) ?_
  refine mm_newa (n := 24) (atype := .int) (ty := .int) (N' := 24) (a0 := (24, .inl (fun _ => 0))) hx hb (tb_arr hT tw_175) rfl hK hG hS hA 1 rfl (fun cA => rfl) (by decide) (by decide) (by decide) (by exact Nat.le_of_ble_eq_true rfl) (by exact Nat.le_of_ble_eq_true rfl) dX14_init_98 (fun q61 H hn_q61 hG hS => ?_)
  replace hgl := gl_new (y := (cy 1, 24, .inl (fun _ => 0))) hgl hn_q61
  have fz_q61 : G q61 = none := hfr.none ko hn_q61
  replace hfr := hfr.new (e' := .inl (cy 1, 24, .inl (fun _ => 0))) hn_q61
  replace ko := mm_set_new (e := .inl (cy 1, 24, .inl (fun _ => 0))) ko hn_q61
  obtain ⟨Lz63, eLz63⟩ : ∃ z, z = (q61, ((cy 1, 24, .inl (fun _ => 0)) : ClassId × vp_A)) :: Lz58 := ⟨_, rfl⟩
  rw [← eLz63] at hgl
  clear hn_q61
  generalize mm_set _ _ _ = G62 at hG hgl hfr ko
  refine mm_putF (v := .ref q61) (ty := .array .int) hx hb hf_X14 (fun _ h9 => h9) tyX14 tyX14_ok nmX14 hown hK hG hS ko rfl 12 (by decide) (tb_use hT tw_1403) (fun _ h9 => h9) rfl hin rfl (by decide +kernel) rfl rfl (by rw [hlen]; decide) dX14_init_100 (fun H locs hG hS => ?_)
  obtain ⟨fs64, efs64⟩ : ∃ z : List Value, z = [.ref q1, .ref q6, .ref q11, .ref q16, .ref q21, .ref q26, .ref q31, .ref q36, .ref q41, .ref q46, .ref q51, .ref q56, .ref q61, .null, .null, .null, .null, .null, .null, .null, .null, .null, .null, .null, .null, .null, .null, .null, .null, .null, .null, .null, .null, .null, .null, .null, .null, .null, .int 0, .int 0, .null, .int 0, .int 0, .int 0, .int 0, .null, .null, .null, .int 0, .int 0, .int 0, .int 0, .int 0, .int 0, .int 0, .int 0, .int 0, .int 0, .int 0, .null, .null, .null, .null, .int 0, .null, .null, .int 0, .null, .int 0, .int 0, .null, .null, .null, .null, .null, .null] := ⟨_, rfl⟩
  have es : fs59.set 12 (.ref q61) = fs64 := by rw [efs59, efs64]; rfl
  rw [es] at hG
  replace hlen : fs64.length = 76 := by rw [efs64]; rfl
  clear es efs59
  replace hgl := gl_wr (e' := .inr (15, fs64)) hgl ko
  replace hfr := hfr.wr (e' := .inr (15, fs64))
  replace ko : mm_set G62 o (.inr (15, fs64)) o = some (.inr (15, fs64)) := mm_set_self
  generalize mm_set _ _ _ = G65 at hG hgl hfr ko
  refine lv_aload_n hx hb dX14_init_103 rfl (lv_at hl 0 rfl) ?_
  refine lv_bipush (v := 24) hx hb dX14_init_104 (by decide) ?_
  refine mm_newa (n := 24) (atype := .int) (ty := .int) (N' := 24) (a0 := (24, .inl (fun _ => 0))) hx hb (tb_arr hT tw_175) rfl hK hG hS hA 1 rfl (fun cA => rfl) (by decide) (by decide) (by decide) (by exact Nat.le_of_ble_eq_true rfl) (by exact Nat.le_of_ble_eq_true rfl) dX14_init_106 (fun q66 H hn_q66 hG hS => ?_)
  replace hgl := gl_new (y := (cy 1, 24, .inl (fun _ => 0))) hgl hn_q66
  have fz_q66 : G q66 = none := hfr.none ko hn_q66
  replace hfr := hfr.new (e' := .inl (cy 1, 24, .inl (fun _ => 0))) hn_q66
  replace ko := mm_set_new (e := .inl (cy 1, 24, .inl (fun _ => 0))) ko hn_q66
  obtain ⟨Lz68, eLz68⟩ : ∃ z, z = (q66, ((cy 1, 24, .inl (fun _ => 0)) : ClassId × vp_A)) :: Lz63 := ⟨_, rfl⟩
  rw [← eLz68] at hgl
  clear hn_q66
  generalize mm_set _ _ _ = G67 at hG hgl hfr ko
  refine mm_putF (v := .ref q66) (ty := .array .int) hx hb hf_X14 (fun _ h9 => h9) tyX14 tyX14_ok nmX14 hown hK hG hS ko rfl 13 (by decide) (tb_use hT tw_1404) (fun _ h9 => h9) rfl hin rfl (by decide +kernel) rfl rfl (by rw [hlen]; decide) dX14_init_108 (fun H locs hG hS => ?_)
  obtain ⟨fs69, efs69⟩ : ∃ z : List Value, z = [.ref q1, .ref q6, .ref q11, .ref q16, .ref q21, .ref q26, .ref q31, .ref q36, .ref q41, .ref q46, .ref q51, .ref q56, .ref q61, .ref q66, .null, .null, .null, .null, .null, .null, .null, .null, .null, .null, .null, .null, .null, .null, .null, .null, .null, .null, .null, .null, .null, .null, .null, .null, .int 0, .int 0, .null, .int 0, .int 0, .int 0, .int 0, .null, .null, .null, .int 0, .int 0, .int 0, .int 0, .int 0, .int 0, .int 0, .int 0, .int 0, .int 0, .int 0, .null, .null, .null, .null, .int 0, .null, .null, .int 0, .null, .int 0, .int 0, .null, .null, .null, .null, .null, .null] := ⟨_, rfl⟩
  have es : fs64.set 13 (.ref q66) = fs69 := by rw [efs64, efs69]; rfl
  rw [es] at hG
  replace hlen : fs69.length = 76 := by rw [efs69]; rfl
  clear es efs64
  replace hgl := gl_wr (e' := .inr (15, fs69)) hgl ko
  replace hfr := hfr.wr (e' := .inr (15, fs69))
  replace ko : mm_set G67 o (.inr (15, fs69)) o = some (.inr (15, fs69)) := mm_set_self
  generalize mm_set _ _ _ = G70 at hG hgl hfr ko
  refine lv_aload_n hx hb dX14_init_111 rfl (lv_at hl 0 rfl) ?_
  refine lv_bipush (v := 24) hx hb dX14_init_112 (by decide) ?_
  refine mm_newa (n := 24) (atype := .int) (ty := .int) (N' := 24) (a0 := (24, .inl (fun _ => 0))) hx hb (tb_arr hT tw_175) rfl hK hG hS hA 1 rfl (fun cA => rfl) (by decide) (by decide) (by decide) (by exact Nat.le_of_ble_eq_true rfl) (by exact Nat.le_of_ble_eq_true rfl) dX14_init_114 (fun q71 H hn_q71 hG hS => ?_)
  replace hgl := gl_new (y := (cy 1, 24, .inl (fun _ => 0))) hgl hn_q71
  have fz_q71 : G q71 = none := hfr.none ko hn_q71
  replace hfr := hfr.new (e' := .inl (cy 1, 24, .inl (fun _ => 0))) hn_q71
  replace ko := mm_set_new (e := .inl (cy 1, 24, .inl (fun _ => 0))) ko hn_q71
  obtain ⟨Lz73, eLz73⟩ : ∃ z, z = (q71, ((cy 1, 24, .inl (fun _ => 0)) : ClassId × vp_A)) :: Lz68 := ⟨_, rfl⟩
  rw [← eLz73] at hgl
  clear hn_q71
  generalize mm_set _ _ _ = G72 at hG hgl hfr ko
  refine mm_putF (v := .ref q71) (ty := .array .int) hx hb hf_X14 (fun _ h9 => h9) tyX14 tyX14_ok nmX14 hown hK hG hS ko rfl 14 (by decide) (tb_use hT tw_1405) (fun _ h9 => h9) rfl hin rfl (by decide +kernel) rfl rfl (by rw [hlen]; decide) dX14_init_116 (fun H locs hG hS => ?_)
  obtain ⟨fs74, efs74⟩ : ∃ z : List Value, z = [.ref q1, .ref q6, .ref q11, .ref q16, .ref q21, .ref q26, .ref q31, .ref q36, .ref q41, .ref q46, .ref q51, .ref q56, .ref q61, .ref q66, .ref q71, .null, .null, .null, .null, .null, .null, .null, .null, .null, .null, .null, .null, .null, .null, .null, .null, .null, .null, .null, .null, .null, .null, .null, .int 0, .int 0, .null, .int 0, .int 0, .int 0, .int 0, .null, .null, .null, .int 0, .int 0, .int 0, .int 0, .int 0, .int 0, .int 0, .int 0, .int 0, .int 0, .int 0, .null, .null, .null, .null, .int 0, .null, .null, .int 0, .null, .int 0, .int 0, .null, .null, .null, .null, .null, .null] := ⟨_, rfl⟩
  have es : fs69.set 14 (.ref q71) = fs74 := by rw [efs69, efs74]; rfl
  rw [es] at hG
  replace hlen : fs74.length = 76 := by rw [efs74]; rfl
  clear es efs69
  replace hgl := gl_wr (e' := .inr (15, fs74)) hgl ko
  replace hfr := hfr.wr (e' := .inr (15, fs74))
  replace ko : mm_set G72 o (.inr (15, fs74)) o = some (.inr (15, fs74)) := mm_set_self
  generalize mm_set _ _ _ = G75 at hG hgl hfr ko
  refine lv_aload_n hx hb dX14_init_119 rfl (lv_at hl 0 rfl) ?_
  refine lv_bipush (v := 24) hx hb dX14_init_120 (by decide) ?_
  refine mm_newa (n := 24) (atype := .int) (ty := .int) (N' := 24) (a0 := (24, .inl (fun _ => 0))) hx hb (tb_arr hT tw_175) rfl hK hG hS hA 1 rfl (fun cA => rfl) (by decide) (by decide) (by decide) (by exact Nat.le_of_ble_eq_true rfl) (by exact Nat.le_of_ble_eq_true rfl) dX14_init_122 (fun q76 H hn_q76 hG hS => ?_)
  replace hgl := gl_new (y := (cy 1, 24, .inl (fun _ => 0))) hgl hn_q76
  have fz_q76 : G q76 = none := hfr.none ko hn_q76
  replace hfr := hfr.new (e' := .inl (cy 1, 24, .inl (fun _ => 0))) hn_q76
  replace ko := mm_set_new (e := .inl (cy 1, 24, .inl (fun _ => 0))) ko hn_q76
  obtain ⟨Lz78, eLz78⟩ : ∃ z, z = (q76, ((cy 1, 24, .inl (fun _ => 0)) : ClassId × vp_A)) :: Lz73 := ⟨_, rfl⟩
  rw [← eLz78] at hgl
  clear hn_q76
  generalize mm_set _ _ _ = G77 at hG hgl hfr ko
  refine mm_putF (v := .ref q76) (ty := .array .int) hx hb hf_X14 (fun _ h9 => h9) tyX14 tyX14_ok nmX14 hown hK hG hS ko rfl 15 (by decide) (tb_use hT tw_1406) (fun _ h9 => h9) rfl hin rfl (by decide +kernel) rfl rfl (by rw [hlen]; decide) dX14_init_124 (fun H locs hG hS => ?_)
  obtain ⟨fs79, efs79⟩ : ∃ z : List Value, z = [.ref q1, .ref q6, .ref q11, .ref q16, .ref q21, .ref q26, .ref q31, .ref q36, .ref q41, .ref q46, .ref q51, .ref q56, .ref q61, .ref q66, .ref q71, .ref q76, .null, .null, .null, .null, .null, .null, .null, .null, .null, .null, .null, .null, .null, .null, .null, .null, .null, .null, .null, .null, .null, .null, .int 0, .int 0, .null, .int 0, .int 0, .int 0, .int 0, .null, .null, .null, .int 0, .int 0, .int 0, .int 0, .int 0, .int 0, .int 0, .int 0, .int 0, .int 0, .int 0, .null, .null, .null, .null, .int 0, .null, .null, .int 0, .null, .int 0, .int 0, .null, .null, .null, .null, .null, .null] := ⟨_, rfl⟩
  have es : fs74.set 15 (.ref q76) = fs79 := by rw [efs74, efs79]; rfl
  rw [es] at hG
  replace hlen : fs79.length = 76 := by rw [efs79]; rfl
  clear es efs74
  replace hgl := gl_wr (e' := .inr (15, fs79)) hgl ko
  replace hfr := hfr.wr (e' := .inr (15, fs79))
  replace ko : mm_set G77 o (.inr (15, fs79)) o = some (.inr (15, fs79)) := mm_set_self
  generalize mm_set _ _ _ = G80 at hG hgl hfr ko
  refine lv_aload_n hx hb dX14_init_127 rfl (lv_at hl 0 rfl) ?_
  refine lv_sipush (v := 192) hx hb dX14_init_128 (by decide) ?_
  refine mm_newa (n := 192) (atype := .int) (ty := .int) (N' := 192) (a0 := (192, .inl (fun _ => 0))) hx hb (tb_arr hT tw_175) rfl hK hG hS hA 1 rfl (fun cA => rfl) (by decide) (by decide) (by decide) (by exact Nat.le_of_ble_eq_true rfl) (by exact Nat.le_of_ble_eq_true rfl) dX14_init_131 (fun q81 H hn_q81 hG hS => ?_)
  replace hgl := gl_new (y := (cy 1, 192, .inl (fun _ => 0))) hgl hn_q81
  have fz_q81 : G q81 = none := hfr.none ko hn_q81
  replace hfr := hfr.new (e' := .inl (cy 1, 192, .inl (fun _ => 0))) hn_q81
  replace ko := mm_set_new (e := .inl (cy 1, 192, .inl (fun _ => 0))) ko hn_q81
  obtain ⟨Lz83, eLz83⟩ : ∃ z, z = (q81, ((cy 1, 192, .inl (fun _ => 0)) : ClassId × vp_A)) :: Lz78 := ⟨_, rfl⟩
  rw [← eLz83] at hgl
  clear hn_q81
  generalize mm_set _ _ _ = G82 at hG hgl hfr ko
  refine mm_putF (v := .ref q81) (ty := .array .int) hx hb hf_X14 (fun _ h9 => h9) tyX14 tyX14_ok nmX14 hown hK hG hS ko rfl 16 (by decide) (tb_use hT tw_1407) (fun _ h9 => h9) rfl hin rfl (by decide +kernel) rfl rfl (by rw [hlen]; decide) dX14_init_133 (fun H locs hG hS => ?_)
  obtain ⟨fs84, efs84⟩ : ∃ z : List Value, z = [.ref q1, .ref q6, .ref q11, .ref q16, .ref q21, .ref q26, .ref q31, .ref q36, .ref q41, .ref q46, .ref q51, .ref q56, .ref q61, .ref q66, .ref q71, .ref q76, .ref q81, .null, .null, .null, .null, .null, .null, .null, .null, .null, .null, .null, .null, .null, .null, .null, .null, .null, .null, .null, .null, .null, .int 0, .int 0, .null, .int 0, .int 0, .int 0, .int 0, .null, .null, .null, .int 0, .int 0, .int 0, .int 0, .int 0, .int 0, .int 0, .int 0, .int 0, .int 0, .int 0, .null, .null, .null, .null, .int 0, .null, .null, .int 0, .null, .int 0, .int 0, .null, .null, .null, .null, .null, .null] := ⟨_, rfl⟩
  have es : fs79.set 16 (.ref q81) = fs84 := by rw [efs79, efs84]; rfl
  rw [es] at hG
  replace hlen : fs84.length = 76 := by rw [efs84]; rfl
  clear es efs79
  replace hgl := gl_wr (e' := .inr (15, fs84)) hgl ko
  replace hfr := hfr.wr (e' := .inr (15, fs84))
  replace ko : mm_set G82 o (.inr (15, fs84)) o = some (.inr (15, fs84)) := mm_set_self
  generalize mm_set _ _ _ = G85 at hG hgl hfr ko
  refine lv_aload_n hx hb dX14_init_136 rfl (lv_at hl 0 rfl) ?_
  refine lv_sipush (v := 192) hx hb dX14_init_137 (by decide) ?_
  refine mm_newa (n := 192) (atype := .int) (ty := .int) (N' := 192) (a0 := (192, .inl (fun _ => 0))) hx hb (tb_arr hT tw_175) rfl hK hG hS hA 1 rfl (fun cA => rfl) (by decide) (by decide) (by decide) (by exact Nat.le_of_ble_eq_true rfl) (by exact Nat.le_of_ble_eq_true rfl) dX14_init_140 (fun q86 H hn_q86 hG hS => ?_)
  replace hgl := gl_new (y := (cy 1, 192, .inl (fun _ => 0))) hgl hn_q86
  have fz_q86 : G q86 = none := hfr.none ko hn_q86
  replace hfr := hfr.new (e' := .inl (cy 1, 192, .inl (fun _ => 0))) hn_q86
  replace ko := mm_set_new (e := .inl (cy 1, 192, .inl (fun _ => 0))) ko hn_q86
  obtain ⟨Lz88, eLz88⟩ : ∃ z, z = (q86, ((cy 1, 192, .inl (fun _ => 0)) : ClassId × vp_A)) :: Lz83 := ⟨_, rfl⟩
  rw [← eLz88] at hgl
  clear hn_q86
  generalize mm_set _ _ _ = G87 at hG hgl hfr ko
  refine mm_putF (v := .ref q86) (ty := .array .int) hx hb hf_X14 (fun _ h9 => h9) tyX14 tyX14_ok nmX14 hown hK hG hS ko rfl 17 (by decide) (tb_use hT tw_1408) (fun _ h9 => h9) rfl hin rfl (by decide +kernel) rfl rfl (by rw [hlen]; decide) dX14_init_142 (fun H locs hG hS => ?_)
  obtain ⟨fs89, efs89⟩ : ∃ z : List Value, z = [.ref q1, .ref q6, .ref q11, .ref q16, .ref q21, .ref q26, .ref q31, .ref q36, .ref q41, .ref q46, .ref q51, .ref q56, .ref q61, .ref q66, .ref q71, .ref q76, .ref q81, .ref q86, .null, .null, .null, .null, .null, .null, .null, .null, .null, .null, .null, .null, .null, .null, .null, .null, .null, .null, .null, .null, .int 0, .int 0, .null, .int 0, .int 0, .int 0, .int 0, .null, .null, .null, .int 0, .int 0, .int 0, .int 0, .int 0, .int 0, .int 0, .int 0, .int 0, .int 0, .int 0, .null, .null, .null, .null, .int 0, .null, .null, .int 0, .null, .int 0, .int 0, .null, .null, .null, .null, .null, .null] := ⟨_, rfl⟩
  have es : fs84.set 17 (.ref q86) = fs89 := by rw [efs84, efs89]; rfl
  rw [es] at hG
  replace hlen : fs89.length = 76 := by rw [efs89]; rfl
  clear es efs84
  replace hgl := gl_wr (e' := .inr (15, fs89)) hgl ko
  replace hfr := hfr.wr (e' := .inr (15, fs89))
  replace ko : mm_set G87 o (.inr (15, fs89)) o = some (.inr (15, fs89)) := mm_set_self
  generalize mm_set _ _ _ = G90 at hG hgl hfr ko
  refine lv_aload_n hx hb dX14_init_145 rfl (lv_at hl 0 rfl) ?_
  refine lv_bipush (v := 12) hx hb dX14_init_146 (by decide) ?_
  refine mm_newa (n := 12) (atype := .int) (ty := .int) (N' := 12) (a0 := (12, .inl (fun _ => 0))) hx hb (tb_arr hT tw_175) rfl hK hG hS hA 1 rfl (fun cA => rfl) (by decide) (by decide) (by decide) (by exact Nat.le_of_ble_eq_true rfl) (by exact Nat.le_of_ble_eq_true rfl) dX14_init_148 (fun q91 H hn_q91 hG hS => ?_)
  replace hgl := gl_new (y := (cy 1, 12, .inl (fun _ => 0))) hgl hn_q91
  have fz_q91 : G q91 = none := hfr.none ko hn_q91
  replace hfr := hfr.new (e' := .inl (cy 1, 12, .inl (fun _ => 0))) hn_q91
  replace ko := mm_set_new (e := .inl (cy 1, 12, .inl (fun _ => 0))) ko hn_q91
  obtain ⟨Lz93, eLz93⟩ : ∃ z, z = (q91, ((cy 1, 12, .inl (fun _ => 0)) : ClassId × vp_A)) :: Lz88 := ⟨_, rfl⟩
  rw [← eLz93] at hgl
  clear hn_q91
  generalize mm_set _ _ _ = G92 at hG hgl hfr ko
  refine mm_putF (v := .ref q91) (ty := .array .int) hx hb hf_X14 (fun _ h9 => h9) tyX14 tyX14_ok nmX14 hown hK hG hS ko rfl 18 (by decide) (tb_use hT tw_1409) (fun _ h9 => h9) rfl hin rfl (by decide +kernel) rfl rfl (by rw [hlen]; decide) dX14_init_150 (fun H locs hG hS => ?_)
  obtain ⟨fs94, efs94⟩ : ∃ z : List Value, z = [.ref q1, .ref q6, .ref q11, .ref q16, .ref q21, .ref q26, .ref q31, .ref q36, .ref q41, .ref q46, .ref q51, .ref q56, .ref q61, .ref q66, .ref q71, .ref q76, .ref q81, .ref q86, .ref q91, .null, .null, .null, .null, .null, .null, .null, .null, .null, .null, .null, .null, .null, .null, .null, .null, .null, .null, .null, .int 0, .int 0, .null, .int 0, .int 0, .int 0, .int 0, .null, .null, .null, .int 0, .int 0, .int 0, .int 0, .int 0, .int 0, .int 0, .int 0, .int 0, .int 0, .int 0, .null, .null, .null, .null, .int 0, .null, .null, .int 0, .null, .int 0, .int 0, .null, .null, .null, .null, .null, .null] := ⟨_, rfl⟩
  have es : fs89.set 18 (.ref q91) = fs94 := by rw [efs89, efs94]; rfl
  rw [es] at hG
  replace hlen : fs94.length = 76 := by rw [efs94]; rfl
  clear es efs89
  replace hgl := gl_wr (e' := .inr (15, fs94)) hgl ko
  replace hfr := hfr.wr (e' := .inr (15, fs94))
  replace ko : mm_set G92 o (.inr (15, fs94)) o = some (.inr (15, fs94)) := mm_set_self
  generalize mm_set _ _ _ = G95 at hG hgl hfr ko
  refine lv_aload_n hx hb dX14_init_153 rfl (lv_at hl 0 rfl) ?_
  refine lv_bipush (v := 12) hx hb dX14_init_154 (by decide) ?_
  refine mm_newa (n := 12) (atype := .int) (ty := .int) (N' := 12) (a0 := (12, .inl (fun _ => 0))) hx hb (tb_arr hT tw_175) rfl hK hG hS hA 1 rfl (fun cA => rfl) (by decide) (by decide) (by decide) (by exact Nat.le_of_ble_eq_true rfl) (by exact Nat.le_of_ble_eq_true rfl) dX14_init_156 (fun q96 H hn_q96 hG hS => ?_)
  replace hgl := gl_new (y := (cy 1, 12, .inl (fun _ => 0))) hgl hn_q96
  have fz_q96 : G q96 = none := hfr.none ko hn_q96
  replace hfr := hfr.new (e' := .inl (cy 1, 12, .inl (fun _ => 0))) hn_q96
  replace ko := mm_set_new (e := .inl (cy 1, 12, .inl (fun _ => 0))) ko hn_q96
  obtain ⟨Lz98, eLz98⟩ : ∃ z, z = (q96, ((cy 1, 12, .inl (fun _ => 0)) : ClassId × vp_A)) :: Lz93 := ⟨_, rfl⟩
  rw [← eLz98] at hgl
  clear hn_q96
  generalize mm_set _ _ _ = G97 at hG hgl hfr ko
  refine mm_putF (v := .ref q96) (ty := .array .int) hx hb hf_X14 (fun _ h9 => h9) tyX14 tyX14_ok nmX14 hown hK hG hS ko rfl 19 (by decide) (tb_use hT tw_1410) (fun _ h9 => h9) rfl hin rfl (by decide +kernel) rfl rfl (by rw [hlen]; decide) dX14_init_158 (fun H locs hG hS => ?_)
  obtain ⟨fs99, efs99⟩ : ∃ z : List Value, z = [.ref q1, .ref q6, .ref q11, .ref q16, .ref q21, .ref q26, .ref q31, .ref q36, .ref q41, .ref q46, .ref q51, .ref q56, .ref q61, .ref q66, .ref q71, .ref q76, .ref q81, .ref q86, .ref q91, .ref q96, .null, .null, .null, .null, .null, .null, .null, .null, .null, .null, .null, .null, .null, .null, .null, .null, .null, .null, .int 0, .int 0, .null, .int 0, .int 0, .int 0, .int 0, .null, .null, .null, .int 0, .int 0, .int 0, .int 0, .int 0, .int 0, .int 0, .int 0, .int 0, .int 0, .int 0, .null, .null, .null, .null, .int 0, .null, .null, .int 0, .null, .int 0, .int 0, .null, .null, .null, .null, .null, .null] := ⟨_, rfl⟩
  have es : fs94.set 19 (.ref q96) = fs99 := by rw [efs94, efs99]; rfl
  rw [es] at hG
  replace hlen : fs99.length = 76 := by rw [efs99]; rfl
  clear es efs94
  replace hgl := gl_wr (e' := .inr (15, fs99)) hgl ko
  replace hfr := hfr.wr (e' := .inr (15, fs99))
  replace ko : mm_set G97 o (.inr (15, fs99)) o = some (.inr (15, fs99)) := mm_set_self
  generalize mm_set _ _ _ = G100 at hG hgl hfr ko
  refine lv_aload_n hx hb dX14_init_161 rfl (lv_at hl 0 rfl) ?_
  refine lv_bipush (v := 32) hx hb dX14_init_162 (by decide) ?_
  refine mm_newa (n := 32) (atype := .int) (ty := .int) (N' := 32) (a0 := (32, .inl (fun _ => 0))) hx hb (tb_arr hT tw_175) rfl hK hG hS hA 1 rfl (fun cA => rfl) (by decide) (by decide) (by decide) (by exact Nat.le_of_ble_eq_true rfl) (by exact Nat.le_of_ble_eq_true rfl) dX14_init_164 (fun q101 H hn_q101 hG hS => ?_)
  replace hgl := gl_new (y := (cy 1, 32, .inl (fun _ => 0))) hgl hn_q101
  have fz_q101 : G q101 = none := hfr.none ko hn_q101
  replace hfr := hfr.new (e' := .inl (cy 1, 32, .inl (fun _ => 0))) hn_q101
  replace ko := mm_set_new (e := .inl (cy 1, 32, .inl (fun _ => 0))) ko hn_q101
  obtain ⟨Lz103, eLz103⟩ : ∃ z, z = (q101, ((cy 1, 32, .inl (fun _ => 0)) : ClassId × vp_A)) :: Lz98 := ⟨_, rfl⟩
  rw [← eLz103] at hgl
  clear hn_q101
  generalize mm_set _ _ _ = G102 at hG hgl hfr ko
  refine mm_putF (v := .ref q101) (ty := .array .int) hx hb hf_X14 (fun _ h9 => h9) tyX14 tyX14_ok nmX14 hown hK hG hS ko rfl 20 (by decide) (tb_use hT tw_1411) (fun _ h9 => h9) rfl hin rfl (by decide +kernel) rfl rfl (by rw [hlen]; decide) dX14_init_166 (fun H locs hG hS => ?_)
  obtain ⟨fs104, efs104⟩ : ∃ z : List Value, z = [.ref q1, .ref q6, .ref q11, .ref q16, .ref q21, .ref q26, .ref q31, .ref q36, .ref q41, .ref q46, .ref q51, .ref q56, .ref q61, .ref q66, .ref q71, .ref q76, .ref q81, .ref q86, .ref q91, .ref q96, .ref q101, .null, .null, .null, .null, .null, .null, .null, .null, .null, .null, .null, .null, .null, .null, .null, .null, .null, .int 0, .int 0, .null, .int 0, .int 0, .int 0, .int 0, .null, .null, .null, .int 0, .int 0, .int 0, .int 0, .int 0, .int 0, .int 0, .int 0, .int 0, .int 0, .int 0, .null, .null, .null, .null, .int 0, .null, .null, .int 0, .null, .int 0, .int 0, .null, .null, .null, .null, .null, .null] := ⟨_, rfl⟩
  have es : fs99.set 20 (.ref q101) = fs104 := by rw [efs99, efs104]; rfl
  rw [es] at hG
  replace hlen : fs104.length = 76 := by rw [efs104]; rfl
  clear es efs99
  replace hgl := gl_wr (e' := .inr (15, fs104)) hgl ko
  replace hfr := hfr.wr (e' := .inr (15, fs104))
  replace ko : mm_set G102 o (.inr (15, fs104)) o = some (.inr (15, fs104)) := mm_set_self
  generalize mm_set _ _ _ = G105 at hG hgl hfr ko
  refine lv_aload_n hx hb dX14_init_169 rfl (lv_at hl 0 rfl) ?_
  refine lv_bipush (v := 32) hx hb dX14_init_170 (by decide) ?_
  refine mm_newa (n := 32) (atype := .int) (ty := .int) (N' := 32) (a0 := (32, .inl (fun _ => 0))) hx hb (tb_arr hT tw_175) rfl hK hG hS hA 1 rfl (fun cA => rfl) (by decide) (by decide) (by decide) (by exact Nat.le_of_ble_eq_true rfl) (by exact Nat.le_of_ble_eq_true rfl) dX14_init_172 (fun q106 H hn_q106 hG hS => ?_)
  replace hgl := gl_new (y := (cy 1, 32, .inl (fun _ => 0))) hgl hn_q106
  have fz_q106 : G q106 = none := hfr.none ko hn_q106
  replace hfr := hfr.new (e' := .inl (cy 1, 32, .inl (fun _ => 0))) hn_q106
  replace ko := mm_set_new (e := .inl (cy 1, 32, .inl (fun _ => 0))) ko hn_q106
  obtain ⟨Lz108, eLz108⟩ : ∃ z, z = (q106, ((cy 1, 32, .inl (fun _ => 0)) : ClassId × vp_A)) :: Lz103 := ⟨_, rfl⟩
  rw [← eLz108] at hgl
  clear hn_q106
  generalize mm_set _ _ _ = G107 at hG hgl hfr ko
  refine mm_putF (v := .ref q106) (ty := .array .int) hx hb hf_X14 (fun _ h9 => h9) tyX14 tyX14_ok nmX14 hown hK hG hS ko rfl 21 (by decide) (tb_use hT tw_1412) (fun _ h9 => h9) rfl hin rfl (by decide +kernel) rfl rfl (by rw [hlen]; decide) dX14_init_174 (fun H locs hG hS => ?_)
  obtain ⟨fs109, efs109⟩ : ∃ z : List Value, z = [.ref q1, .ref q6, .ref q11, .ref q16, .ref q21, .ref q26, .ref q31, .ref q36, .ref q41, .ref q46, .ref q51, .ref q56, .ref q61, .ref q66, .ref q71, .ref q76, .ref q81, .ref q86, .ref q91, .ref q96, .ref q101, .ref q106, .null, .null, .null, .null, .null, .null, .null, .null, .null, .null, .null, .null, .null, .null, .null, .null, .int 0, .int 0, .null, .int 0, .int 0, .int 0, .int 0, .null, .null, .null, .int 0, .int 0, .int 0, .int 0, .int 0, .int 0, .int 0, .int 0, .int 0, .int 0, .int 0, .null, .null, .null, .null, .int 0, .null, .null, .int 0, .null, .int 0, .int 0, .null, .null, .null, .null, .null, .null] := ⟨_, rfl⟩
  have es : fs104.set 21 (.ref q106) = fs109 := by rw [efs104, efs109]; rfl
  rw [es] at hG
  replace hlen : fs109.length = 76 := by rw [efs109]; rfl
  clear es efs104
  replace hgl := gl_wr (e' := .inr (15, fs109)) hgl ko
  replace hfr := hfr.wr (e' := .inr (15, fs109))
  replace ko : mm_set G107 o (.inr (15, fs109)) o = some (.inr (15, fs109)) := mm_set_self
  generalize mm_set _ _ _ = G110 at hG hgl hfr ko
  refine lv_aload_n hx hb dX14_init_177 rfl (lv_at hl 0 rfl) ?_
  refine lv_bipush (v := 32) hx hb dX14_init_178 (by decide) ?_
  refine mm_newa (n := 32) (atype := .int) (ty := .int) (N' := 32) (a0 := (32, .inl (fun _ => 0))) hx hb (tb_arr hT tw_175) rfl hK hG hS hA 1 rfl (fun cA => rfl) (by decide) (by decide) (by decide) (by exact Nat.le_of_ble_eq_true rfl) (by exact Nat.le_of_ble_eq_true rfl) dX14_init_180 (fun q111 H hn_q111 hG hS => ?_)
  replace hgl := gl_new (y := (cy 1, 32, .inl (fun _ => 0))) hgl hn_q111
  have fz_q111 : G q111 = none := hfr.none ko hn_q111
  replace hfr := hfr.new (e' := .inl (cy 1, 32, .inl (fun _ => 0))) hn_q111
  replace ko := mm_set_new (e := .inl (cy 1, 32, .inl (fun _ => 0))) ko hn_q111
  obtain ⟨Lz113, eLz113⟩ : ∃ z, z = (q111, ((cy 1, 32, .inl (fun _ => 0)) : ClassId × vp_A)) :: Lz108 := ⟨_, rfl⟩
  rw [← eLz113] at hgl
  clear hn_q111
  generalize mm_set _ _ _ = G112 at hG hgl hfr ko
  refine mm_putF (v := .ref q111) (ty := .array .int) hx hb hf_X14 (fun _ h9 => h9) tyX14 tyX14_ok nmX14 hown hK hG hS ko rfl 22 (by decide) (tb_use hT tw_1413) (fun _ h9 => h9) rfl hin rfl (by decide +kernel) rfl rfl (by rw [hlen]; decide) dX14_init_182 (fun H locs hG hS => ?_)
  obtain ⟨fs114, efs114⟩ : ∃ z : List Value, z = [.ref q1, .ref q6, .ref q11, .ref q16, .ref q21, .ref q26, .ref q31, .ref q36, .ref q41, .ref q46, .ref q51, .ref q56, .ref q61, .ref q66, .ref q71, .ref q76, .ref q81, .ref q86, .ref q91, .ref q96, .ref q101, .ref q106, .ref q111, .null, .null, .null, .null, .null, .null, .null, .null, .null, .null, .null, .null, .null, .null, .null, .int 0, .int 0, .null, .int 0, .int 0, .int 0, .int 0, .null, .null, .null, .int 0, .int 0, .int 0, .int 0, .int 0, .int 0, .int 0, .int 0, .int 0, .int 0, .int 0, .null, .null, .null, .null, .int 0, .null, .null, .int 0, .null, .int 0, .int 0, .null, .null, .null, .null, .null, .null] := ⟨_, rfl⟩
  have es : fs109.set 22 (.ref q111) = fs114 := by rw [efs109, efs114]; rfl
  rw [es] at hG
  replace hlen : fs114.length = 76 := by rw [efs114]; rfl
  clear es efs109
  replace hgl := gl_wr (e' := .inr (15, fs114)) hgl ko
  replace hfr := hfr.wr (e' := .inr (15, fs114))
  replace ko : mm_set G112 o (.inr (15, fs114)) o = some (.inr (15, fs114)) := mm_set_self
  generalize mm_set _ _ _ = G115 at hG hgl hfr ko
  refine lv_aload_n hx hb dX14_init_185 rfl (lv_at hl 0 rfl) ?_
  refine lv_bipush (v := 32) hx hb dX14_init_186 (by decide) ?_
  refine mm_newa (n := 32) (atype := .int) (ty := .int) (N' := 32) (a0 := (32, .inl (fun _ => 0))) hx hb (tb_arr hT tw_175) rfl hK hG hS hA 1 rfl (fun cA => rfl) (by decide) (by decide) (by decide) (by exact Nat.le_of_ble_eq_true rfl) (by exact Nat.le_of_ble_eq_true rfl) dX14_init_188 (fun q116 H hn_q116 hG hS => ?_)
  replace hgl := gl_new (y := (cy 1, 32, .inl (fun _ => 0))) hgl hn_q116
  have fz_q116 : G q116 = none := hfr.none ko hn_q116
  replace hfr := hfr.new (e' := .inl (cy 1, 32, .inl (fun _ => 0))) hn_q116
  replace ko := mm_set_new (e := .inl (cy 1, 32, .inl (fun _ => 0))) ko hn_q116
  obtain ⟨Lz118, eLz118⟩ : ∃ z, z = (q116, ((cy 1, 32, .inl (fun _ => 0)) : ClassId × vp_A)) :: Lz113 := ⟨_, rfl⟩
  rw [← eLz118] at hgl
  clear hn_q116
  generalize mm_set _ _ _ = G117 at hG hgl hfr ko
  refine mm_putF (v := .ref q116) (ty := .array .int) hx hb hf_X14 (fun _ h9 => h9) tyX14 tyX14_ok nmX14 hown hK hG hS ko rfl 23 (by decide) (tb_use hT tw_1414) (fun _ h9 => h9) rfl hin rfl (by decide +kernel) rfl rfl (by rw [hlen]; decide) dX14_init_190 (fun H locs hG hS => ?_)
  obtain ⟨fs119, efs119⟩ : ∃ z : List Value, z = [.ref q1, .ref q6, .ref q11, .ref q16, .ref q21, .ref q26, .ref q31, .ref q36, .ref q41, .ref q46, .ref q51, .ref q56, .ref q61, .ref q66, .ref q71, .ref q76, .ref q81, .ref q86, .ref q91, .ref q96, .ref q101, .ref q106, .ref q111, .ref q116, .null, .null, .null, .null, .null, .null, .null, .null, .null, .null, .null, .null, .null, .null, .int 0, .int 0, .null, .int 0, .int 0, .int 0, .int 0, .null, .null, .null, .int 0, .int 0, .int 0, .int 0, .int 0, .int 0, .int 0, .int 0, .int 0, .int 0, .int 0, .null, .null, .null, .null, .int 0, .null, .null, .int 0, .null, .int 0, .int 0, .null, .null, .null, .null, .null, .null] := ⟨_, rfl⟩
  have es : fs114.set 23 (.ref q116) = fs119 := by rw [efs114, efs119]; rfl
  rw [es] at hG
  replace hlen : fs119.length = 76 := by rw [efs119]; rfl
  clear es efs114
  replace hgl := gl_wr (e' := .inr (15, fs119)) hgl ko
  replace hfr := hfr.wr (e' := .inr (15, fs119))
  replace ko : mm_set G117 o (.inr (15, fs119)) o = some (.inr (15, fs119)) := mm_set_self
  generalize mm_set _ _ _ = G120 at hG hgl hfr ko
  refine lv_aload_n hx hb dX14_init_193 rfl (lv_at hl 0 rfl) ?_
  refine lv_sipush (v := 256) hx hb dX14_init_194 (by decide) ?_
  refine mm_newa (n := 256) (atype := .int) (ty := .int) (N' := 256) (a0 := (256, .inl (fun _ => 0))) hx hb (tb_arr hT tw_175) rfl hK hG hS hA 1 rfl (fun cA => rfl) (by decide) (by decide) (by decide) (by exact Nat.le_of_ble_eq_true rfl) (by exact Nat.le_of_ble_eq_true rfl) dX14_init_197 (fun q121 H hn_q121 hG hS => ?_)
  replace hgl := gl_new (y := (cy 1, 256, .inl (fun _ => 0))) hgl hn_q121
  have fz_q121 : G q121 = none := hfr.none ko hn_q121
  replace hfr := hfr.new (e' := .inl (cy 1, 256, .inl (fun _ => 0))) hn_q121
  replace ko := mm_set_new (e := .inl (cy 1, 256, .inl (fun _ => 0))) ko hn_q121
  obtain ⟨Lz123, eLz123⟩ : ∃ z, z = (q121, ((cy 1, 256, .inl (fun _ => 0)) : ClassId × vp_A)) :: Lz118 := ⟨_, rfl⟩
  rw [← eLz123] at hgl
  clear hn_q121
  generalize mm_set _ _ _ = G122 at hG hgl hfr ko
  refine mm_putF (v := .ref q121) (ty := .array .int) hx hb hf_X14 (fun _ h9 => h9) tyX14 tyX14_ok nmX14 hown hK hG hS ko rfl 24 (by decide) (tb_use hT tw_1415) (fun _ h9 => h9) rfl hin rfl (by decide +kernel) rfl rfl (by rw [hlen]; decide) dX14_init_199 (fun H locs hG hS => ?_)
  obtain ⟨fs124, efs124⟩ : ∃ z : List Value, z = [.ref q1, .ref q6, .ref q11, .ref q16, .ref q21, .ref q26, .ref q31, .ref q36, .ref q41, .ref q46, .ref q51, .ref q56, .ref q61, .ref q66, .ref q71, .ref q76, .ref q81, .ref q86, .ref q91, .ref q96, .ref q101, .ref q106, .ref q111, .ref q116, .ref q121, .null, .null, .null, .null, .null, .null, .null, .null, .null, .null, .null, .null, .null, .int 0, .int 0, .null, .int 0, .int 0, .int 0, .int 0, .null, .null, .null, .int 0, .int 0, .int 0, .int 0, .int 0, .int 0, .int 0, .int 0, .int 0, .int 0, .int 0, .null, .null, .null, .null, .int 0, .null, .null, .int 0, .null, .int 0, .int 0, .null, .null, .null, .null, .null, .null] := ⟨_, rfl⟩
  have es : fs119.set 24 (.ref q121) = fs124 := by rw [efs119, efs124]; rfl
  rw [es] at hG
  replace hlen : fs124.length = 76 := by rw [efs124]; rfl
  clear es efs119
  replace hgl := gl_wr (e' := .inr (15, fs124)) hgl ko
  replace hfr := hfr.wr (e' := .inr (15, fs124))
  replace ko : mm_set G122 o (.inr (15, fs124)) o = some (.inr (15, fs124)) := mm_set_self
  generalize mm_set _ _ _ = G125 at hG hgl hfr ko
  refine lv_aload_n hx hb dX14_init_202 rfl (lv_at hl 0 rfl) ?_
  refine lv_sipush (v := 256) hx hb dX14_init_203 (by decide) ?_
  refine mm_newa (n := 256) (atype := .int) (ty := .int) (N' := 256) (a0 := (256, .inl (fun _ => 0))) hx hb (tb_arr hT tw_175) rfl hK hG hS hA 1 rfl (fun cA => rfl) (by decide) (by decide) (by decide) (by exact Nat.le_of_ble_eq_true rfl) (by exact Nat.le_of_ble_eq_true rfl) dX14_init_206 (fun q126 H hn_q126 hG hS => ?_)
  replace hgl := gl_new (y := (cy 1, 256, .inl (fun _ => 0))) hgl hn_q126
  have fz_q126 : G q126 = none := hfr.none ko hn_q126
  replace hfr := hfr.new (e' := .inl (cy 1, 256, .inl (fun _ => 0))) hn_q126
  replace ko := mm_set_new (e := .inl (cy 1, 256, .inl (fun _ => 0))) ko hn_q126
  obtain ⟨Lz128, eLz128⟩ : ∃ z, z = (q126, ((cy 1, 256, .inl (fun _ => 0)) : ClassId × vp_A)) :: Lz123 := ⟨_, rfl⟩
  rw [← eLz128] at hgl
  clear hn_q126
  generalize mm_set _ _ _ = G127 at hG hgl hfr ko
  refine mm_putF (v := .ref q126) (ty := .array .int) hx hb hf_X14 (fun _ h9 => h9) tyX14 tyX14_ok nmX14 hown hK hG hS ko rfl 25 (by decide) (tb_use hT tw_1416) (fun _ h9 => h9) rfl hin rfl (by decide +kernel) rfl rfl (by rw [hlen]; decide) dX14_init_208 (fun H locs hG hS => ?_)
  obtain ⟨fs129, efs129⟩ : ∃ z : List Value, z = [.ref q1, .ref q6, .ref q11, .ref q16, .ref q21, .ref q26, .ref q31, .ref q36, .ref q41, .ref q46, .ref q51, .ref q56, .ref q61, .ref q66, .ref q71, .ref q76, .ref q81, .ref q86, .ref q91, .ref q96, .ref q101, .ref q106, .ref q111, .ref q116, .ref q121, .ref q126, .null, .null, .null, .null, .null, .null, .null, .null, .null, .null, .null, .null, .int 0, .int 0, .null, .int 0, .int 0, .int 0, .int 0, .null, .null, .null, .int 0, .int 0, .int 0, .int 0, .int 0, .int 0, .int 0, .int 0, .int 0, .int 0, .int 0, .null, .null, .null, .null, .int 0, .null, .null, .int 0, .null, .int 0, .int 0, .null, .null, .null, .null, .null, .null] := ⟨_, rfl⟩
  have es : fs124.set 25 (.ref q126) = fs129 := by rw [efs124, efs129]; rfl
  rw [es] at hG
  replace hlen : fs129.length = 76 := by rw [efs129]; rfl
  clear es efs124
  replace hgl := gl_wr (e' := .inr (15, fs129)) hgl ko
  replace hfr := hfr.wr (e' := .inr (15, fs129))
  replace ko : mm_set G127 o (.inr (15, fs129)) o = some (.inr (15, fs129)) := mm_set_self
  generalize mm_set _ _ _ = G130 at hG hgl hfr ko
  refine lv_aload_n hx hb dX14_init_211 rfl (lv_at hl 0 rfl) ?_
  refine lv_sipush (v := 256) hx hb dX14_init_212 (by decide) ?_
  refine mm_newa (n := 256) (atype := .int) (ty := .int) (N' := 256) (a0 := (256, .inl (fun _ => 0))) hx hb (tb_arr hT tw_175) rfl hK hG hS hA 1 rfl (fun cA => rfl) (by decide) (by decide) (by decide) (by exact Nat.le_of_ble_eq_true rfl) (by exact Nat.le_of_ble_eq_true rfl) dX14_init_215 (fun q131 H hn_q131 hG hS => ?_)
  replace hgl := gl_new (y := (cy 1, 256, .inl (fun _ => 0))) hgl hn_q131
  have fz_q131 : G q131 = none := hfr.none ko hn_q131
  replace hfr := hfr.new (e' := .inl (cy 1, 256, .inl (fun _ => 0))) hn_q131
  replace ko := mm_set_new (e := .inl (cy 1, 256, .inl (fun _ => 0))) ko hn_q131
  obtain ⟨Lz133, eLz133⟩ : ∃ z, z = (q131, ((cy 1, 256, .inl (fun _ => 0)) : ClassId × vp_A)) :: Lz128 := ⟨_, rfl⟩
  rw [← eLz133] at hgl
  clear hn_q131
  generalize mm_set _ _ _ = G132 at hG hgl hfr ko
  refine mm_putF (v := .ref q131) (ty := .array .int) hx hb hf_X14 (fun _ h9 => h9) tyX14 tyX14_ok nmX14 hown hK hG hS ko rfl 26 (by decide) (tb_use hT tw_1417) (fun _ h9 => h9) rfl hin rfl (by decide +kernel) rfl rfl (by rw [hlen]; decide) dX14_init_217 (fun H locs hG hS => ?_)
  obtain ⟨fs134, efs134⟩ : ∃ z : List Value, z = [.ref q1, .ref q6, .ref q11, .ref q16, .ref q21, .ref q26, .ref q31, .ref q36, .ref q41, .ref q46, .ref q51, .ref q56, .ref q61, .ref q66, .ref q71, .ref q76, .ref q81, .ref q86, .ref q91, .ref q96, .ref q101, .ref q106, .ref q111, .ref q116, .ref q121, .ref q126, .ref q131, .null, .null, .null, .null, .null, .null, .null, .null, .null, .null, .null, .int 0, .int 0, .null, .int 0, .int 0, .int 0, .int 0, .null, .null, .null, .int 0, .int 0, .int 0, .int 0, .int 0, .int 0, .int 0, .int 0, .int 0, .int 0, .int 0, .null, .null, .null, .null, .int 0, .null, .null, .int 0, .null, .int 0, .int 0, .null, .null, .null, .null, .null, .null] := ⟨_, rfl⟩
  have es : fs129.set 26 (.ref q131) = fs134 := by rw [efs129, efs134]; rfl
  rw [es] at hG
  replace hlen : fs134.length = 76 := by rw [efs134]; rfl
  clear es efs129
  replace hgl := gl_wr (e' := .inr (15, fs134)) hgl ko
  replace hfr := hfr.wr (e' := .inr (15, fs134))
  replace ko : mm_set G132 o (.inr (15, fs134)) o = some (.inr (15, fs134)) := mm_set_self
  generalize mm_set _ _ _ = G135 at hG hgl hfr ko
  refine lv_aload_n hx hb dX14_init_220 rfl (lv_at hl 0 rfl) ?_
  refine lv_sipush (v := 256) hx hb dX14_init_221 (by decide) ?_
  refine mm_newa (n := 256) (atype := .int) (ty := .int) (N' := 256) (a0 := (256, .inl (fun _ => 0))) hx hb (tb_arr hT tw_175) rfl hK hG hS hA 1 rfl (fun cA => rfl) (by decide) (by decide) (by decide) (by exact Nat.le_of_ble_eq_true rfl) (by exact Nat.le_of_ble_eq_true rfl) dX14_init_224 (fun q136 H hn_q136 hG hS => ?_)
  replace hgl := gl_new (y := (cy 1, 256, .inl (fun _ => 0))) hgl hn_q136
  have fz_q136 : G q136 = none := hfr.none ko hn_q136
  replace hfr := hfr.new (e' := .inl (cy 1, 256, .inl (fun _ => 0))) hn_q136
  replace ko := mm_set_new (e := .inl (cy 1, 256, .inl (fun _ => 0))) ko hn_q136
  obtain ⟨Lz138, eLz138⟩ : ∃ z, z = (q136, ((cy 1, 256, .inl (fun _ => 0)) : ClassId × vp_A)) :: Lz133 := ⟨_, rfl⟩
  rw [← eLz138] at hgl
  clear hn_q136
  generalize mm_set _ _ _ = G137 at hG hgl hfr ko
  refine mm_putF (v := .ref q136) (ty := .array .int) hx hb hf_X14 (fun _ h9 => h9) tyX14 tyX14_ok nmX14 hown hK hG hS ko rfl 27 (by decide) (tb_use hT tw_1418) (fun _ h9 => h9) rfl hin rfl (by decide +kernel) rfl rfl (by rw [hlen]; decide) dX14_init_226 (fun H locs hG hS => ?_)
  obtain ⟨fs139, efs139⟩ : ∃ z : List Value, z = [.ref q1, .ref q6, .ref q11, .ref q16, .ref q21, .ref q26, .ref q31, .ref q36, .ref q41, .ref q46, .ref q51, .ref q56, .ref q61, .ref q66, .ref q71, .ref q76, .ref q81, .ref q86, .ref q91, .ref q96, .ref q101, .ref q106, .ref q111, .ref q116, .ref q121, .ref q126, .ref q131, .ref q136, .null, .null, .null, .null, .null, .null, .null, .null, .null, .null, .int 0, .int 0, .null, .int 0, .int 0, .int 0, .int 0, .null, .null, .null, .int 0, .int 0, .int 0, .int 0, .int 0, .int 0, .int 0, .int 0, .int 0, .int 0, .int 0, .null, .null, .null, .null, .int 0, .null, .null, .int 0, .null, .int 0, .int 0, .null, .null, .null, .null, .null, .null] := ⟨_, rfl⟩
  have es : fs134.set 27 (.ref q136) = fs139 := by rw [efs134, efs139]; rfl
  rw [es] at hG
  replace hlen : fs139.length = 76 := by rw [efs139]; rfl
  clear es efs134
  replace hgl := gl_wr (e' := .inr (15, fs139)) hgl ko
  replace hfr := hfr.wr (e' := .inr (15, fs139))
  replace ko : mm_set G137 o (.inr (15, fs139)) o = some (.inr (15, fs139)) := mm_set_self
  generalize mm_set _ _ _ = G140 at hG hgl hfr ko
  refine lv_aload_n hx hb dX14_init_229 rfl (lv_at hl 0 rfl) ?_
  refine lv_sipush (v := 256) hx hb dX14_init_230 (by decide) ?_
  refine mm_newa (n := 256) (atype := .int) (ty := .int) (N' := 256) (a0 := (256, .inl (fun _ => 0))) hx hb (tb_arr hT tw_175) rfl hK hG hS hA 1 rfl (fun cA => rfl) (by decide) (by decide) (by decide) (by exact Nat.le_of_ble_eq_true rfl) (by exact Nat.le_of_ble_eq_true rfl) dX14_init_233 (fun q141 H hn_q141 hG hS => ?_)
  replace hgl := gl_new (y := (cy 1, 256, .inl (fun _ => 0))) hgl hn_q141
  have fz_q141 : G q141 = none := hfr.none ko hn_q141
  replace hfr := hfr.new (e' := .inl (cy 1, 256, .inl (fun _ => 0))) hn_q141
  replace ko := mm_set_new (e := .inl (cy 1, 256, .inl (fun _ => 0))) ko hn_q141
  obtain ⟨Lz143, eLz143⟩ : ∃ z, z = (q141, ((cy 1, 256, .inl (fun _ => 0)) : ClassId × vp_A)) :: Lz138 := ⟨_, rfl⟩
  rw [← eLz143] at hgl
  clear hn_q141
  generalize mm_set _ _ _ = G142 at hG hgl hfr ko
  refine mm_putF (v := .ref q141) (ty := .array .int) hx hb hf_X14 (fun _ h9 => h9) tyX14 tyX14_ok nmX14 hown hK hG hS ko rfl 28 (by decide) (tb_use hT tw_1419) (fun _ h9 => h9) rfl hin rfl (by decide +kernel) rfl rfl (by rw [hlen]; decide) dX14_init_235 (fun H locs hG hS => ?_)
  obtain ⟨fs144, efs144⟩ : ∃ z : List Value, z = [.ref q1, .ref q6, .ref q11, .ref q16, .ref q21, .ref q26, .ref q31, .ref q36, .ref q41, .ref q46, .ref q51, .ref q56, .ref q61, .ref q66, .ref q71, .ref q76, .ref q81, .ref q86, .ref q91, .ref q96, .ref q101, .ref q106, .ref q111, .ref q116, .ref q121, .ref q126, .ref q131, .ref q136, .ref q141, .null, .null, .null, .null, .null, .null, .null, .null, .null, .int 0, .int 0, .null, .int 0, .int 0, .int 0, .int 0, .null, .null, .null, .int 0, .int 0, .int 0, .int 0, .int 0, .int 0, .int 0, .int 0, .int 0, .int 0, .int 0, .null, .null, .null, .null, .int 0, .null, .null, .int 0, .null, .int 0, .int 0, .null, .null, .null, .null, .null, .null] := ⟨_, rfl⟩
  have es : fs139.set 28 (.ref q141) = fs144 := by rw [efs139, efs144]; rfl
  rw [es] at hG
  replace hlen : fs144.length = 76 := by rw [efs144]; rfl
  clear es efs139
  replace hgl := gl_wr (e' := .inr (15, fs144)) hgl ko
  replace hfr := hfr.wr (e' := .inr (15, fs144))
  replace ko : mm_set G142 o (.inr (15, fs144)) o = some (.inr (15, fs144)) := mm_set_self
  generalize mm_set _ _ _ = G145 at hG hgl hfr ko
  refine lv_aload_n hx hb dX14_init_238 rfl (lv_at hl 0 rfl) ?_
  refine lv_bipush (v := 24) hx hb dX14_init_239 (by decide) ?_
  refine mm_newa (n := 24) (atype := .int) (ty := .int) (N' := 24) (a0 := (24, .inl (fun _ => 0))) hx hb (tb_arr hT tw_175) rfl hK hG hS hA 1 rfl (fun cA => rfl) (by decide) (by decide) (by decide) (by exact Nat.le_of_ble_eq_true rfl) (by exact Nat.le_of_ble_eq_true rfl) dX14_init_241 (fun q146 H hn_q146 hG hS => ?_)
  replace hgl := gl_new (y := (cy 1, 24, .inl (fun _ => 0))) hgl hn_q146
  have fz_q146 : G q146 = none := hfr.none ko hn_q146
  replace hfr := hfr.new (e' := .inl (cy 1, 24, .inl (fun _ => 0))) hn_q146
  replace ko := mm_set_new (e := .inl (cy 1, 24, .inl (fun _ => 0))) ko hn_q146
  obtain ⟨Lz148, eLz148⟩ : ∃ z, z = (q146, ((cy 1, 24, .inl (fun _ => 0)) : ClassId × vp_A)) :: Lz143 := ⟨_, rfl⟩
  rw [← eLz148] at hgl
  clear hn_q146
  generalize mm_set _ _ _ = G147 at hG hgl hfr ko
  refine mm_putF (v := .ref q146) (ty := .array .int) hx hb hf_X14 (fun _ h9 => h9) tyX14 tyX14_ok nmX14 hown hK hG hS ko rfl 29 (by decide) (tb_use hT tw_1420) (fun _ h9 => h9) rfl hin rfl (by decide +kernel) rfl rfl (by rw [hlen]; decide) dX14_init_243 (fun H locs hG hS => ?_)
  obtain ⟨fs149, efs149⟩ : ∃ z : List Value, z = [.ref q1, .ref q6, .ref q11, .ref q16, .ref q21, .ref q26, .ref q31, .ref q36, .ref q41, .ref q46, .ref q51, .ref q56, .ref q61, .ref q66, .ref q71, .ref q76, .ref q81, .ref q86, .ref q91, .ref q96, .ref q101, .ref q106, .ref q111, .ref q116, .ref q121, .ref q126, .ref q131, .ref q136, .ref q141, .ref q146, .null, .null, .null, .null, .null, .null, .null, .null, .int 0, .int 0, .null, .int 0, .int 0, .int 0, .int 0, .null, .null, .null, .int 0, .int 0, .int 0, .int 0, .int 0, .int 0, .int 0, .int 0, .int 0, .int 0, .int 0, .null, .null, .null, .null, .int 0, .null, .null, .int 0, .null, .int 0, .int 0, .null, .null, .null, .null, .null, .null] := ⟨_, rfl⟩
  have es : fs144.set 29 (.ref q146) = fs149 := by rw [efs144, efs149]; rfl
  rw [es] at hG
  replace hlen : fs149.length = 76 := by rw [efs149]; rfl
  clear es efs144
  replace hgl := gl_wr (e' := .inr (15, fs149)) hgl ko
  replace hfr := hfr.wr (e' := .inr (15, fs149))
  replace ko : mm_set G147 o (.inr (15, fs149)) o = some (.inr (15, fs149)) := mm_set_self
  generalize mm_set _ _ _ = G150 at hG hgl hfr ko
  refine lv_aload_n hx hb dX14_init_246 rfl (lv_at hl 0 rfl) ?_
  refine lv_bipush (v := 24) hx hb dX14_init_247 (by decide) ?_
  refine mm_newa (n := 24) (atype := .int) (ty := .int) (N' := 24) (a0 := (24, .inl (fun _ => 0))) hx hb (tb_arr hT tw_175) rfl hK hG hS hA 1 rfl (fun cA => rfl) (by decide) (by decide) (by decide) (by exact Nat.le_of_ble_eq_true rfl) (by exact Nat.le_of_ble_eq_true rfl) dX14_init_249 (fun q151 H hn_q151 hG hS => ?_)
  replace hgl := gl_new (y := (cy 1, 24, .inl (fun _ => 0))) hgl hn_q151
  have fz_q151 : G q151 = none := hfr.none ko hn_q151
  replace hfr := hfr.new (e' := .inl (cy 1, 24, .inl (fun _ => 0))) hn_q151
  replace ko := mm_set_new (e := .inl (cy 1, 24, .inl (fun _ => 0))) ko hn_q151
  obtain ⟨Lz153, eLz153⟩ : ∃ z, z = (q151, ((cy 1, 24, .inl (fun _ => 0)) : ClassId × vp_A)) :: Lz148 := ⟨_, rfl⟩
  rw [← eLz153] at hgl
  clear hn_q151
  generalize mm_set _ _ _ = G152 at hG hgl hfr ko
  refine mm_putF (v := .ref q151) (ty := .array .int) hx hb hf_X14 (fun _ h9 => h9) tyX14 tyX14_ok nmX14 hown hK hG hS ko rfl 30 (by decide) (tb_use hT tw_1421) (fun _ h9 => h9) rfl hin rfl (by decide +kernel) rfl rfl (by rw [hlen]; decide) dX14_init_251 (fun H locs hG hS => ?_)
  obtain ⟨fs154, efs154⟩ : ∃ z : List Value, z = [.ref q1, .ref q6, .ref q11, .ref q16, .ref q21, .ref q26, .ref q31, .ref q36, .ref q41, .ref q46, .ref q51, .ref q56, .ref q61, .ref q66, .ref q71, .ref q76, .ref q81, .ref q86, .ref q91, .ref q96, .ref q101, .ref q106, .ref q111, .ref q116, .ref q121, .ref q126, .ref q131, .ref q136, .ref q141, .ref q146, .ref q151, .null, .null, .null, .null, .null, .null, .null, .int 0, .int 0, .null, .int 0, .int 0, .int 0, .int 0, .null, .null, .null, .int 0, .int 0, .int 0, .int 0, .int 0, .int 0, .int 0, .int 0, .int 0, .int 0, .int 0, .null, .null, .null, .null, .int 0, .null, .null, .int 0, .null, .int 0, .int 0, .null, .null, .null, .null, .null, .null] := ⟨_, rfl⟩
  have es : fs149.set 30 (.ref q151) = fs154 := by rw [efs149, efs154]; rfl
  rw [es] at hG
  replace hlen : fs154.length = 76 := by rw [efs154]; rfl
  clear es efs149
  replace hgl := gl_wr (e' := .inr (15, fs154)) hgl ko
  replace hfr := hfr.wr (e' := .inr (15, fs154))
  replace ko : mm_set G152 o (.inr (15, fs154)) o = some (.inr (15, fs154)) := mm_set_self
  generalize mm_set _ _ _ = G155 at hG hgl hfr ko
  refine lv_aload_n hx hb dX14_init_254 rfl (lv_at hl 0 rfl) ?_
  refine lv_bipush (v := 12) hx hb dX14_init_255 (by decide) ?_
  refine mm_newa (n := 12) (atype := .int) (ty := .int) (N' := 12) (a0 := (12, .inl (fun _ => 0))) hx hb (tb_arr hT tw_175) rfl hK hG hS hA 1 rfl (fun cA => rfl) (by decide) (by decide) (by decide) (by exact Nat.le_of_ble_eq_true rfl) (by exact Nat.le_of_ble_eq_true rfl) dX14_init_257 (fun q156 H hn_q156 hG hS => ?_)
  replace hgl := gl_new (y := (cy 1, 12, .inl (fun _ => 0))) hgl hn_q156
  have fz_q156 : G q156 = none := hfr.none ko hn_q156
  replace hfr := hfr.new (e' := .inl (cy 1, 12, .inl (fun _ => 0))) hn_q156
  replace ko := mm_set_new (e := .inl (cy 1, 12, .inl (fun _ => 0))) ko hn_q156
  obtain ⟨Lz158, eLz158⟩ : ∃ z, z = (q156, ((cy 1, 12, .inl (fun _ => 0)) : ClassId × vp_A)) :: Lz153 := ⟨_, rfl⟩
  rw [← eLz158] at hgl
  clear hn_q156
  generalize mm_set _ _ _ = G157 at hG hgl hfr ko
  refine mm_putF (v := .ref q156) (ty := .array .int) hx hb hf_X14 (fun _ h9 => h9) tyX14 tyX14_ok nmX14 hown hK hG hS ko rfl 31 (by decide) (tb_use hT tw_1422) (fun _ h9 => h9) rfl hin rfl (by decide +kernel) rfl rfl (by rw [hlen]; decide) dX14_init_259 (fun H locs hG hS => ?_)
  obtain ⟨fs159, efs159⟩ : ∃ z : List Value, z = [.ref q1, .ref q6, .ref q11, .ref q16, .ref q21, .ref q26, .ref q31, .ref q36, .ref q41, .ref q46, .ref q51, .ref q56, .ref q61, .ref q66, .ref q71, .ref q76, .ref q81, .ref q86, .ref q91, .ref q96, .ref q101, .ref q106, .ref q111, .ref q116, .ref q121, .ref q126, .ref q131, .ref q136, .ref q141, .ref q146, .ref q151, .ref q156, .null, .null, .null, .null, .null, .null, .int 0, .int 0, .null, .int 0, .int 0, .int 0, .int 0, .null, .null, .null, .int 0, .int 0, .int 0, .int 0, .int 0, .int 0, .int 0, .int 0, .int 0, .int 0, .int 0, .null, .null, .null, .null, .int 0, .null, .null, .int 0, .null, .int 0, .int 0, .null, .null, .null, .null, .null, .null] := ⟨_, rfl⟩
  have es : fs154.set 31 (.ref q156) = fs159 := by rw [efs154, efs159]; rfl
  rw [es] at hG
  replace hlen : fs159.length = 76 := by rw [efs159]; rfl
  clear es efs154
  replace hgl := gl_wr (e' := .inr (15, fs159)) hgl ko
  replace hfr := hfr.wr (e' := .inr (15, fs159))
  replace ko : mm_set G157 o (.inr (15, fs159)) o = some (.inr (15, fs159)) := mm_set_self
  generalize mm_set _ _ _ = G160 at hG hgl hfr ko
  refine lv_aload_n hx hb dX14_init_262 rfl (lv_at hl 0 rfl) ?_
  refine lv_bipush (v := 12) hx hb dX14_init_263 (by decide) ?_
  refine mm_newa (n := 12) (atype := .int) (ty := .int) (N' := 12) (a0 := (12, .inl (fun _ => 0))) hx hb (tb_arr hT tw_175) rfl hK hG hS hA 1 rfl (fun cA => rfl) (by decide) (by decide) (by decide) (by exact Nat.le_of_ble_eq_true rfl) (by exact Nat.le_of_ble_eq_true rfl) dX14_init_265 (fun q161 H hn_q161 hG hS => ?_)
  replace hgl := gl_new (y := (cy 1, 12, .inl (fun _ => 0))) hgl hn_q161
  have fz_q161 : G q161 = none := hfr.none ko hn_q161
  replace hfr := hfr.new (e' := .inl (cy 1, 12, .inl (fun _ => 0))) hn_q161
  replace ko := mm_set_new (e := .inl (cy 1, 12, .inl (fun _ => 0))) ko hn_q161
  obtain ⟨Lz163, eLz163⟩ : ∃ z, z = (q161, ((cy 1, 12, .inl (fun _ => 0)) : ClassId × vp_A)) :: Lz158 := ⟨_, rfl⟩
  rw [← eLz163] at hgl
  clear hn_q161
  generalize mm_set _ _ _ = G162 at hG hgl hfr ko
  refine mm_putF (v := .ref q161) (ty := .array .int) hx hb hf_X14 (fun _ h9 => h9) tyX14 tyX14_ok nmX14 hown hK hG hS ko rfl 32 (by decide) (tb_use hT tw_1423) (fun _ h9 => h9) rfl hin rfl (by decide +kernel) rfl rfl (by rw [hlen]; decide) dX14_init_267 (fun H locs hG hS => ?_)
  obtain ⟨fs164, efs164⟩ : ∃ z : List Value, z = [.ref q1, .ref q6, .ref q11, .ref q16, .ref q21, .ref q26, .ref q31, .ref q36, .ref q41, .ref q46, .ref q51, .ref q56, .ref q61, .ref q66, .ref q71, .ref q76, .ref q81, .ref q86, .ref q91, .ref q96, .ref q101, .ref q106, .ref q111, .ref q116, .ref q121, .ref q126, .ref q131, .ref q136, .ref q141, .ref q146, .ref q151, .ref q156, .ref q161, .null, .null, .null, .null, .null, .int 0, .int 0, .null, .int 0, .int 0, .int 0, .int 0, .null, .null, .null, .int 0, .int 0, .int 0, .int 0, .int 0, .int 0, .int 0, .int 0, .int 0, .int 0, .int 0, .null, .null, .null, .null, .int 0, .null, .null, .int 0, .null, .int 0, .int 0, .null, .null, .null, .null, .null, .null] := ⟨_, rfl⟩
  have es : fs159.set 32 (.ref q161) = fs164 := by rw [efs159, efs164]; rfl
  rw [es] at hG
  replace hlen : fs164.length = 76 := by rw [efs164]; rfl
  clear es efs159
  replace hgl := gl_wr (e' := .inr (15, fs164)) hgl ko
  replace hfr := hfr.wr (e' := .inr (15, fs164))
  replace ko : mm_set G162 o (.inr (15, fs164)) o = some (.inr (15, fs164)) := mm_set_self
  generalize mm_set _ _ _ = G165 at hG hgl hfr ko
  refine lv_aload_n hx hb dX14_init_270 rfl (lv_at hl 0 rfl) ?_
  refine lv_bipush (v := 8) hx hb dX14_init_271 (by decide) ?_
  refine mm_newa (n := 8) (atype := .int) (ty := .int) (N' := 8) (a0 := (8, .inl (fun _ => 0))) hx hb (tb_arr hT tw_175) rfl hK hG hS hA 1 rfl (fun cA => rfl) (by decide) (by decide) (by decide) (by exact Nat.le_of_ble_eq_true rfl) (by exact Nat.le_of_ble_eq_true rfl) dX14_init_273 (fun q166 H hn_q166 hG hS => ?_)
  replace hgl := gl_new (y := (cy 1, 8, .inl (fun _ => 0))) hgl hn_q166
  have fz_q166 : G q166 = none := hfr.none ko hn_q166
  replace hfr := hfr.new (e' := .inl (cy 1, 8, .inl (fun _ => 0))) hn_q166
  replace ko := mm_set_new (e := .inl (cy 1, 8, .inl (fun _ => 0))) ko hn_q166
  obtain ⟨Lz168, eLz168⟩ : ∃ z, z = (q166, ((cy 1, 8, .inl (fun _ => 0)) : ClassId × vp_A)) :: Lz163 := ⟨_, rfl⟩
  rw [← eLz168] at hgl
  clear hn_q166
  generalize mm_set _ _ _ = G167 at hG hgl hfr ko
  refine mm_putF (v := .ref q166) (ty := .array .int) hx hb hf_X14 (fun _ h9 => h9) tyX14 tyX14_ok nmX14 hown hK hG hS ko rfl 33 (by decide) (tb_use hT tw_1424) (fun _ h9 => h9) rfl hin rfl (by decide +kernel) rfl rfl (by rw [hlen]; decide) dX14_init_275 (fun H locs hG hS => ?_)
  obtain ⟨fs169, efs169⟩ : ∃ z : List Value, z = [.ref q1, .ref q6, .ref q11, .ref q16, .ref q21, .ref q26, .ref q31, .ref q36, .ref q41, .ref q46, .ref q51, .ref q56, .ref q61, .ref q66, .ref q71, .ref q76, .ref q81, .ref q86, .ref q91, .ref q96, .ref q101, .ref q106, .ref q111, .ref q116, .ref q121, .ref q126, .ref q131, .ref q136, .ref q141, .ref q146, .ref q151, .ref q156, .ref q161, .ref q166, .null, .null, .null, .null, .int 0, .int 0, .null, .int 0, .int 0, .int 0, .int 0, .null, .null, .null, .int 0, .int 0, .int 0, .int 0, .int 0, .int 0, .int 0, .int 0, .int 0, .int 0, .int 0, .null, .null, .null, .null, .int 0, .null, .null, .int 0, .null, .int 0, .int 0, .null, .null, .null, .null, .null, .null] := ⟨_, rfl⟩
  have es : fs164.set 33 (.ref q166) = fs169 := by rw [efs164, efs169]; rfl
  rw [es] at hG
  replace hlen : fs169.length = 76 := by rw [efs169]; rfl
  clear es efs164
  replace hgl := gl_wr (e' := .inr (15, fs169)) hgl ko
  replace hfr := hfr.wr (e' := .inr (15, fs169))
  replace ko : mm_set G167 o (.inr (15, fs169)) o = some (.inr (15, fs169)) := mm_set_self
  generalize mm_set _ _ _ = G170 at hG hgl hfr ko
  refine lv_aload_n hx hb dX14_init_278 rfl (lv_at hl 0 rfl) ?_
  refine lv_bipush (v := 8) hx hb dX14_init_279 (by decide) ?_
  refine mm_newa (n := 8) (atype := .int) (ty := .int) (N' := 8) (a0 := (8, .inl (fun _ => 0))) hx hb (tb_arr hT tw_175) rfl hK hG hS hA 1 rfl (fun cA => rfl) (by decide) (by decide) (by decide) (by exact Nat.le_of_ble_eq_true rfl) (by exact Nat.le_of_ble_eq_true rfl) dX14_init_281 (fun q171 H hn_q171 hG hS => ?_)
  replace hgl := gl_new (y := (cy 1, 8, .inl (fun _ => 0))) hgl hn_q171
  have fz_q171 : G q171 = none := hfr.none ko hn_q171
  replace hfr := hfr.new (e' := .inl (cy 1, 8, .inl (fun _ => 0))) hn_q171
  replace ko := mm_set_new (e := .inl (cy 1, 8, .inl (fun _ => 0))) ko hn_q171
  obtain ⟨Lz173, eLz173⟩ : ∃ z, z = (q171, ((cy 1, 8, .inl (fun _ => 0)) : ClassId × vp_A)) :: Lz168 := ⟨_, rfl⟩
  rw [← eLz173] at hgl
  clear hn_q171
  generalize mm_set _ _ _ = G172 at hG hgl hfr ko
  refine mm_putF (v := .ref q171) (ty := .array .int) hx hb hf_X14 (fun _ h9 => h9) tyX14 tyX14_ok nmX14 hown hK hG hS ko rfl 34 (by decide) (tb_use hT tw_1425) (fun _ h9 => h9) rfl hin rfl (by decide +kernel) rfl rfl (by rw [hlen]; decide) dX14_init_283 (fun H locs hG hS => ?_)
  obtain ⟨fs174, efs174⟩ : ∃ z : List Value, z = [.ref q1, .ref q6, .ref q11, .ref q16, .ref q21, .ref q26, .ref q31, .ref q36, .ref q41, .ref q46, .ref q51, .ref q56, .ref q61, .ref q66, .ref q71, .ref q76, .ref q81, .ref q86, .ref q91, .ref q96, .ref q101, .ref q106, .ref q111, .ref q116, .ref q121, .ref q126, .ref q131, .ref q136, .ref q141, .ref q146, .ref q151, .ref q156, .ref q161, .ref q166, .ref q171, .null, .null, .null, .int 0, .int 0, .null, .int 0, .int 0, .int 0, .int 0, .null, .null, .null, .int 0, .int 0, .int 0, .int 0, .int 0, .int 0, .int 0, .int 0, .int 0, .int 0, .int 0, .null, .null, .null, .null, .int 0, .null, .null, .int 0, .null, .int 0, .int 0, .null, .null, .null, .null, .null, .null] := ⟨_, rfl⟩
  have es : fs169.set 34 (.ref q171) = fs174 := by rw [efs169, efs174]; rfl
  rw [es] at hG
  replace hlen : fs174.length = 76 := by rw [efs174]; rfl
  clear es efs169
  replace hgl := gl_wr (e' := .inr (15, fs174)) hgl ko
  replace hfr := hfr.wr (e' := .inr (15, fs174))
  replace ko : mm_set G172 o (.inr (15, fs174)) o = some (.inr (15, fs174)) := mm_set_self
  generalize mm_set _ _ _ = G175 at hG hgl hfr ko
  refine lv_aload_n hx hb dX14_init_286 rfl (lv_at hl 0 rfl) ?_
  refine lv_sipush (v := 800) hx hb dX14_init_287 (by decide) ?_
  refine mm_newa (n := 800) (atype := .int) (ty := .int) (N' := 800) (a0 := (800, .inl (fun _ => 0))) hx hb (tb_arr hT tw_175) rfl hK hG hS hA 1 rfl (fun cA => rfl) (by decide) (by decide) (by decide) (by exact Nat.le_of_ble_eq_true rfl) (by exact Nat.le_of_ble_eq_true rfl) dX14_init_290 (fun q176 H hn_q176 hG hS => ?_)
  replace hgl := gl_new (y := (cy 1, 800, .inl (fun _ => 0))) hgl hn_q176
  have fz_q176 : G q176 = none := hfr.none ko hn_q176
  replace hfr := hfr.new (e' := .inl (cy 1, 800, .inl (fun _ => 0))) hn_q176
  replace ko := mm_set_new (e := .inl (cy 1, 800, .inl (fun _ => 0))) ko hn_q176
  obtain ⟨Lz178, eLz178⟩ : ∃ z, z = (q176, ((cy 1, 800, .inl (fun _ => 0)) : ClassId × vp_A)) :: Lz173 := ⟨_, rfl⟩
  rw [← eLz178] at hgl
  clear hn_q176
  generalize mm_set _ _ _ = G177 at hG hgl hfr ko
  refine mm_putF (v := .ref q176) (ty := .array .int) hx hb hf_X14 (fun _ h9 => h9) tyX14 tyX14_ok nmX14 hown hK hG hS ko rfl 35 (by decide) (tb_use hT tw_1426) (fun _ h9 => h9) rfl hin rfl (by decide +kernel) rfl rfl (by rw [hlen]; decide) dX14_init_292 (fun H locs hG hS => ?_)
  obtain ⟨fs179, efs179⟩ : ∃ z : List Value, z = [.ref q1, .ref q6, .ref q11, .ref q16, .ref q21, .ref q26, .ref q31, .ref q36, .ref q41, .ref q46, .ref q51, .ref q56, .ref q61, .ref q66, .ref q71, .ref q76, .ref q81, .ref q86, .ref q91, .ref q96, .ref q101, .ref q106, .ref q111, .ref q116, .ref q121, .ref q126, .ref q131, .ref q136, .ref q141, .ref q146, .ref q151, .ref q156, .ref q161, .ref q166, .ref q171, .ref q176, .null, .null, .int 0, .int 0, .null, .int 0, .int 0, .int 0, .int 0, .null, .null, .null, .int 0, .int 0, .int 0, .int 0, .int 0, .int 0, .int 0, .int 0, .int 0, .int 0, .int 0, .null, .null, .null, .null, .int 0, .null, .null, .int 0, .null, .int 0, .int 0, .null, .null, .null, .null, .null, .null] := ⟨_, rfl⟩
  have es : fs174.set 35 (.ref q176) = fs179 := by rw [efs174, efs179]; rfl
  rw [es] at hG
  replace hlen : fs179.length = 76 := by rw [efs179]; rfl
  clear es efs174
  replace hgl := gl_wr (e' := .inr (15, fs179)) hgl ko
  replace hfr := hfr.wr (e' := .inr (15, fs179))
  replace ko : mm_set G177 o (.inr (15, fs179)) o = some (.inr (15, fs179)) := mm_set_self
  generalize mm_set _ _ _ = G180 at hG hgl hfr ko
  refine lv_aload_n hx hb dX14_init_295 rfl (lv_at hl 0 rfl) ?_
  refine lv_sipush (v := 800) hx hb dX14_init_296 (by decide) ?_
  refine mm_newa (n := 800) (atype := .int) (ty := .int) (N' := 800) (a0 := (800, .inl (fun _ => 0))) hx hb (tb_arr hT tw_175) rfl hK hG hS hA 1 rfl (fun cA => rfl) (by decide) (by decide) (by decide) (by exact Nat.le_of_ble_eq_true rfl) (by exact Nat.le_of_ble_eq_true rfl) dX14_init_299 (fun q181 H hn_q181 hG hS => ?_)
  replace hgl := gl_new (y := (cy 1, 800, .inl (fun _ => 0))) hgl hn_q181
  have fz_q181 : G q181 = none := hfr.none ko hn_q181
  replace hfr := hfr.new (e' := .inl (cy 1, 800, .inl (fun _ => 0))) hn_q181
  replace ko := mm_set_new (e := .inl (cy 1, 800, .inl (fun _ => 0))) ko hn_q181
  obtain ⟨Lz183, eLz183⟩ : ∃ z, z = (q181, ((cy 1, 800, .inl (fun _ => 0)) : ClassId × vp_A)) :: Lz178 := ⟨_, rfl⟩
  rw [← eLz183] at hgl
  clear hn_q181
  generalize mm_set _ _ _ = G182 at hG hgl hfr ko
  refine mm_putF (v := .ref q181) (ty := .array .int) hx hb hf_X14 (fun _ h9 => h9) tyX14 tyX14_ok nmX14 hown hK hG hS ko rfl 36 (by decide) (tb_use hT tw_1427) (fun _ h9 => h9) rfl hin rfl (by decide +kernel) rfl rfl (by rw [hlen]; decide) dX14_init_301 (fun H locs hG hS => ?_)
  obtain ⟨fs184, efs184⟩ : ∃ z : List Value, z = [.ref q1, .ref q6, .ref q11, .ref q16, .ref q21, .ref q26, .ref q31, .ref q36, .ref q41, .ref q46, .ref q51, .ref q56, .ref q61, .ref q66, .ref q71, .ref q76, .ref q81, .ref q86, .ref q91, .ref q96, .ref q101, .ref q106, .ref q111, .ref q116, .ref q121, .ref q126, .ref q131, .ref q136, .ref q141, .ref q146, .ref q151, .ref q156, .ref q161, .ref q166, .ref q171, .ref q176, .ref q181, .null, .int 0, .int 0, .null, .int 0, .int 0, .int 0, .int 0, .null, .null, .null, .int 0, .int 0, .int 0, .int 0, .int 0, .int 0, .int 0, .int 0, .int 0, .int 0, .int 0, .null, .null, .null, .null, .int 0, .null, .null, .int 0, .null, .int 0, .int 0, .null, .null, .null, .null, .null, .null] := ⟨_, rfl⟩
  have es : fs179.set 36 (.ref q181) = fs184 := by rw [efs179, efs184]; rfl
  rw [es] at hG
  replace hlen : fs184.length = 76 := by rw [efs184]; rfl
  clear es efs179
  replace hgl := gl_wr (e' := .inr (15, fs184)) hgl ko
  replace hfr := hfr.wr (e' := .inr (15, fs184))
  replace ko : mm_set G182 o (.inr (15, fs184)) o = some (.inr (15, fs184)) := mm_set_self
  generalize mm_set _ _ _ = G185 at hG hgl hfr ko
  refine lv_aload_n hx hb dX14_init_304 rfl (lv_at hl 0 rfl) ?_
  refine lv_sipush (v := 800) hx hb dX14_init_305 (by decide) ?_
  refine mm_newa (n := 800) (atype := .int) (ty := .int) (N' := 800) (a0 := (800, .inl (fun _ => 0))) hx hb (tb_arr hT tw_175) rfl hK hG hS hA 1 rfl (fun cA => rfl) (by decide) (by decide) (by decide) (by exact Nat.le_of_ble_eq_true rfl) (by exact Nat.le_of_ble_eq_true rfl) dX14_init_308 (fun q186 H hn_q186 hG hS => ?_)
  replace hgl := gl_new (y := (cy 1, 800, .inl (fun _ => 0))) hgl hn_q186
  have fz_q186 : G q186 = none := hfr.none ko hn_q186
  replace hfr := hfr.new (e' := .inl (cy 1, 800, .inl (fun _ => 0))) hn_q186
  replace ko := mm_set_new (e := .inl (cy 1, 800, .inl (fun _ => 0))) ko hn_q186
  obtain ⟨Lz188, eLz188⟩ : ∃ z, z = (q186, ((cy 1, 800, .inl (fun _ => 0)) : ClassId × vp_A)) :: Lz183 := ⟨_, rfl⟩
  rw [← eLz188] at hgl
  clear hn_q186
  generalize mm_set _ _ _ = G187 at hG hgl hfr ko
  refine mm_putF (v := .ref q186) (ty := .array .int) hx hb hf_X14 (fun _ h9 => h9) tyX14 tyX14_ok nmX14 hown hK hG hS ko rfl 37 (by decide) (tb_use hT tw_1428) (fun _ h9 => h9) rfl hin rfl (by decide +kernel) rfl rfl (by rw [hlen]; decide) dX14_init_310 (fun H locs hG hS => ?_)
  obtain ⟨fs189, efs189⟩ : ∃ z : List Value, z = [.ref q1, .ref q6, .ref q11, .ref q16, .ref q21, .ref q26, .ref q31, .ref q36, .ref q41, .ref q46, .ref q51, .ref q56, .ref q61, .ref q66, .ref q71, .ref q76, .ref q81, .ref q86, .ref q91, .ref q96, .ref q101, .ref q106, .ref q111, .ref q116, .ref q121, .ref q126, .ref q131, .ref q136, .ref q141, .ref q146, .ref q151, .ref q156, .ref q161, .ref q166, .ref q171, .ref q176, .ref q181, .ref q186, .int 0, .int 0, .null, .int 0, .int 0, .int 0, .int 0, .null, .null, .null, .int 0, .int 0, .int 0, .int 0, .int 0, .int 0, .int 0, .int 0, .int 0, .int 0, .int 0, .null, .null, .null, .null, .int 0, .null, .null, .int 0, .null, .int 0, .int 0, .null, .null, .null, .null, .null, .null] := ⟨_, rfl⟩
  have es : fs184.set 37 (.ref q186) = fs189 := by rw [efs184, efs189]; rfl
  rw [es] at hG
  replace hlen : fs189.length = 76 := by rw [efs189]; rfl
  clear es efs184
  replace hgl := gl_wr (e' := .inr (15, fs189)) hgl ko
  replace hfr := hfr.wr (e' := .inr (15, fs189))
  replace ko : mm_set G187 o (.inr (15, fs189)) o = some (.inr (15, fs189)) := mm_set_self
  generalize mm_set _ _ _ = G190 at hG hgl hfr ko
  refine lv_aload_n hx hb dX14_init_313 rfl (lv_at hl 0 rfl) ?_
  refine lv_sipush (v := 2000) hx hb dX14_init_314 (by decide) ?_
  refine mm_newa (n := 2000) (atype := .int) (ty := .int) (N' := 2000) (a0 := (2000, .inl (fun _ => 0))) hx hb (tb_arr hT tw_175) rfl hK hG hS hA 1 rfl (fun cA => rfl) (by decide) (by decide) (by decide) (by exact Nat.le_of_ble_eq_true rfl) (by exact Nat.le_of_ble_eq_true rfl) dX14_init_317 (fun q191 H hn_q191 hG hS => ?_)
  replace hgl := gl_new (y := (cy 1, 2000, .inl (fun _ => 0))) hgl hn_q191
  have fz_q191 : G q191 = none := hfr.none ko hn_q191
  replace hfr := hfr.new (e' := .inl (cy 1, 2000, .inl (fun _ => 0))) hn_q191
  replace ko := mm_set_new (e := .inl (cy 1, 2000, .inl (fun _ => 0))) ko hn_q191
  obtain ⟨Lz193, eLz193⟩ : ∃ z, z = (q191, ((cy 1, 2000, .inl (fun _ => 0)) : ClassId × vp_A)) :: Lz188 := ⟨_, rfl⟩
  rw [← eLz193] at hgl
  clear hn_q191
  generalize mm_set _ _ _ = G192 at hG hgl hfr ko
  refine mm_putF (v := .ref q191) (ty := .array .int) hx hb hf_X14 (fun _ h9 => h9) tyX14 tyX14_ok nmX14 hown hK hG hS ko rfl 40 (by decide) (tb_use hT tw_1431) (fun _ h9 => h9) rfl hin rfl (by decide +kernel) rfl rfl (by rw [hlen]; decide) dX14_init_319 (fun H locs hG hS => ?_)
  obtain ⟨fs194, efs194⟩ : ∃ z : List Value, z = [.ref q1, .ref q6, .ref q11, .ref q16, .ref q21, .ref q26, .ref q31, .ref q36, .ref q41, .ref q46, .ref q51, .ref q56, .ref q61, .ref q66, .ref q71, .ref q76, .ref q81, .ref q86, .ref q91, .ref q96, .ref q101, .ref q106, .ref q111, .ref q116, .ref q121, .ref q126, .ref q131, .ref q136, .ref q141, .ref q146, .ref q151, .ref q156, .ref q161, .ref q166, .ref q171, .ref q176, .ref q181, .ref q186, .int 0, .int 0, .ref q191, .int 0, .int 0, .int 0, .int 0, .null, .null, .null, .int 0, .int 0, .int 0, .int 0, .int 0, .int 0, .int 0, .int 0, .int 0, .int 0, .int 0, .null, .null, .null, .null, .int 0, .null, .null, .int 0, .null, .int 0, .int 0, .null, .null, .null, .null, .null, .null] := ⟨_, rfl⟩
  have es : fs189.set 40 (.ref q191) = fs194 := by rw [efs189, efs194]; rfl
  rw [es] at hG
  replace hlen : fs194.length = 76 := by rw [efs194]; rfl
  clear es efs189
  replace hgl := gl_wr (e' := .inr (15, fs194)) hgl ko
  replace hfr := hfr.wr (e' := .inr (15, fs194))
  replace ko : mm_set G192 o (.inr (15, fs194)) o = some (.inr (15, fs194)) := mm_set_self
  generalize mm_set _ _ _ = G195 at hG hgl hfr ko
  refine lv_aload_n hx hb dX14_init_322 rfl (lv_at hl 0 rfl) ?_
  refine lv_iconst (v := 1) hx hb dX14_init_323 (by decide) ?_
  refine mm_put (v := .int 1) (ty := .int) hx hb hf_X14 (fun _ h9 => h9) tyX14 tyX14_ok nmX14 hown hK hG hS ko rfl 42 (by decide) (tb_use hT tw_1433) (fun _ h9 => h9) rfl (by decide +kernel) rfl rfl (by rw [hlen]; decide) dX14_init_324 (fun H locs hG hS => ?_)
  obtain ⟨fs196, efs196⟩ : ∃ z : List Value, z = [.ref q1, .ref q6, .ref q11, .ref q16, .ref q21, .ref q26, .ref q31, .ref q36, .ref q41, .ref q46, .ref q51, .ref q56, .ref q61, .ref q66, .ref q71, .ref q76, .ref q81, .ref q86, .ref q91, .ref q96, .ref q101, .ref q106, .ref q111, .ref q116, .ref q121, .ref q126, .ref q131, .ref q136, .ref q141, .ref q146, .ref q151, .ref q156, .ref q161, .ref q166, .ref q171, .ref q176, .ref q181, .ref q186, .int 0, .int 0, .ref q191, .int 0, .int 1, .int 0, .int 0, .null, .null, .null, .int 0, .int 0, .int 0, .int 0, .int 0, .int 0, .int 0, .int 0, .int 0, .int 0, .int 0, .null, .null, .null, .null, .int 0, .null, .null, .int 0, .null, .int 0, .int 0, .null, .null, .null, .null, .null, .null] := ⟨_, rfl⟩
  have es : fs194.set 42 (.int 1) = fs196 := by rw [efs194, efs196]; rfl
  rw [es] at hG
  replace hlen : fs196.length = 76 := by rw [efs196]; rfl
  clear es efs194
  replace hgl := gl_wr (e' := .inr (15, fs196)) hgl ko
  replace hfr := hfr.wr (e' := .inr (15, fs196))
  replace ko : mm_set G195 o (.inr (15, fs196)) o = some (.inr (15, fs196)) := mm_set_self
  generalize mm_set _ _ _ = G197 at hG hgl hfr ko
  refine lv_aload_n hx hb dX14_init_327 rfl (lv_at hl 0 rfl) ?_
  refine lv_iconst (v := 4) hx hb dX14_init_328 (by decide) ?_
  refine mm_newa (n := 4) (atype := .int) (ty := .int) (N' := 4) (a0 := (4, .inl (fun _ => 0))) hx hb (tb_arr hT tw_175) rfl hK hG hS hA 1 rfl (fun cA => rfl) (by decide) (by decide) (by decide) (by exact Nat.le_of_ble_eq_true rfl) (by exact Nat.le_of_ble_eq_true rfl) dX14_init_329 (fun q198 H hn_q198 hG hS => ?_)
  replace hgl := gl_new (y := (cy 1, 4, .inl (fun _ => 0))) hgl hn_q198
  have fz_q198 : G q198 = none := hfr.none ko hn_q198
  replace hfr := hfr.new (e' := .inl (cy 1, 4, .inl (fun _ => 0))) hn_q198
  replace ko := mm_set_new (e := .inl (cy 1, 4, .inl (fun _ => 0))) ko hn_q198
  obtain ⟨Lz200, eLz200⟩ : ∃ z, z = (q198, ((cy 1, 4, .inl (fun _ => 0)) : ClassId × vp_A)) :: Lz193 := ⟨_, rfl⟩
  rw [← eLz200] at hgl
  clear hn_q198
  generalize mm_set _ _ _ = G199 at hG hgl hfr ko
  refine mm_putF (v := .ref q198) (ty := .array .int) hx hb hf_X14 (fun _ h9 => h9) tyX14 tyX14_ok nmX14 hown hK hG hS ko rfl 45 (by decide) (tb_use hT tw_1436) (fun _ h9 => h9) rfl hin rfl (by decide +kernel) rfl rfl (by rw [hlen]; decide) dX14_init_331 (fun H locs hG hS => ?_)
  obtain ⟨fs201, efs201⟩ : ∃ z : List Value, z = [.ref q1, .ref q6, .ref q11, .ref q16, .ref q21, .ref q26, .ref q31, .ref q36, .ref q41, .ref q46, .ref q51, .ref q56, .ref q61, .ref q66, .ref q71, .ref q76, .ref q81, .ref q86, .ref q91, .ref q96, .ref q101, .ref q106, .ref q111, .ref q116, .ref q121, .ref q126, .ref q131, .ref q136, .ref q141, .ref q146, .ref q151, .ref q156, .ref q161, .ref q166, .ref q171, .ref q176, .ref q181, .ref q186, .int 0, .int 0, .ref q191, .int 0, .int 1, .int 0, .int 0, .ref q198, .null, .null, .int 0, .int 0, .int 0, .int 0, .int 0, .int 0, .int 0, .int 0, .int 0, .int 0, .int 0, .null, .null, .null, .null, .int 0, .null, .null, .int 0, .null, .int 0, .int 0, .null, .null, .null, .null, .null, .null] := ⟨_, rfl⟩
  have es : fs196.set 45 (.ref q198) = fs201 := by rw [efs196, efs201]; rfl
  rw [es] at hG
  replace hlen : fs201.length = 76 := by rw [efs201]; rfl
  clear es efs196
  replace hgl := gl_wr (e' := .inr (15, fs201)) hgl ko
  replace hfr := hfr.wr (e' := .inr (15, fs201))
  replace ko : mm_set G199 o (.inr (15, fs201)) o = some (.inr (15, fs201)) := mm_set_self
  generalize mm_set _ _ _ = G202 at hG hgl hfr ko
  refine lv_aload_n hx hb dX14_init_334 rfl (lv_at hl 0 rfl) ?_
  refine lv_sipush (v := 8000) hx hb dX14_init_335 (by decide) ?_
  refine mm_newa (n := 8000) (atype := .int) (ty := .int) (N' := 8000) (a0 := (8000, .inl (fun _ => 0))) hx hb (tb_arr hT tw_175) rfl hK hG hS hA 1 rfl (fun cA => rfl) (by decide) (by decide) (by decide) (by exact Nat.le_of_ble_eq_true rfl) (by exact Nat.le_of_ble_eq_true rfl) dX14_init_338 (fun q203 H hn_q203 hG hS => ?_)
  replace hgl := gl_new (y := (cy 1, 8000, .inl (fun _ => 0))) hgl hn_q203
  have fz_q203 : G q203 = none := hfr.none ko hn_q203
  replace hfr := hfr.new (e' := .inl (cy 1, 8000, .inl (fun _ => 0))) hn_q203
  replace ko := mm_set_new (e := .inl (cy 1, 8000, .inl (fun _ => 0))) ko hn_q203
  obtain ⟨Lz205, eLz205⟩ : ∃ z, z = (q203, ((cy 1, 8000, .inl (fun _ => 0)) : ClassId × vp_A)) :: Lz200 := ⟨_, rfl⟩
  rw [← eLz205] at hgl
  clear hn_q203
  generalize mm_set _ _ _ = G204 at hG hgl hfr ko
  refine mm_putF (v := .ref q203) (ty := .array .int) hx hb hf_X14 (fun _ h9 => h9) tyX14 tyX14_ok nmX14 hown hK hG hS ko rfl 46 (by decide) (tb_use hT tw_1437) (fun _ h9 => h9) rfl hin rfl (by decide +kernel) rfl rfl (by rw [hlen]; decide) dX14_init_340 (fun H locs hG hS => ?_)
  obtain ⟨fs206, efs206⟩ : ∃ z : List Value, z = [.ref q1, .ref q6, .ref q11, .ref q16, .ref q21, .ref q26, .ref q31, .ref q36, .ref q41, .ref q46, .ref q51, .ref q56, .ref q61, .ref q66, .ref q71, .ref q76, .ref q81, .ref q86, .ref q91, .ref q96, .ref q101, .ref q106, .ref q111, .ref q116, .ref q121, .ref q126, .ref q131, .ref q136, .ref q141, .ref q146, .ref q151, .ref q156, .ref q161, .ref q166, .ref q171, .ref q176, .ref q181, .ref q186, .int 0, .int 0, .ref q191, .int 0, .int 1, .int 0, .int 0, .ref q198, .ref q203, .null, .int 0, .int 0, .int 0, .int 0, .int 0, .int 0, .int 0, .int 0, .int 0, .int 0, .int 0, .null, .null, .null, .null, .int 0, .null, .null, .int 0, .null, .int 0, .int 0, .null, .null, .null, .null, .null, .null] := ⟨_, rfl⟩
  have es : fs201.set 46 (.ref q203) = fs206 := by rw [efs201, efs206]; rfl
  rw [es] at hG
  replace hlen : fs206.length = 76 := by rw [efs206]; rfl
  clear es efs201
  replace hgl := gl_wr (e' := .inr (15, fs206)) hgl ko
  replace hfr := hfr.wr (e' := .inr (15, fs206))
  replace ko : mm_set G204 o (.inr (15, fs206)) o = some (.inr (15, fs206)) := mm_set_self
  generalize mm_set _ _ _ = G207 at hG hgl hfr ko
  refine lv_aload_n hx hb dX14_init_343 rfl (lv_at hl 0 rfl) ?_
  refine lv_aload_n hx hb dX14_init_344 rfl (lv_at hl 0 rfl) ?_
  refine mm_get (v := .ref q191) hx hb hf_X14 (fun _ h9 => h9) hown hK hG ko rfl 40 (by decide) (tb_use hT tw_1431) (fun _ h9 => h9) (by rw [efs206]; rfl) dX14_init_345 ?_
  refine mm_put (v := .ref q191) (ty := .array .int) hx hb hf_X14 (fun _ h9 => h9) tyX14 tyX14_ok nmX14 hown hK hG hS ko rfl 47 (by decide) (tb_use hT tw_1438) (fun _ h9 => h9) rfl (by decide +kernel) rfl rfl (by rw [hlen]; decide) dX14_init_348 (fun H locs hG hS => ?_)
  obtain ⟨fs208, efs208⟩ : ∃ z : List Value, z = [.ref q1, .ref q6, .ref q11, .ref q16, .ref q21, .ref q26, .ref q31, .ref q36, .ref q41, .ref q46, .ref q51, .ref q56, .ref q61, .ref q66, .ref q71, .ref q76, .ref q81, .ref q86, .ref q91, .ref q96, .ref q101, .ref q106, .ref q111, .ref q116, .ref q121, .ref q126, .ref q131, .ref q136, .ref q141, .ref q146, .ref q151, .ref q156, .ref q161, .ref q166, .ref q171, .ref q176, .ref q181, .ref q186, .int 0, .int 0, .ref q191, .int 0, .int 1, .int 0, .int 0, .ref q198, .ref q203, .ref q191, .int 0, .int 0, .int 0, .int 0, .int 0, .int 0, .int 0, .int 0, .int 0, .int 0, .int 0, .null, .null, .null, .null, .int 0, .null, .null, .int 0, .null, .int 0, .int 0, .null, .null, .null, .null, .null, .null] := ⟨_, rfl⟩
  have es : fs206.set 47 (.ref q191) = fs208 := by rw [efs206, efs208]; rfl
  rw [es] at hG
  replace hlen : fs208.length = 76 := by rw [efs208]; rfl
  clear es efs206
  replace hgl := gl_wr (e' := .inr (15, fs208)) hgl ko
  replace hfr := hfr.wr (e' := .inr (15, fs208))
  replace ko : mm_set G207 o (.inr (15, fs208)) o = some (.inr (15, fs208)) := mm_set_self
  generalize mm_set _ _ _ = G209 at hG hgl hfr ko
  refine lv_aload_n hx hb dX14_init_351 rfl (lv_at hl 0 rfl) ?_
  refine lv_sipush (v := 2000) hx hb dX14_init_352 (by decide) ?_
  refine mm_newa (n := 2000) (atype := .int) (ty := .int) (N' := 2000) (a0 := (2000, .inl (fun _ => 0))) hx hb (tb_arr hT tw_175) rfl hK hG hS hA 1 rfl (fun cA => rfl) (by decide) (by decide) (by decide) (by exact Nat.le_of_ble_eq_true rfl) (by exact Nat.le_of_ble_eq_true rfl) dX14_init_355 (fun q210 H hn_q210 hG hS => ?_)
  replace hgl := gl_new (y := (cy 1, 2000, .inl (fun _ => 0))) hgl hn_q210
  have fz_q210 : G q210 = none := hfr.none ko hn_q210
  replace hfr := hfr.new (e' := .inl (cy 1, 2000, .inl (fun _ => 0))) hn_q210
  replace ko := mm_set_new (e := .inl (cy 1, 2000, .inl (fun _ => 0))) ko hn_q210
  obtain ⟨Lz212, eLz212⟩ : ∃ z, z = (q210, ((cy 1, 2000, .inl (fun _ => 0)) : ClassId × vp_A)) :: Lz205 := ⟨_, rfl⟩
  rw [← eLz212] at hgl
  clear hn_q210
  generalize mm_set _ _ _ = G211 at hG hgl hfr ko
  refine mm_putF (v := .ref q210) (ty := .array .int) hx hb hf_X14 (fun _ h9 => h9) tyX14 tyX14_ok nmX14 hown hK hG hS ko rfl 59 (by decide) (tb_use hT tw_1450) (fun _ h9 => h9) rfl hin rfl (by decide +kernel) rfl rfl (by rw [hlen]; decide) dX14_init_357 (fun H locs hG hS => ?_)
  obtain ⟨fs213, efs213⟩ : ∃ z : List Value, z = [.ref q1, .ref q6, .ref q11, .ref q16, .ref q21, .ref q26, .ref q31, .ref q36, .ref q41, .ref q46, .ref q51, .ref q56, .ref q61, .ref q66, .ref q71, .ref q76, .ref q81, .ref q86, .ref q91, .ref q96, .ref q101, .ref q106, .ref q111, .ref q116, .ref q121, .ref q126, .ref q131, .ref q136, .ref q141, .ref q146, .ref q151, .ref q156, .ref q161, .ref q166, .ref q171, .ref q176, .ref q181, .ref q186, .int 0, .int 0, .ref q191, .int 0, .int 1, .int 0, .int 0, .ref q198, .ref q203, .ref q191, .int 0, .int 0, .int 0, .int 0, .int 0, .int 0, .int 0, .int 0, .int 0, .int 0, .int 0, .ref q210, .null, .null, .null, .int 0, .null, .null, .int 0, .null, .int 0, .int 0, .null, .null, .null, .null, .null, .null] := ⟨_, rfl⟩
  have es : fs208.set 59 (.ref q210) = fs213 := by rw [efs208, efs213]; rfl
  rw [es] at hG
  replace hlen : fs213.length = 76 := by rw [efs213]; rfl
  clear es efs208
  replace hgl := gl_wr (e' := .inr (15, fs213)) hgl ko
  replace hfr := hfr.wr (e' := .inr (15, fs213))
  replace ko : mm_set G211 o (.inr (15, fs213)) o = some (.inr (15, fs213)) := mm_set_self
  generalize mm_set _ _ _ = G214 at hG hgl hfr ko
  refine lv_aload_n hx hb dX14_init_360 rfl (lv_at hl 0 rfl) ?_
  refine lv_sipush (v := 2000) hx hb dX14_init_361 (by decide) ?_
  refine mm_newa (n := 2000) (atype := .int) (ty := .int) (N' := 2000) (a0 := (2000, .inl (fun _ => 0))) hx hb (tb_arr hT tw_175) rfl hK hG hS hA 1 rfl (fun cA => rfl) (by decide) (by decide) (by decide) (by exact Nat.le_of_ble_eq_true rfl) (by exact Nat.le_of_ble_eq_true rfl) dX14_init_364 (fun q215 H hn_q215 hG hS => ?_)
  replace hgl := gl_new (y := (cy 1, 2000, .inl (fun _ => 0))) hgl hn_q215
  have fz_q215 : G q215 = none := hfr.none ko hn_q215
  replace hfr := hfr.new (e' := .inl (cy 1, 2000, .inl (fun _ => 0))) hn_q215
  replace ko := mm_set_new (e := .inl (cy 1, 2000, .inl (fun _ => 0))) ko hn_q215
  obtain ⟨Lz217, eLz217⟩ : ∃ z, z = (q215, ((cy 1, 2000, .inl (fun _ => 0)) : ClassId × vp_A)) :: Lz212 := ⟨_, rfl⟩
  rw [← eLz217] at hgl
  clear hn_q215
  generalize mm_set _ _ _ = G216 at hG hgl hfr ko
  refine mm_putF (v := .ref q215) (ty := .array .int) hx hb hf_X14 (fun _ h9 => h9) tyX14 tyX14_ok nmX14 hown hK hG hS ko rfl 60 (by decide) (tb_use hT tw_1451) (fun _ h9 => h9) rfl hin rfl (by decide +kernel) rfl rfl (by rw [hlen]; decide) dX14_init_366 (fun H locs hG hS => ?_)
  obtain ⟨fs218, efs218⟩ : ∃ z : List Value, z = [.ref q1, .ref q6, .ref q11, .ref q16, .ref q21, .ref q26, .ref q31, .ref q36, .ref q41, .ref q46, .ref q51, .ref q56, .ref q61, .ref q66, .ref q71, .ref q76, .ref q81, .ref q86, .ref q91, .ref q96, .ref q101, .ref q106, .ref q111, .ref q116, .ref q121, .ref q126, .ref q131, .ref q136, .ref q141, .ref q146, .ref q151, .ref q156, .ref q161, .ref q166, .ref q171, .ref q176, .ref q181, .ref q186, .int 0, .int 0, .ref q191, .int 0, .int 1, .int 0, .int 0, .ref q198, .ref q203, .ref q191, .int 0, .int 0, .int 0, .int 0, .int 0, .int 0, .int 0, .int 0, .int 0, .int 0, .int 0, .ref q210, .ref q215, .null, .null, .int 0, .null, .null, .int 0, .null, .int 0, .int 0, .null, .null, .null, .null, .null, .null] := ⟨_, rfl⟩
  have es : fs213.set 60 (.ref q215) = fs218 := by rw [efs213, efs218]; rfl
  rw [es] at hG
  replace hlen : fs218.length = 76 := by rw [efs218]; rfl
  clear es efs213
  replace hgl := gl_wr (e' := .inr (15, fs218)) hgl ko
  replace hfr := hfr.wr (e' := .inr (15, fs218))
  replace ko : mm_set G216 o (.inr (15, fs218)) o = some (.inr (15, fs218)) := mm_set_self
  generalize mm_set _ _ _ = G219 at hG hgl hfr ko
  refine lv_aload_n hx hb dX14_init_369 rfl (lv_at hl 0 rfl) ?_
  refine lv_sipush (v := 2000) hx hb dX14_init_370 (by decide) ?_
  refine mm_newa (n := 2000) (atype := .int) (ty := .int) (N' := 2000) (a0 := (2000, .inl (fun _ => 0))) hx hb (tb_arr hT tw_175) rfl hK hG hS hA 1 rfl (fun cA => rfl) (by decide) (by decide) (by decide) (by exact Nat.le_of_ble_eq_true rfl) (by exact Nat.le_of_ble_eq_true rfl) dX14_init_373 (fun q220 H hn_q220 hG hS => ?_)
  replace hgl := gl_new (y := (cy 1, 2000, .inl (fun _ => 0))) hgl hn_q220
  have fz_q220 : G q220 = none := hfr.none ko hn_q220
  replace hfr := hfr.new (e' := .inl (cy 1, 2000, .inl (fun _ => 0))) hn_q220
  replace ko := mm_set_new (e := .inl (cy 1, 2000, .inl (fun _ => 0))) ko hn_q220
  obtain ⟨Lz222, eLz222⟩ : ∃ z, z = (q220, ((cy 1, 2000, .inl (fun _ => 0)) : ClassId × vp_A)) :: Lz217 := ⟨_, rfl⟩
  rw [← eLz222] at hgl
  clear hn_q220
  generalize mm_set _ _ _ = G221 at hG hgl hfr ko
  refine mm_putF (v := .ref q220) (ty := .array .int) hx hb hf_X14 (fun _ h9 => h9) tyX14 tyX14_ok nmX14 hown hK hG hS ko rfl 61 (by decide) (tb_use hT tw_1452) (fun _ h9 => h9) rfl hin rfl (by decide +kernel) rfl rfl (by rw [hlen]; decide) dX14_init_375 (fun H locs hG hS => ?_)
  obtain ⟨fs223, efs223⟩ : ∃ z : List Value, z = [.ref q1, .ref q6, .ref q11, .ref q16, .ref q21, .ref q26, .ref q31, .ref q36, .ref q41, .ref q46, .ref q51, .ref q56, .ref q61, .ref q66, .ref q71, .ref q76, .ref q81, .ref q86, .ref q91, .ref q96, .ref q101, .ref q106, .ref q111, .ref q116, .ref q121, .ref q126, .ref q131, .ref q136, .ref q141, .ref q146, .ref q151, .ref q156, .ref q161, .ref q166, .ref q171, .ref q176, .ref q181, .ref q186, .int 0, .int 0, .ref q191, .int 0, .int 1, .int 0, .int 0, .ref q198, .ref q203, .ref q191, .int 0, .int 0, .int 0, .int 0, .int 0, .int 0, .int 0, .int 0, .int 0, .int 0, .int 0, .ref q210, .ref q215, .ref q220, .null, .int 0, .null, .null, .int 0, .null, .int 0, .int 0, .null, .null, .null, .null, .null, .null] := ⟨_, rfl⟩
  have es : fs218.set 61 (.ref q220) = fs223 := by rw [efs218, efs223]; rfl
  rw [es] at hG
  replace hlen : fs223.length = 76 := by rw [efs223]; rfl
  clear es efs218
  replace hgl := gl_wr (e' := .inr (15, fs223)) hgl ko
  replace hfr := hfr.wr (e' := .inr (15, fs223))
  replace ko : mm_set G221 o (.inr (15, fs223)) o = some (.inr (15, fs223)) := mm_set_self
  generalize mm_set _ _ _ = G224 at hG hgl hfr ko
  refine lv_aload_n hx hb dX14_init_378 rfl (lv_at hl 0 rfl) ?_
  refine lv_sipush (v := 2000) hx hb dX14_init_379 (by decide) ?_
  refine mm_newa (n := 2000) (atype := .int) (ty := .int) (N' := 2000) (a0 := (2000, .inl (fun _ => 0))) hx hb (tb_arr hT tw_175) rfl hK hG hS hA 1 rfl (fun cA => rfl) (by decide) (by decide) (by decide) (by exact Nat.le_of_ble_eq_true rfl) (by exact Nat.le_of_ble_eq_true rfl) dX14_init_382 (fun q225 H hn_q225 hG hS => ?_)
  replace hgl := gl_new (y := (cy 1, 2000, .inl (fun _ => 0))) hgl hn_q225
  have fz_q225 : G q225 = none := hfr.none ko hn_q225
  replace hfr := hfr.new (e' := .inl (cy 1, 2000, .inl (fun _ => 0))) hn_q225
  replace ko := mm_set_new (e := .inl (cy 1, 2000, .inl (fun _ => 0))) ko hn_q225
  obtain ⟨Lz227, eLz227⟩ : ∃ z, z = (q225, ((cy 1, 2000, .inl (fun _ => 0)) : ClassId × vp_A)) :: Lz222 := ⟨_, rfl⟩
  rw [← eLz227] at hgl
  clear hn_q225
  generalize mm_set _ _ _ = G226 at hG hgl hfr ko
  refine mm_putF (v := .ref q225) (ty := .array .int) hx hb hf_X14 (fun _ h9 => h9) tyX14 tyX14_ok nmX14 hown hK hG hS ko rfl 62 (by decide) (tb_use hT tw_1453) (fun _ h9 => h9) rfl hin rfl (by decide +kernel) rfl rfl (by rw [hlen]; decide) dX14_init_384 (fun H locs hG hS => ?_)
  obtain ⟨fs228, efs228⟩ : ∃ z : List Value, z = [.ref q1, .ref q6, .ref q11, .ref q16, .ref q21, .ref q26, .ref q31, .ref q36, .ref q41, .ref q46, .ref q51, .ref q56, .ref q61, .ref q66, .ref q71, .ref q76, .ref q81, .ref q86, .ref q91, .ref q96, .ref q101, .ref q106, .ref q111, .ref q116, .ref q121, .ref q126, .ref q131, .ref q136, .ref q141, .ref q146, .ref q151, .ref q156, .ref q161, .ref q166, .ref q171, .ref q176, .ref q181, .ref q186, .int 0, .int 0, .ref q191, .int 0, .int 1, .int 0, .int 0, .ref q198, .ref q203, .ref q191, .int 0, .int 0, .int 0, .int 0, .int 0, .int 0, .int 0, .int 0, .int 0, .int 0, .int 0, .ref q210, .ref q215, .ref q220, .ref q225, .int 0, .null, .null, .int 0, .null, .int 0, .int 0, .null, .null, .null, .null, .null, .null] := ⟨_, rfl⟩
  have es : fs223.set 62 (.ref q225) = fs228 := by rw [efs223, efs228]; rfl
  rw [es] at hG
  replace hlen : fs228.length = 76 := by rw [efs228]; rfl
  clear es efs223
  replace hgl := gl_wr (e' := .inr (15, fs228)) hgl ko
  replace hfr := hfr.wr (e' := .inr (15, fs228))
  replace ko : mm_set G226 o (.inr (15, fs228)) o = some (.inr (15, fs228)) := mm_set_self
  generalize mm_set _ _ _ = G229 at hG hgl hfr ko
  refine lv_aload_n hx hb dX14_init_387 rfl (lv_at hl 0 rfl) ?_
  refine lv_bipush (v := 6) hx hb dX14_init_388 (by decide) ?_
  refine mm_newa (n := 6) (atype := .int) (ty := .int) (N' := 6) (a0 := (6, .inl (fun _ => 0))) hx hb (tb_arr hT tw_175) rfl hK hG hS hA 1 rfl (fun cA => rfl) (by decide) (by decide) (by decide) (by exact Nat.le_of_ble_eq_true rfl) (by exact Nat.le_of_ble_eq_true rfl) dX14_init_390 (fun q230 H hn_q230 hG hS => ?_)
  replace hgl := gl_new (y := (cy 1, 6, .inl (fun _ => 0))) hgl hn_q230
  have fz_q230 : G q230 = none := hfr.none ko hn_q230
  replace hfr := hfr.new (e' := .inl (cy 1, 6, .inl (fun _ => 0))) hn_q230
  replace ko := mm_set_new (e := .inl (cy 1, 6, .inl (fun _ => 0))) ko hn_q230
  obtain ⟨Lz232, eLz232⟩ : ∃ z, z = (q230, ((cy 1, 6, .inl (fun _ => 0)) : ClassId × vp_A)) :: Lz227 := ⟨_, rfl⟩
  rw [← eLz232] at hgl
  clear hn_q230
  generalize mm_set _ _ _ = G231 at hG hgl hfr ko
  refine mm_putF (v := .ref q230) (ty := .array .int) hx hb hf_X14 (fun _ h9 => h9) tyX14 tyX14_ok nmX14 hown hK hG hS ko rfl 64 (by decide) (tb_use hT tw_1455) (fun _ h9 => h9) rfl hin rfl (by decide +kernel) rfl rfl (by rw [hlen]; decide) dX14_init_392 (fun H locs hG hS => ?_)
  obtain ⟨fs233, efs233⟩ : ∃ z : List Value, z = [.ref q1, .ref q6, .ref q11, .ref q16, .ref q21, .ref q26, .ref q31, .ref q36, .ref q41, .ref q46, .ref q51, .ref q56, .ref q61, .ref q66, .ref q71, .ref q76, .ref q81, .ref q86, .ref q91, .ref q96, .ref q101, .ref q106, .ref q111, .ref q116, .ref q121, .ref q126, .ref q131, .ref q136, .ref q141, .ref q146, .ref q151, .ref q156, .ref q161, .ref q166, .ref q171, .ref q176, .ref q181, .ref q186, .int 0, .int 0, .ref q191, .int 0, .int 1, .int 0, .int 0, .ref q198, .ref q203, .ref q191, .int 0, .int 0, .int 0, .int 0, .int 0, .int 0, .int 0, .int 0, .int 0, .int 0, .int 0, .ref q210, .ref q215, .ref q220, .ref q225, .int 0, .ref q230, .null, .int 0, .null, .int 0, .int 0, .null, .null, .null, .null, .null, .null] := ⟨_, rfl⟩
  have es : fs228.set 64 (.ref q230) = fs233 := by rw [efs228, efs233]; rfl
  rw [es] at hG
  replace hlen : fs233.length = 76 := by rw [efs233]; rfl
  clear es efs228
  replace hgl := gl_wr (e' := .inr (15, fs233)) hgl ko
  replace hfr := hfr.wr (e' := .inr (15, fs233))
  replace ko : mm_set G231 o (.inr (15, fs233)) o = some (.inr (15, fs233)) := mm_set_self
  generalize mm_set _ _ _ = G234 at hG hgl hfr ko
  refine lv_aload_n hx hb dX14_init_395 rfl (lv_at hl 0 rfl) ?_
  refine lv_bipush (v := 64) hx hb dX14_init_396 (by decide) ?_
  refine mm_newa (n := 64) (atype := .int) (ty := .int) (N' := 64) (a0 := (64, .inl (fun _ => 0))) hx hb (tb_arr hT tw_175) rfl hK hG hS hA 1 rfl (fun cA => rfl) (by decide) (by decide) (by decide) (by exact Nat.le_of_ble_eq_true rfl) (by exact Nat.le_of_ble_eq_true rfl) dX14_init_398 (fun q235 H hn_q235 hG hS => ?_)
  replace hgl := gl_new (y := (cy 1, 64, .inl (fun _ => 0))) hgl hn_q235
  have fz_q235 : G q235 = none := hfr.none ko hn_q235
  replace hfr := hfr.new (e' := .inl (cy 1, 64, .inl (fun _ => 0))) hn_q235
  replace ko := mm_set_new (e := .inl (cy 1, 64, .inl (fun _ => 0))) ko hn_q235
  obtain ⟨Lz237, eLz237⟩ : ∃ z, z = (q235, ((cy 1, 64, .inl (fun _ => 0)) : ClassId × vp_A)) :: Lz232 := ⟨_, rfl⟩
  rw [← eLz237] at hgl
  clear hn_q235
  generalize mm_set _ _ _ = G236 at hG hgl hfr ko
  refine mm_putF (v := .ref q235) (ty := .array .int) hx hb hf_X14 (fun _ h9 => h9) tyX14 tyX14_ok nmX14 hown hK hG hS ko rfl 65 (by decide) (tb_use hT tw_1456) (fun _ h9 => h9) rfl hin rfl (by decide +kernel) rfl rfl (by rw [hlen]; decide) dX14_init_400 (fun H locs hG hS => ?_)
  obtain ⟨fs238, efs238⟩ : ∃ z : List Value, z = [.ref q1, .ref q6, .ref q11, .ref q16, .ref q21, .ref q26, .ref q31, .ref q36, .ref q41, .ref q46, .ref q51, .ref q56, .ref q61, .ref q66, .ref q71, .ref q76, .ref q81, .ref q86, .ref q91, .ref q96, .ref q101, .ref q106, .ref q111, .ref q116, .ref q121, .ref q126, .ref q131, .ref q136, .ref q141, .ref q146, .ref q151, .ref q156, .ref q161, .ref q166, .ref q171, .ref q176, .ref q181, .ref q186, .int 0, .int 0, .ref q191, .int 0, .int 1, .int 0, .int 0, .ref q198, .ref q203, .ref q191, .int 0, .int 0, .int 0, .int 0, .int 0, .int 0, .int 0, .int 0, .int 0, .int 0, .int 0, .ref q210, .ref q215, .ref q220, .ref q225, .int 0, .ref q230, .ref q235, .int 0, .null, .int 0, .int 0, .null, .null, .null, .null, .null, .null] := ⟨_, rfl⟩
  have es : fs233.set 65 (.ref q235) = fs238 := by rw [efs233, efs238]; rfl
  rw [es] at hG
  replace hlen : fs238.length = 76 := by rw [efs238]; rfl
  clear es efs233
  replace hgl := gl_wr (e' := .inr (15, fs238)) hgl ko
  replace hfr := hfr.wr (e' := .inr (15, fs238))
  replace ko : mm_set G236 o (.inr (15, fs238)) o = some (.inr (15, fs238)) := mm_set_self
  generalize mm_set _ _ _ = G239 at hG hgl hfr ko
  refine lv_aload_n hx hb dX14_init_403 rfl (lv_at hl 0 rfl) ?_
  refine lv_bipush (v := 64) hx hb dX14_init_404 (by decide) ?_
  refine mm_newa (n := 64) (atype := .int) (ty := .int) (N' := 64) (a0 := (64, .inl (fun _ => 0))) hx hb (tb_arr hT tw_175) rfl hK hG hS hA 1 rfl (fun cA => rfl) (by decide) (by decide) (by decide) (by exact Nat.le_of_ble_eq_true rfl) (by exact Nat.le_of_ble_eq_true rfl) dX14_init_406 (fun q240 H hn_q240 hG hS => ?_)
  replace hgl := gl_new (y := (cy 1, 64, .inl (fun _ => 0))) hgl hn_q240
  have fz_q240 : G q240 = none := hfr.none ko hn_q240
  replace hfr := hfr.new (e' := .inl (cy 1, 64, .inl (fun _ => 0))) hn_q240
  replace ko := mm_set_new (e := .inl (cy 1, 64, .inl (fun _ => 0))) ko hn_q240
  obtain ⟨Lz242, eLz242⟩ : ∃ z, z = (q240, ((cy 1, 64, .inl (fun _ => 0)) : ClassId × vp_A)) :: Lz237 := ⟨_, rfl⟩
  rw [← eLz242] at hgl
  clear hn_q240
  generalize mm_set _ _ _ = G241 at hG hgl hfr ko
  refine mm_putF (v := .ref q240) (ty := .array .int) hx hb hf_X14 (fun _ h9 => h9) tyX14 tyX14_ok nmX14 hown hK hG hS ko rfl 67 (by decide) (tb_use hT tw_1458) (fun _ h9 => h9) rfl hin rfl (by decide +kernel) rfl rfl (by rw [hlen]; decide) dX14_init_408 (fun H locs hG hS => ?_)
  obtain ⟨fs243, efs243⟩ : ∃ z : List Value, z = [.ref q1, .ref q6, .ref q11, .ref q16, .ref q21, .ref q26, .ref q31, .ref q36, .ref q41, .ref q46, .ref q51, .ref q56, .ref q61, .ref q66, .ref q71, .ref q76, .ref q81, .ref q86, .ref q91, .ref q96, .ref q101, .ref q106, .ref q111, .ref q116, .ref q121, .ref q126, .ref q131, .ref q136, .ref q141, .ref q146, .ref q151, .ref q156, .ref q161, .ref q166, .ref q171, .ref q176, .ref q181, .ref q186, .int 0, .int 0, .ref q191, .int 0, .int 1, .int 0, .int 0, .ref q198, .ref q203, .ref q191, .int 0, .int 0, .int 0, .int 0, .int 0, .int 0, .int 0, .int 0, .int 0, .int 0, .int 0, .ref q210, .ref q215, .ref q220, .ref q225, .int 0, .ref q230, .ref q235, .int 0, .ref q240, .int 0, .int 0, .null, .null, .null, .null, .null, .null] := ⟨_, rfl⟩
  have es : fs238.set 67 (.ref q240) = fs243 := by rw [efs238, efs243]; rfl
  rw [es] at hG
  replace hlen : fs243.length = 76 := by rw [efs243]; rfl
  clear es efs238
  replace hgl := gl_wr (e' := .inr (15, fs243)) hgl ko
  replace hfr := hfr.wr (e' := .inr (15, fs243))
  replace ko : mm_set G241 o (.inr (15, fs243)) o = some (.inr (15, fs243)) := mm_set_self
  generalize mm_set _ _ _ = G244 at hG hgl hfr ko
  refine lv_aload_n hx hb dX14_init_411 rfl (lv_at hl 0 rfl) ?_
  refine lv_sipush (v := 128) hx hb dX14_init_412 (by decide) ?_
  refine mm_newa (n := 128) (atype := .long) (ty := .long) (N' := 128) (a0 := (128, .inr (.inl (fun _ => 0)))) hx hb (tb_arr hT tw_176) rfl hK hG hS hA 2 rfl (fun cA => rfl) (by decide) (by decide) (by decide) (by exact Nat.le_of_ble_eq_true rfl) (by exact Nat.le_of_ble_eq_true rfl) dX14_init_415 (fun q245 H hn_q245 hG hS => ?_)
  replace hgl := gl_new (y := (cy 2, 128, .inr (.inl (fun _ => 0)))) hgl hn_q245
  have fz_q245 : G q245 = none := hfr.none ko hn_q245
  replace hfr := hfr.new (e' := .inl (cy 2, 128, .inr (.inl (fun _ => 0)))) hn_q245
  replace ko := mm_set_new (e := .inl (cy 2, 128, .inr (.inl (fun _ => 0)))) ko hn_q245
  obtain ⟨Lz247, eLz247⟩ : ∃ z, z = (q245, ((cy 2, 128, .inr (.inl (fun _ => 0))) : ClassId × vp_A)) :: Lz242 := ⟨_, rfl⟩
  rw [← eLz247] at hgl
  clear hn_q245
  generalize mm_set _ _ _ = G246 at hG hgl hfr ko
  refine mm_putF (v := .ref q245) (ty := .array .long) hx hb hf_X14 (fun _ h9 => h9) tyX14 tyX14_ok nmX14 hown hK hG hS ko rfl 70 (by decide) (tb_use hT tw_1461) (fun _ h9 => h9) rfl hin rfl (by decide +kernel) rfl rfl (by rw [hlen]; decide) dX14_init_417 (fun H locs hG hS => ?_)
  obtain ⟨fs248, efs248⟩ : ∃ z : List Value, z = [.ref q1, .ref q6, .ref q11, .ref q16, .ref q21, .ref q26, .ref q31, .ref q36, .ref q41, .ref q46, .ref q51, .ref q56, .ref q61, .ref q66, .ref q71, .ref q76, .ref q81, .ref q86, .ref q91, .ref q96, .ref q101, .ref q106, .ref q111, .ref q116, .ref q121, .ref q126, .ref q131, .ref q136, .ref q141, .ref q146, .ref q151, .ref q156, .ref q161, .ref q166, .ref q171, .ref q176, .ref q181, .ref q186, .int 0, .int 0, .ref q191, .int 0, .int 1, .int 0, .int 0, .ref q198, .ref q203, .ref q191, .int 0, .int 0, .int 0, .int 0, .int 0, .int 0, .int 0, .int 0, .int 0, .int 0, .int 0, .ref q210, .ref q215, .ref q220, .ref q225, .int 0, .ref q230, .ref q235, .int 0, .ref q240, .int 0, .int 0, .ref q245, .null, .null, .null, .null, .null] := ⟨_, rfl⟩
  have es : fs243.set 70 (.ref q245) = fs248 := by rw [efs243, efs248]; rfl
  rw [es] at hG
  replace hlen : fs248.length = 76 := by rw [efs248]; rfl
  clear es efs243
  replace hgl := gl_wr (e' := .inr (15, fs248)) hgl ko
  replace hfr := hfr.wr (e' := .inr (15, fs248))
  replace ko : mm_set G246 o (.inr (15, fs248)) o = some (.inr (15, fs248)) := mm_set_self
  generalize mm_set _ _ _ = G249 at hG hgl hfr ko
  refine lv_aload_n hx hb dX14_init_420 rfl (lv_at hl 0 rfl) ?_
  refine lv_bipush (v := 8) hx hb dX14_init_421 (by decide) ?_
  refine mm_newa (n := 8) (atype := .boolean) (ty := .boolean) (N' := 8) (a0 := (8, .inl (fun _ => 0))) hx hb (tb_arr hT tw_1620) rfl hK hG hS hA 3 rfl (fun cA => rfl) (by decide) (by decide) (by decide) (by exact Nat.le_of_ble_eq_true rfl) (by exact Nat.le_of_ble_eq_true rfl) dX14_init_423 (fun q250 H hn_q250 hG hS => ?_)
  replace hgl := gl_new (y := (cy 3, 8, .inl (fun _ => 0))) hgl hn_q250
  have fz_q250 : G q250 = none := hfr.none ko hn_q250
  replace hfr := hfr.new (e' := .inl (cy 3, 8, .inl (fun _ => 0))) hn_q250
  replace ko := mm_set_new (e := .inl (cy 3, 8, .inl (fun _ => 0))) ko hn_q250
  obtain ⟨Lz252, eLz252⟩ : ∃ z, z = (q250, ((cy 3, 8, .inl (fun _ => 0)) : ClassId × vp_A)) :: Lz247 := ⟨_, rfl⟩
  rw [← eLz252] at hgl
  clear hn_q250
  generalize mm_set _ _ _ = G251 at hG hgl hfr ko
  refine mm_putF (v := .ref q250) (ty := .array .boolean) hx hb hf_X14 (fun _ h9 => h9) tyX14 tyX14_ok nmX14 hown hK hG hS ko rfl 71 (by decide) (tb_use hT tw_1462) (fun _ h9 => h9) rfl hin rfl (by decide +kernel) rfl rfl (by rw [hlen]; decide) dX14_init_425 (fun H locs hG hS => ?_)
  obtain ⟨fs253, efs253⟩ : ∃ z : List Value, z = [.ref q1, .ref q6, .ref q11, .ref q16, .ref q21, .ref q26, .ref q31, .ref q36, .ref q41, .ref q46, .ref q51, .ref q56, .ref q61, .ref q66, .ref q71, .ref q76, .ref q81, .ref q86, .ref q91, .ref q96, .ref q101, .ref q106, .ref q111, .ref q116, .ref q121, .ref q126, .ref q131, .ref q136, .ref q141, .ref q146, .ref q151, .ref q156, .ref q161, .ref q166, .ref q171, .ref q176, .ref q181, .ref q186, .int 0, .int 0, .ref q191, .int 0, .int 1, .int 0, .int 0, .ref q198, .ref q203, .ref q191, .int 0, .int 0, .int 0, .int 0, .int 0, .int 0, .int 0, .int 0, .int 0, .int 0, .int 0, .ref q210, .ref q215, .ref q220, .ref q225, .int 0, .ref q230, .ref q235, .int 0, .ref q240, .int 0, .int 0, .ref q245, .ref q250, .null, .null, .null, .null] := ⟨_, rfl⟩
  have es : fs248.set 71 (.ref q250) = fs253 := by rw [efs248, efs253]; rfl
  rw [es] at hG
  replace hlen : fs253.length = 76 := by rw [efs253]; rfl
  clear es efs248
  replace hgl := gl_wr (e' := .inr (15, fs253)) hgl ko
  replace hfr := hfr.wr (e' := .inr (15, fs253))
  replace ko : mm_set G251 o (.inr (15, fs253)) o = some (.inr (15, fs253)) := mm_set_self
  generalize mm_set _ _ _ = G254 at hG hgl hfr ko
  refine lv_aload_n hx hb dX14_init_428 rfl (lv_at hl 0 rfl) ?_
  refine lv_bipush (v := 8) hx hb dX14_init_429 (by decide) ?_
  refine mm_newa (n := 8) (atype := .int) (ty := .int) (N' := 8) (a0 := (8, .inl (fun _ => 0))) hx hb (tb_arr hT tw_175) rfl hK hG hS hA 1 rfl (fun cA => rfl) (by decide) (by decide) (by decide) (by exact Nat.le_of_ble_eq_true rfl) (by exact Nat.le_of_ble_eq_true rfl) dX14_init_431 (fun q255 H hn_q255 hG hS => ?_)
  replace hgl := gl_new (y := (cy 1, 8, .inl (fun _ => 0))) hgl hn_q255
  have fz_q255 : G q255 = none := hfr.none ko hn_q255
  replace hfr := hfr.new (e' := .inl (cy 1, 8, .inl (fun _ => 0))) hn_q255
  replace ko := mm_set_new (e := .inl (cy 1, 8, .inl (fun _ => 0))) ko hn_q255
  obtain ⟨Lz257, eLz257⟩ : ∃ z, z = (q255, ((cy 1, 8, .inl (fun _ => 0)) : ClassId × vp_A)) :: Lz252 := ⟨_, rfl⟩
  rw [← eLz257] at hgl
  clear hn_q255
  generalize mm_set _ _ _ = G256 at hG hgl hfr ko
  refine mm_putF (v := .ref q255) (ty := .array .int) hx hb hf_X14 (fun _ h9 => h9) tyX14 tyX14_ok nmX14 hown hK hG hS ko rfl 72 (by decide) (tb_use hT tw_1463) (fun _ h9 => h9) rfl hin rfl (by decide +kernel) rfl rfl (by rw [hlen]; decide) dX14_init_433 (fun H locs hG hS => ?_)
  obtain ⟨fs258, efs258⟩ : ∃ z : List Value, z = [.ref q1, .ref q6, .ref q11, .ref q16, .ref q21, .ref q26, .ref q31, .ref q36, .ref q41, .ref q46, .ref q51, .ref q56, .ref q61, .ref q66, .ref q71, .ref q76, .ref q81, .ref q86, .ref q91, .ref q96, .ref q101, .ref q106, .ref q111, .ref q116, .ref q121, .ref q126, .ref q131, .ref q136, .ref q141, .ref q146, .ref q151, .ref q156, .ref q161, .ref q166, .ref q171, .ref q176, .ref q181, .ref q186, .int 0, .int 0, .ref q191, .int 0, .int 1, .int 0, .int 0, .ref q198, .ref q203, .ref q191, .int 0, .int 0, .int 0, .int 0, .int 0, .int 0, .int 0, .int 0, .int 0, .int 0, .int 0, .ref q210, .ref q215, .ref q220, .ref q225, .int 0, .ref q230, .ref q235, .int 0, .ref q240, .int 0, .int 0, .ref q245, .ref q250, .ref q255, .null, .null, .null] := ⟨_, rfl⟩
  have es : fs253.set 72 (.ref q255) = fs258 := by rw [efs253, efs258]; rfl
  rw [es] at hG
  replace hlen : fs258.length = 76 := by rw [efs258]; rfl
  clear es efs253
  replace hgl := gl_wr (e' := .inr (15, fs258)) hgl ko
  replace hfr := hfr.wr (e' := .inr (15, fs258))
  replace ko : mm_set G256 o (.inr (15, fs258)) o = some (.inr (15, fs258)) := mm_set_self
  generalize mm_set _ _ _ = G259 at hG hgl hfr ko
  refine lv_aload_n hx hb dX14_init_436 rfl (lv_at hl 0 rfl) ?_
  refine lv_bipush (v := 8) hx hb dX14_init_437 (by decide) ?_
  refine mm_newa (n := 8) (atype := .int) (ty := .int) (N' := 8) (a0 := (8, .inl (fun _ => 0))) hx hb (tb_arr hT tw_175) rfl hK hG hS hA 1 rfl (fun cA => rfl) (by decide) (by decide) (by decide) (by exact Nat.le_of_ble_eq_true rfl) (by exact Nat.le_of_ble_eq_true rfl) dX14_init_439 (fun q260 H hn_q260 hG hS => ?_)
  replace hgl := gl_new (y := (cy 1, 8, .inl (fun _ => 0))) hgl hn_q260
  have fz_q260 : G q260 = none := hfr.none ko hn_q260
  replace hfr := hfr.new (e' := .inl (cy 1, 8, .inl (fun _ => 0))) hn_q260
  replace ko := mm_set_new (e := .inl (cy 1, 8, .inl (fun _ => 0))) ko hn_q260
  obtain ⟨Lz262, eLz262⟩ : ∃ z, z = (q260, ((cy 1, 8, .inl (fun _ => 0)) : ClassId × vp_A)) :: Lz257 := ⟨_, rfl⟩
  rw [← eLz262] at hgl
  clear hn_q260
  generalize mm_set _ _ _ = G261 at hG hgl hfr ko
  refine mm_putF (v := .ref q260) (ty := .array .int) hx hb hf_X14 (fun _ h9 => h9) tyX14 tyX14_ok nmX14 hown hK hG hS ko rfl 73 (by decide) (tb_use hT tw_1464) (fun _ h9 => h9) rfl hin rfl (by decide +kernel) rfl rfl (by rw [hlen]; decide) dX14_init_441 (fun H locs hG hS => ?_)
  obtain ⟨fs263, efs263⟩ : ∃ z : List Value, z = [.ref q1, .ref q6, .ref q11, .ref q16, .ref q21, .ref q26, .ref q31, .ref q36, .ref q41, .ref q46, .ref q51, .ref q56, .ref q61, .ref q66, .ref q71, .ref q76, .ref q81, .ref q86, .ref q91, .ref q96, .ref q101, .ref q106, .ref q111, .ref q116, .ref q121, .ref q126, .ref q131, .ref q136, .ref q141, .ref q146, .ref q151, .ref q156, .ref q161, .ref q166, .ref q171, .ref q176, .ref q181, .ref q186, .int 0, .int 0, .ref q191, .int 0, .int 1, .int 0, .int 0, .ref q198, .ref q203, .ref q191, .int 0, .int 0, .int 0, .int 0, .int 0, .int 0, .int 0, .int 0, .int 0, .int 0, .int 0, .ref q210, .ref q215, .ref q220, .ref q225, .int 0, .ref q230, .ref q235, .int 0, .ref q240, .int 0, .int 0, .ref q245, .ref q250, .ref q255, .ref q260, .null, .null] := ⟨_, rfl⟩
  have es : fs258.set 73 (.ref q260) = fs263 := by rw [efs258, efs263]; rfl
  rw [es] at hG
  replace hlen : fs263.length = 76 := by rw [efs263]; rfl
  clear es efs258
  replace hgl := gl_wr (e' := .inr (15, fs263)) hgl ko
  replace hfr := hfr.wr (e' := .inr (15, fs263))
  replace ko : mm_set G261 o (.inr (15, fs263)) o = some (.inr (15, fs263)) := mm_set_self
  generalize mm_set _ _ _ = G264 at hG hgl hfr ko
  refine lv_aload_n hx hb dX14_init_444 rfl (lv_at hl 0 rfl) ?_
  refine lv_bipush (v := 8) hx hb dX14_init_445 (by decide) ?_
  refine mm_newa (n := 8) (atype := .long) (ty := .long) (N' := 8) (a0 := (8, .inr (.inl (fun _ => 0)))) hx hb (tb_arr hT tw_176) rfl hK hG hS hA 2 rfl (fun cA => rfl) (by decide) (by decide) (by decide) (by exact Nat.le_of_ble_eq_true rfl) (by exact Nat.le_of_ble_eq_true rfl) dX14_init_447 (fun q265 H hn_q265 hG hS => ?_)
  replace hgl := gl_new (y := (cy 2, 8, .inr (.inl (fun _ => 0)))) hgl hn_q265
  have fz_q265 : G q265 = none := hfr.none ko hn_q265
  replace hfr := hfr.new (e' := .inl (cy 2, 8, .inr (.inl (fun _ => 0)))) hn_q265
  replace ko := mm_set_new (e := .inl (cy 2, 8, .inr (.inl (fun _ => 0)))) ko hn_q265
  obtain ⟨Lz267, eLz267⟩ : ∃ z, z = (q265, ((cy 2, 8, .inr (.inl (fun _ => 0))) : ClassId × vp_A)) :: Lz262 := ⟨_, rfl⟩
  rw [← eLz267] at hgl
  clear hn_q265
  generalize mm_set _ _ _ = G266 at hG hgl hfr ko
  refine mm_putF (v := .ref q265) (ty := .array .long) hx hb hf_X14 (fun _ h9 => h9) tyX14 tyX14_ok nmX14 hown hK hG hS ko rfl 74 (by decide) (tb_use hT tw_1465) (fun _ h9 => h9) rfl hin rfl (by decide +kernel) rfl rfl (by rw [hlen]; decide) dX14_init_449 (fun H locs hG hS => ?_)
  obtain ⟨fs268, efs268⟩ : ∃ z : List Value, z = [.ref q1, .ref q6, .ref q11, .ref q16, .ref q21, .ref q26, .ref q31, .ref q36, .ref q41, .ref q46, .ref q51, .ref q56, .ref q61, .ref q66, .ref q71, .ref q76, .ref q81, .ref q86, .ref q91, .ref q96, .ref q101, .ref q106, .ref q111, .ref q116, .ref q121, .ref q126, .ref q131, .ref q136, .ref q141, .ref q146, .ref q151, .ref q156, .ref q161, .ref q166, .ref q171, .ref q176, .ref q181, .ref q186, .int 0, .int 0, .ref q191, .int 0, .int 1, .int 0, .int 0, .ref q198, .ref q203, .ref q191, .int 0, .int 0, .int 0, .int 0, .int 0, .int 0, .int 0, .int 0, .int 0, .int 0, .int 0, .ref q210, .ref q215, .ref q220, .ref q225, .int 0, .ref q230, .ref q235, .int 0, .ref q240, .int 0, .int 0, .ref q245, .ref q250, .ref q255, .ref q260, .ref q265, .null] := ⟨_, rfl⟩
  have es : fs263.set 74 (.ref q265) = fs268 := by rw [efs263, efs268]; rfl
  rw [es] at hG
  replace hlen : fs268.length = 76 := by rw [efs268]; rfl
  clear es efs263
  replace hgl := gl_wr (e' := .inr (15, fs268)) hgl ko
  replace hfr := hfr.wr (e' := .inr (15, fs268))
  replace ko : mm_set G266 o (.inr (15, fs268)) o = some (.inr (15, fs268)) := mm_set_self
  generalize mm_set _ _ _ = G269 at hG hgl hfr ko
  refine lv_aload_n hx hb dX14_init_452 rfl (lv_at hl 0 rfl) ?_
  refine lv_bipush (v := 16) hx hb dX14_init_453 (by decide) ?_
  refine mm_newa (n := 16) (atype := .long) (ty := .long) (N' := 16) (a0 := (16, .inr (.inl (fun _ => 0)))) hx hb (tb_arr hT tw_176) rfl hK hG hS hA 2 rfl (fun cA => rfl) (by decide) (by decide) (by decide) (by exact Nat.le_of_ble_eq_true rfl) (by exact Nat.le_of_ble_eq_true rfl) dX14_init_455 (fun q270 H hn_q270 hG hS => ?_)
  replace hgl := gl_new (y := (cy 2, 16, .inr (.inl (fun _ => 0)))) hgl hn_q270
  have fz_q270 : G q270 = none := hfr.none ko hn_q270
  replace hfr := hfr.new (e' := .inl (cy 2, 16, .inr (.inl (fun _ => 0)))) hn_q270
  replace ko := mm_set_new (e := .inl (cy 2, 16, .inr (.inl (fun _ => 0)))) ko hn_q270
  obtain ⟨Lz272, eLz272⟩ : ∃ z, z = (q270, ((cy 2, 16, .inr (.inl (fun _ => 0))) : ClassId × vp_A)) :: Lz267 := ⟨_, rfl⟩
  rw [← eLz272] at hgl
  clear hn_q270
  generalize mm_set _ _ _ = G271 at hG hgl hfr ko
  refine mm_putF (v := .ref q270) (ty := .array .long) hx hb hf_X14 (fun _ h9 => h9) tyX14 tyX14_ok nmX14 hown hK hG hS ko rfl 75 (by decide) (tb_use hT tw_1466) (fun _ h9 => h9) rfl hin rfl (by decide +kernel) rfl rfl (by rw [hlen]; decide) dX14_init_457 (fun H locs hG hS => ?_)
  obtain ⟨fs273, efs273⟩ : ∃ z : List Value, z = [.ref q1, .ref q6, .ref q11, .ref q16, .ref q21, .ref q26, .ref q31, .ref q36, .ref q41, .ref q46, .ref q51, .ref q56, .ref q61, .ref q66, .ref q71, .ref q76, .ref q81, .ref q86, .ref q91, .ref q96, .ref q101, .ref q106, .ref q111, .ref q116, .ref q121, .ref q126, .ref q131, .ref q136, .ref q141, .ref q146, .ref q151, .ref q156, .ref q161, .ref q166, .ref q171, .ref q176, .ref q181, .ref q186, .int 0, .int 0, .ref q191, .int 0, .int 1, .int 0, .int 0, .ref q198, .ref q203, .ref q191, .int 0, .int 0, .int 0, .int 0, .int 0, .int 0, .int 0, .int 0, .int 0, .int 0, .int 0, .ref q210, .ref q215, .ref q220, .ref q225, .int 0, .ref q230, .ref q235, .int 0, .ref q240, .int 0, .int 0, .ref q245, .ref q250, .ref q255, .ref q260, .ref q265, .ref q270] := ⟨_, rfl⟩
  have es : fs268.set 75 (.ref q270) = fs273 := by rw [efs268, efs273]; rfl
  rw [es] at hG
  replace hlen : fs273.length = 76 := by rw [efs273]; rfl
  clear es efs268
  replace hgl := gl_wr (e' := .inr (15, fs273)) hgl ko
  replace hfr := hfr.wr (e' := .inr (15, fs273))
  replace ko : mm_set G271 o (.inr (15, fs273)) o = some (.inr (15, fs273)) := mm_set_self
  generalize mm_set _ _ _ = G274 at hG hgl hfr ko
  subst eLz3 eLz8 eLz13 eLz18 eLz23 eLz28 eLz33 eLz38 eLz43 eLz48 eLz53 eLz58 eLz63 eLz68 eLz73 eLz78 eLz83 eLz88 eLz93 eLz98 eLz103 eLz108 eLz113 eLz118 eLz123 eLz128 eLz133 eLz138 eLz143 eLz148 eLz153 eLz158 eLz163 eLz168 eLz173 eLz178 eLz183 eLz188 eLz193 eLz200 eLz205 eLz212 eLz217 eLz222 eLz227 eLz232 eLz237 eLz242 eLz247 eLz252 eLz257 eLz262 eLz267 eLz272
  obtain ⟨Az, eAz⟩ : ∃ f : Nat → Nat, f = fun k => match k with | 0 => q1 | 1 => q6 | 2 => q11 | 3 => q16 | 4 => q21 | 5 => q26 | 6 => q31 | 7 => q36 | 8 => q41 | 9 => q46 | 10 => q51 | 11 => q56 | 12 => q61 | 13 => q66 | 14 => q71 | 15 => q76 | 16 => q81 | 17 => q86 | 18 => q91 | 19 => q96 | 20 => q101 | 21 => q106 | 22 => q111 | 23 => q116 | 24 => q121 | 25 => q126 | 26 => q131 | 27 => q136 | 28 => q141 | 29 => q146 | 30 => q151 | 31 => q156 | 32 => q161 | 33 => q166 | 34 => q171 | 35 => q176 | 36 => q181 | 37 => q186 | 40 => q191 | 45 => q198 | 46 => q203 | 47 => q191 | 59 => q210 | 60 => q215 | 61 => q220 | 62 => q225 | 64 => q230 | 65 => q235 | 67 => q240 | 70 => q245 | 71 => q250 | 72 => q255 | 73 => q260 | 74 => q265 | 75 => q270 | _ => 0 := ⟨_, rfl⟩
  have hat : ∀ k, mdR k = true → (([q270, q265, q260, q255, q250, q245, q240, q235, q230, q225, q220, q215, q210, q203, q198, q191, q186, q181, q176, q171, q166, q161, q156, q151, q146, q141, q136, q131, q126, q121, q116, q111, q106, q101, q96, q91, q86, q81, q76, q71, q66, q61, q56, q51, q46, q41, q36, q31, q26, q21, q16, q11, q6, q1] : List Nat))[mdP k]? = some (Az k) := by
    intro k hk
    have hlt := mdR_lt hk
    subst eAz
    match k, hk, hlt with
    | 0, hk, _ => rfl
    | 1, hk, _ => rfl
    | 2, hk, _ => rfl
    | 3, hk, _ => rfl
    | 4, hk, _ => rfl
    | 5, hk, _ => rfl
    | 6, hk, _ => rfl
    | 7, hk, _ => rfl
    | 8, hk, _ => rfl
    | 9, hk, _ => rfl
    | 10, hk, _ => rfl
    | 11, hk, _ => rfl
    | 12, hk, _ => rfl
    | 13, hk, _ => rfl
    | 14, hk, _ => rfl
    | 15, hk, _ => rfl
    | 16, hk, _ => rfl
    | 17, hk, _ => rfl
    | 18, hk, _ => rfl
    | 19, hk, _ => rfl
    | 20, hk, _ => rfl
    | 21, hk, _ => rfl
    | 22, hk, _ => rfl
    | 23, hk, _ => rfl
    | 24, hk, _ => rfl
    | 25, hk, _ => rfl
    | 26, hk, _ => rfl
    | 27, hk, _ => rfl
    | 28, hk, _ => rfl
    | 29, hk, _ => rfl
    | 30, hk, _ => rfl
    | 31, hk, _ => rfl
    | 32, hk, _ => rfl
    | 33, hk, _ => rfl
    | 34, hk, _ => rfl
    | 35, hk, _ => rfl
    | 36, hk, _ => rfl
    | 37, hk, _ => rfl
    | 38, hk, _ => exact absurd hk (by decide)
    | 39, hk, _ => exact absurd hk (by decide)
    | 40, hk, _ => rfl
    | 41, hk, _ => exact absurd hk (by decide)
    | 42, hk, _ => exact absurd hk (by decide)
    | 43, hk, _ => exact absurd hk (by decide)
    | 44, hk, _ => exact absurd hk (by decide)
    | 45, hk, _ => rfl
    | 46, hk, _ => rfl
    | 47, hk, _ => exact absurd hk (by decide)
    | 48, hk, _ => exact absurd hk (by decide)
    | 49, hk, _ => exact absurd hk (by decide)
    | 50, hk, _ => exact absurd hk (by decide)
    | 51, hk, _ => exact absurd hk (by decide)
    | 52, hk, _ => exact absurd hk (by decide)
    | 53, hk, _ => exact absurd hk (by decide)
    | 54, hk, _ => exact absurd hk (by decide)
    | 55, hk, _ => exact absurd hk (by decide)
    | 56, hk, _ => exact absurd hk (by decide)
    | 57, hk, _ => exact absurd hk (by decide)
    | 58, hk, _ => exact absurd hk (by decide)
    | 59, hk, _ => rfl
    | 60, hk, _ => rfl
    | 61, hk, _ => rfl
    | 62, hk, _ => rfl
    | 63, hk, _ => exact absurd hk (by decide)
    | 64, hk, _ => rfl
    | 65, hk, _ => rfl
    | 66, hk, _ => exact absurd hk (by decide)
    | 67, hk, _ => rfl
    | 68, hk, _ => exact absurd hk (by decide)
    | 69, hk, _ => exact absurd hk (by decide)
    | 70, hk, _ => rfl
    | 71, hk, _ => rfl
    | 72, hk, _ => rfl
    | 73, hk, _ => rfl
    | 74, hk, _ => rfl
    | 75, hk, _ => rfl
    | k + 76, _, hlt => exact absurd hlt (by omega)
  have hpt : ∀ (i : Nat) (x : Nat × (ClassId × vp_A)), _ → G274 x.1 = some (.inl x.2) := fun i x hx => hgl.1 x (List.mem_of_getElem? (i := i) hx)
  have hMD : MD cy G274 o Az mI0 (fun _ _ => 0) (fun _ _ => 0) := by
    refine ⟨?_, ?_, ?_, ?_, ?_⟩
    · rw [ko, efs273]; subst eAz; rfl
    · intro k hk
      have hlt := mdR_lt (mdR_I hk)
      subst eAz
      match k, hk, hlt with
      | 0, hk, _ => exact hpt 53 _ rfl
      | 1, hk, _ => exact hpt 52 _ rfl
      | 2, hk, _ => exact hpt 51 _ rfl
      | 3, hk, _ => exact hpt 50 _ rfl
      | 4, hk, _ => exact hpt 49 _ rfl
      | 5, hk, _ => exact hpt 48 _ rfl
      | 6, hk, _ => exact hpt 47 _ rfl
      | 7, hk, _ => exact hpt 46 _ rfl
      | 8, hk, _ => exact hpt 45 _ rfl
      | 9, hk, _ => exact hpt 44 _ rfl
      | 10, hk, _ => exact hpt 43 _ rfl
      | 11, hk, _ => exact hpt 42 _ rfl
      | 12, hk, _ => exact hpt 41 _ rfl
      | 13, hk, _ => exact hpt 40 _ rfl
      | 14, hk, _ => exact hpt 39 _ rfl
      | 15, hk, _ => exact hpt 38 _ rfl
      | 16, hk, _ => exact hpt 37 _ rfl
      | 17, hk, _ => exact hpt 36 _ rfl
      | 18, hk, _ => exact hpt 35 _ rfl
      | 19, hk, _ => exact hpt 34 _ rfl
      | 20, hk, _ => exact hpt 33 _ rfl
      | 21, hk, _ => exact hpt 32 _ rfl
      | 22, hk, _ => exact hpt 31 _ rfl
      | 23, hk, _ => exact hpt 30 _ rfl
      | 24, hk, _ => exact hpt 29 _ rfl
      | 25, hk, _ => exact hpt 28 _ rfl
      | 26, hk, _ => exact hpt 27 _ rfl
      | 27, hk, _ => exact hpt 26 _ rfl
      | 28, hk, _ => exact hpt 25 _ rfl
      | 29, hk, _ => exact hpt 24 _ rfl
      | 30, hk, _ => exact hpt 23 _ rfl
      | 31, hk, _ => exact hpt 22 _ rfl
      | 32, hk, _ => exact hpt 21 _ rfl
      | 33, hk, _ => exact hpt 20 _ rfl
      | 34, hk, _ => exact hpt 19 _ rfl
      | 35, hk, _ => exact hpt 18 _ rfl
      | 36, hk, _ => exact hpt 17 _ rfl
      | 37, hk, _ => exact hpt 16 _ rfl
      | 38, hk, _ => exact absurd hk (by decide)
      | 39, hk, _ => exact absurd hk (by decide)
      | 40, hk, _ => exact hpt 15 _ rfl
      | 41, hk, _ => exact absurd hk (by decide)
      | 42, hk, _ => exact absurd hk (by decide)
      | 43, hk, _ => exact absurd hk (by decide)
      | 44, hk, _ => exact absurd hk (by decide)
      | 45, hk, _ => exact hpt 14 _ rfl
      | 46, hk, _ => exact hpt 13 _ rfl
      | 47, hk, _ => exact absurd hk (by decide)
      | 48, hk, _ => exact absurd hk (by decide)
      | 49, hk, _ => exact absurd hk (by decide)
      | 50, hk, _ => exact absurd hk (by decide)
      | 51, hk, _ => exact absurd hk (by decide)
      | 52, hk, _ => exact absurd hk (by decide)
      | 53, hk, _ => exact absurd hk (by decide)
      | 54, hk, _ => exact absurd hk (by decide)
      | 55, hk, _ => exact absurd hk (by decide)
      | 56, hk, _ => exact absurd hk (by decide)
      | 57, hk, _ => exact absurd hk (by decide)
      | 58, hk, _ => exact absurd hk (by decide)
      | 59, hk, _ => exact hpt 12 _ rfl
      | 60, hk, _ => exact hpt 11 _ rfl
      | 61, hk, _ => exact hpt 10 _ rfl
      | 62, hk, _ => exact hpt 9 _ rfl
      | 63, hk, _ => exact absurd hk (by decide)
      | 64, hk, _ => exact hpt 8 _ rfl
      | 65, hk, _ => exact hpt 7 _ rfl
      | 66, hk, _ => exact absurd hk (by decide)
      | 67, hk, _ => exact hpt 6 _ rfl
      | 68, hk, _ => exact absurd hk (by decide)
      | 69, hk, _ => exact absurd hk (by decide)
      | 70, hk, _ => exact absurd hk (by decide)
      | 71, hk, _ => exact absurd hk (by decide)
      | 72, hk, _ => exact hpt 3 _ rfl
      | 73, hk, _ => exact hpt 2 _ rfl
      | 74, hk, _ => exact absurd hk (by decide)
      | 75, hk, _ => exact absurd hk (by decide)
      | k + 76, _, hlt => exact absurd hlt (by omega)
    · intro k hk
      have hlt := mdR_lt (mdR_J hk)
      subst eAz
      match k, hk, hlt with
      | 0, hk, _ => exact absurd hk (by decide)
      | 1, hk, _ => exact absurd hk (by decide)
      | 2, hk, _ => exact absurd hk (by decide)
      | 3, hk, _ => exact absurd hk (by decide)
      | 4, hk, _ => exact absurd hk (by decide)
      | 5, hk, _ => exact absurd hk (by decide)
      | 6, hk, _ => exact absurd hk (by decide)
      | 7, hk, _ => exact absurd hk (by decide)
      | 8, hk, _ => exact absurd hk (by decide)
      | 9, hk, _ => exact absurd hk (by decide)
      | 10, hk, _ => exact absurd hk (by decide)
      | 11, hk, _ => exact absurd hk (by decide)
      | 12, hk, _ => exact absurd hk (by decide)
      | 13, hk, _ => exact absurd hk (by decide)
      | 14, hk, _ => exact absurd hk (by decide)
      | 15, hk, _ => exact absurd hk (by decide)
      | 16, hk, _ => exact absurd hk (by decide)
      | 17, hk, _ => exact absurd hk (by decide)
      | 18, hk, _ => exact absurd hk (by decide)
      | 19, hk, _ => exact absurd hk (by decide)
      | 20, hk, _ => exact absurd hk (by decide)
      | 21, hk, _ => exact absurd hk (by decide)
      | 22, hk, _ => exact absurd hk (by decide)
      | 23, hk, _ => exact absurd hk (by decide)
      | 24, hk, _ => exact absurd hk (by decide)
      | 25, hk, _ => exact absurd hk (by decide)
      | 26, hk, _ => exact absurd hk (by decide)
      | 27, hk, _ => exact absurd hk (by decide)
      | 28, hk, _ => exact absurd hk (by decide)
      | 29, hk, _ => exact absurd hk (by decide)
      | 30, hk, _ => exact absurd hk (by decide)
      | 31, hk, _ => exact absurd hk (by decide)
      | 32, hk, _ => exact absurd hk (by decide)
      | 33, hk, _ => exact absurd hk (by decide)
      | 34, hk, _ => exact absurd hk (by decide)
      | 35, hk, _ => exact absurd hk (by decide)
      | 36, hk, _ => exact absurd hk (by decide)
      | 37, hk, _ => exact absurd hk (by decide)
      | 38, hk, _ => exact absurd hk (by decide)
      | 39, hk, _ => exact absurd hk (by decide)
      | 40, hk, _ => exact absurd hk (by decide)
      | 41, hk, _ => exact absurd hk (by decide)
      | 42, hk, _ => exact absurd hk (by decide)
      | 43, hk, _ => exact absurd hk (by decide)
      | 44, hk, _ => exact absurd hk (by decide)
      | 45, hk, _ => exact absurd hk (by decide)
      | 46, hk, _ => exact absurd hk (by decide)
      | 47, hk, _ => exact absurd hk (by decide)
      | 48, hk, _ => exact absurd hk (by decide)
      | 49, hk, _ => exact absurd hk (by decide)
      | 50, hk, _ => exact absurd hk (by decide)
      | 51, hk, _ => exact absurd hk (by decide)
      | 52, hk, _ => exact absurd hk (by decide)
      | 53, hk, _ => exact absurd hk (by decide)
      | 54, hk, _ => exact absurd hk (by decide)
      | 55, hk, _ => exact absurd hk (by decide)
      | 56, hk, _ => exact absurd hk (by decide)
      | 57, hk, _ => exact absurd hk (by decide)
      | 58, hk, _ => exact absurd hk (by decide)
      | 59, hk, _ => exact absurd hk (by decide)
      | 60, hk, _ => exact absurd hk (by decide)
      | 61, hk, _ => exact absurd hk (by decide)
      | 62, hk, _ => exact absurd hk (by decide)
      | 63, hk, _ => exact absurd hk (by decide)
      | 64, hk, _ => exact absurd hk (by decide)
      | 65, hk, _ => exact absurd hk (by decide)
      | 66, hk, _ => exact absurd hk (by decide)
      | 67, hk, _ => exact absurd hk (by decide)
      | 68, hk, _ => exact absurd hk (by decide)
      | 69, hk, _ => exact absurd hk (by decide)
      | 70, hk, _ => exact hpt 5 _ rfl
      | 71, hk, _ => exact absurd hk (by decide)
      | 72, hk, _ => exact absurd hk (by decide)
      | 73, hk, _ => exact absurd hk (by decide)
      | 74, hk, _ => exact hpt 1 _ rfl
      | 75, hk, _ => exact hpt 0 _ rfl
      | k + 76, _, hlt => exact absurd hlt (by omega)
    · rw [eAz]; exact hpt 4 _ rfl
    · intro j k hj hk hjk
      exact mdP_inj j (mdR_lt hj) k (mdR_lt hk) hj hk (nd_inj hgl.2 _ _ (Az j) (hat j hj) (by rw [hjk]; exact hat k hk))
  have hz : ∀ k, mdR k = true → G (Az k) = none := by
    intro k hk
    have hlt := mdR_lt hk
    subst eAz
    match k, hk, hlt with
    | 0, hk, _ => exact fz_q1
    | 1, hk, _ => exact fz_q6
    | 2, hk, _ => exact fz_q11
    | 3, hk, _ => exact fz_q16
    | 4, hk, _ => exact fz_q21
    | 5, hk, _ => exact fz_q26
    | 6, hk, _ => exact fz_q31
    | 7, hk, _ => exact fz_q36
    | 8, hk, _ => exact fz_q41
    | 9, hk, _ => exact fz_q46
    | 10, hk, _ => exact fz_q51
    | 11, hk, _ => exact fz_q56
    | 12, hk, _ => exact fz_q61
    | 13, hk, _ => exact fz_q66
    | 14, hk, _ => exact fz_q71
    | 15, hk, _ => exact fz_q76
    | 16, hk, _ => exact fz_q81
    | 17, hk, _ => exact fz_q86
    | 18, hk, _ => exact fz_q91
    | 19, hk, _ => exact fz_q96
    | 20, hk, _ => exact fz_q101
    | 21, hk, _ => exact fz_q106
    | 22, hk, _ => exact fz_q111
    | 23, hk, _ => exact fz_q116
    | 24, hk, _ => exact fz_q121
    | 25, hk, _ => exact fz_q126
    | 26, hk, _ => exact fz_q131
    | 27, hk, _ => exact fz_q136
    | 28, hk, _ => exact fz_q141
    | 29, hk, _ => exact fz_q146
    | 30, hk, _ => exact fz_q151
    | 31, hk, _ => exact fz_q156
    | 32, hk, _ => exact fz_q161
    | 33, hk, _ => exact fz_q166
    | 34, hk, _ => exact fz_q171
    | 35, hk, _ => exact fz_q176
    | 36, hk, _ => exact fz_q181
    | 37, hk, _ => exact fz_q186
    | 38, hk, _ => exact absurd hk (by decide)
    | 39, hk, _ => exact absurd hk (by decide)
    | 40, hk, _ => exact fz_q191
    | 41, hk, _ => exact absurd hk (by decide)
    | 42, hk, _ => exact absurd hk (by decide)
    | 43, hk, _ => exact absurd hk (by decide)
    | 44, hk, _ => exact absurd hk (by decide)
    | 45, hk, _ => exact fz_q198
    | 46, hk, _ => exact fz_q203
    | 47, hk, _ => exact absurd hk (by decide)
    | 48, hk, _ => exact absurd hk (by decide)
    | 49, hk, _ => exact absurd hk (by decide)
    | 50, hk, _ => exact absurd hk (by decide)
    | 51, hk, _ => exact absurd hk (by decide)
    | 52, hk, _ => exact absurd hk (by decide)
    | 53, hk, _ => exact absurd hk (by decide)
    | 54, hk, _ => exact absurd hk (by decide)
    | 55, hk, _ => exact absurd hk (by decide)
    | 56, hk, _ => exact absurd hk (by decide)
    | 57, hk, _ => exact absurd hk (by decide)
    | 58, hk, _ => exact absurd hk (by decide)
    | 59, hk, _ => exact fz_q210
    | 60, hk, _ => exact fz_q215
    | 61, hk, _ => exact fz_q220
    | 62, hk, _ => exact fz_q225
    | 63, hk, _ => exact absurd hk (by decide)
    | 64, hk, _ => exact fz_q230
    | 65, hk, _ => exact fz_q235
    | 66, hk, _ => exact absurd hk (by decide)
    | 67, hk, _ => exact fz_q240
    | 68, hk, _ => exact absurd hk (by decide)
    | 69, hk, _ => exact absurd hk (by decide)
    | 70, hk, _ => exact fz_q245
    | 71, hk, _ => exact fz_q250
    | 72, hk, _ => exact fz_q255
    | 73, hk, _ => exact fz_q260
    | 74, hk, _ => exact fz_q265
    | 75, hk, _ => exact fz_q270
    | k + 76, _, hlt => exact absurd hlt (by omega)
  exact W.vret hx hb hr (fun t ht hW => ⟨⟨_, rfl, ⟨Az, hMD, (by subst eAz; rfl), hz, hfr⟩, mk_end hG ht⟩, hS.F ht⟩) hS.2.2 dX14_init_460
