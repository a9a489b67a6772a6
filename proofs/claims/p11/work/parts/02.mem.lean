/-! ===== MEMORY: what stands at each address of ours (none where nothing of ours stands). All cells that the law's run makes are of one memory; a contract says which memory comes of which. Nothing here knows the claim. ===== -/
def mm_of (L : List Nat) (f : Nat → va_E) : Nat → Option va_E := fun a => if a ∈ L then some (f a) else none
def mm_set (G : Nat → Option va_E) (a : Nat) (e : va_E) : Nat → Option va_E := fun x => if x = a then some e else G x
def mm (D : va_G) (cl : List vw_C) (A : Nat → Prop) (G : Nat → Option va_E) (H : Heap) : Prop := ∃ (L : List Nat) (f : Nat → va_E), G = mm_of L f ∧ va_P D cl (va_pl L f) H ∧ va_D A (va_pl L f)
theorem mm_set_self {G : Nat → Option va_E} {a : Nat} {e : va_E} : mm_set G a e a = some e := by simp [mm_set]
theorem mm_set_ne {G : Nat → Option va_E} {a x : Nat} {e : va_E} (h : x ≠ a) : mm_set G a e x = G x := by simp [mm_set, h]
theorem mm_set_of {G : Nat → Option va_E} {a x : Nat} {e e' : va_E} (h : G x = some e') (hn : x ≠ a) : mm_set G a e x = some e' := by rw [mm_set_ne hn]; exact h
theorem mm_set_new {G : Nat → Option va_E} {a x : Nat} {e e' : va_E} (h : G x = some e') (hn : G a = none) : mm_set G a e x = some e' := by
  refine mm_set_of h (fun z => ?_)
  subst z
  rw [hn] at h
  cases h
theorem mm_of_some {L : List Nat} {f : Nat → va_E} {a : Nat} {e : va_E} (h : mm_of L f a = some e) : a ∈ L ∧ f a = e := by
  unfold mm_of at h
  by_cases ha : a ∈ L
  · rw [if_pos ha] at h
    exact ⟨ha, Option.some.inj h⟩
  · rw [if_neg ha] at h
    cases h
theorem mm_of_up {L : List Nat} {f : Nat → va_E} {a : Nat} {e : va_E} (h : a ∈ L) : mm_set (mm_of L f) a e = mm_of L (va_up f a e) := by
  funext x
  by_cases hx : x = a
  · subst hx
    simp [mm_set, mm_of, h, va_up]
  · simp [mm_set, mm_of, va_up, hx]
theorem mm_of_push {L : List Nat} {f : Nat → va_E} {a : Nat} {e : va_E} : mm_set (mm_of L f) a e = mm_of (L ++ [a]) (va_up f a e) := by
  funext x
  by_cases hx : x = a
  · subst hx
    simp [mm_set, mm_of, va_up]
  · simp [mm_set, mm_of, va_up, hx]
section MMB
variable {D : va_G} {cl : List vw_C} {A : Nat → Prop} {G : Nat → Option va_E} {H : Heap} {a : Nat} {e : va_E}
theorem mm.one (h : mm D cl A G H) (ha : G a = some e) : va_P D cl [(a, e)] H := by
  obtain ⟨L, f, rfl, hP, hD⟩ := h
  obtain ⟨hL, rfl⟩ := mm_of_some ha
  obtain ⟨k, hk⟩ := va_pl_get (X := []) (f := f) hL
  intro j q hj
  have hz : j < 1 := (List.getElem?_eq_some_iff.mp hj).1
  rw [show j = 0 by omega] at hj
  cases hj
  exact hP k _ hk
theorem mm.two (h : mm D cl A G H) {a2 : Nat} {e2 : va_E} (ha : G a = some e) (ha2 : G a2 = some e2) : va_P D cl [(a, e), (a2, e2)] H := (h.one ha).app (h.one ha2)
theorem mm.inA (h : mm D cl A G H) (ha : G a = some e) : A a := by
  obtain ⟨L, f, rfl, hP, hD⟩ := h
  obtain ⟨hL, rfl⟩ := mm_of_some ha
  obtain ⟨k, hk⟩ := va_pl_get (X := []) (f := f) hL
  exact hD.2 k _ hk
theorem mm.lt (h : mm D cl A G H) (ha : G a = some e) : a < H.size := (h.one ha 0 _ rfl).lt
theorem mm.empty : mm D cl A (fun _ => none) H := ⟨[], fun _ => .inr (0, []), by funext x; simp [mm_of], fun k q h => by simp [va_pl] at h, ⟨fun i j p q h => by simp [va_pl] at h, fun k q h => by simp [va_pl] at h⟩⟩
theorem mm_RA {U : State} {c1 c2 : ClassId} {ty : FieldType} (h1 : va_RA U c1 ty) (h2 : va_RA U c2 ty) : c1 = c2 := by
  cases ty with
  | object C =>
    obtain ⟨_, _, -, -, -, q1⟩ := h1
    obtain ⟨_, _, -, -, -, q2⟩ := h2
    exact Option.some.inj (q1.symm.trans q2)
  | _ => exact Option.some.inj (Eq.trans (Eq.symm h1) h2)
end MMB
/-- what a method is given: its arguments, the memory, the tables, the room's upper side, and what stands still (X) -/
def mk_Pre (D : va_G) (cl : List vw_C) (tys : List (ClassId × FieldType)) (A : Nat → Prop) (X : State → Prop) (G : Nat → Option va_E) (av : List Value) : Array Value → State → Prop := va_Pc av (fun U => mm D cl A G U.heap ∧ va_K D cl tys U ∧ (∀ q : Nat, U.heap.size ≤ q → A q) ∧ X U)
/-- X stands still: it speaks of the tables and of cells that are not ours -/
def mk_St (A : Nat → Prop) (X : State → Prop) : Prop := ∀ s U : State, s.WarmedH U.vm → (∀ q : Nat, q < s.heap.size → ¬ A q → U.heap[q]? = s.heap[q]?) → X s → X U
/-- the memory behind a method -/
abbrev mk_B (D : va_G) (cl : List vw_C) (A : Nat → Prop) : (Nat → Option va_E) → State → Prop := fun G t => mm D cl A G t.heap
theorem mk_blind {D : va_G} {cl : List vw_C} {tys : List (ClassId × FieldType)} {A : Nat → Prop} {X : State → Prop} {G : Nat → Option va_E} {av : List Value} (hst : mk_St A X) : FrameBlind (mk_Pre D cl tys A X G av) := by
  intro a U g mk q
  obtain ⟨q0, q1, q2, q3, q4⟩ := q
  exact ⟨q0, q1, va_K.moved (u := U) (U := U.calling g mk a) (Vm.Alike.refl U.vm) q2, q3, hst U (U.calling g mk a) (State.WarmedH.refl U) (fun _ _ _ => rfl) q4⟩
section MMC
variable {D : va_G} {cl : List vw_C} {tys : List (ClassId × FieldType)} {A : Nat → Prop} {X : State → Prop} {G : Nat → Option va_E} {H : Heap} {s : State} {locs : List Loc}
theorem mk_at {As : List Value} (hst : mk_St A X) (hG : mm D cl A G H) (hK : va_K D cl tys s) (hA : ∀ q : Nat, s.heap.size ≤ q → A q) (hX : X s) (hS : va_S A s.heap H locs) : ∀ U : State, U.heap = H → s.WarmedH U.vm → mk_Pre D cl tys A X G As As.toArray U := by
  intro U hU hW
  exact ⟨rfl, by rw [hU]; exact hG, va_K.moved hW.alike hK, fun q h => hA q (Nat.le_trans hS.1 (by rw [← hU]; exact h)), hst s U hW (fun q h1 h2 => by rw [hU]; exact hS.2.1 q h1 h2) hX⟩
/-- a static method's, a constructor's start -/
theorem mk_preS {As : List Value} (hst : mk_St A X) (hG : mm D cl A G H) (hK : va_K D cl tys s) (hA : ∀ q : Nat, s.heap.size ≤ q → A q) (hX : X s) (hS : va_S A s.heap H locs) : PreS s H (mk_Pre D cl tys A X G As) As := ⟨mk_blind hst, mk_at hst hG hK hA hX hS⟩
/-- a method's start -/
theorem mk_preV {As : List Value} {b ci : Nat} {r : vw_C} {fs : List Value} (hst : mk_St A X) (hG : mm D cl A G H) (hK : va_K D cl tys s) (hA : ∀ q : Nat, s.heap.size ≤ q → A q) (hX : X s) (hS : va_S A s.heap H locs) (hc : cl[ci]? = some r) (hb : G b = some (.inr (ci, fs))) : PreV s H r.1 b (mk_Pre D cl tys A X G (.ref b :: As)) As :=
  ⟨mk_blind hst, va_recv hK (hG.one hb) hc (q0 := 0) rfl, mk_at hst hG hK hA hX hS⟩
end MMC
section MMW
variable {p : Program} {l : Launch} {e : Env} {R : Room} {s : State} {m : MethodId} {args : Array Value} {below : List Frame} {meth : Method} {c : Code} {H : Heap} {locs : List Loc} {cells slots : Nat} {Q : State → Prop}
variable {cc : ByteArray} {pc : Nat} {ls : Array Slot} {rest : List Value} {D : va_G} {cl : List vw_C} {A : Nat → Prop} {a : Nat} {tys : List (ClassId × FieldType)} {G : Nat → Option va_E} {H0 : Heap}
theorem mm_get (hexec : p.tables.exec = Jvm.exec) (hb : c.code = cc) {own ref C : String} {T : u_T} {N ci index : Nat} {Ts : List Cond} (hts : ∀ w ∈ Ts, w.before args s = true) (hin : ∀ w ∈ u_ws C T N, w ∈ Ts) (hown : s.vm.findClass own = some m.cls) (hK : va_K D cl tys s) (hG : mm D cl A G H) {fs : List Value} (ha : G a = some (.inr (ci, fs))) (hc : cl[ci]? = some (C, T, N)) (k : Nat) (hk : k < N) (hlink : (Cond.fieldLink own index ref (T k).2.1 (T k).2.2.1).before args s = true) (hsame : ∀ x, s.fieldFound? (T k).1 (T k).2.1 (T k).2.2.1 = some x → s.fieldFound? ref (T k).2.1 (T k).2.2.1 = some x) {v : Value} (hv : fs[k]? = some v) (hdg : decode cc pc = .ok (.getfield index, 3))
    (kk : W p l e R s m args below meth c H locs cells slots Q (F0 m (pc + 3) ls (v :: rest))) : W p l e R s m args below meth c H locs cells slots Q (F0 m pc ls (.ref a :: rest)) :=
  va_get hexec hb hts hin hown hK (hG.one ha) 0 rfl hc k hk hlink hsame hv hdg kk
theorem mm_getN (hexec : p.tables.exec = Jvm.exec) (hb : c.code = cc) {own ref C host : String} {T : u_T} {N ci index : Nat} {Ts : List Cond} (hts : ∀ w ∈ Ts, w.before args s = true) (hin : ∀ w ∈ u_ws C T N, w ∈ Ts) (hown : s.vm.findClass own = some m.cls) (hK : va_K D cl tys s) (hG : mm D cl A G H) {fs : List Value} (ha : G a = some (.inr (ci, fs))) (hc : cl[ci]? = some (C, T, N)) (k : Nat) (hk : k < N) (hlink : (Cond.fieldLinkNest own index ref (T k).2.1 (T k).2.2.1 host).before args s = true) (hsame : ∀ x, s.fieldFound? (T k).1 (T k).2.1 (T k).2.2.1 = some x → s.fieldFound? ref (T k).2.1 (T k).2.2.1 = some x) {v : Value} (hv : fs[k]? = some v) (hdg : decode cc pc = .ok (.getfield index, 3))
    (kk : W p l e R s m args below meth c H locs cells slots Q (F0 m (pc + 3) ls (v :: rest))) : W p l e R s m args below meth c H locs cells slots Q (F0 m pc ls (.ref a :: rest)) :=
  va_getN hexec hb hts hin hown hK (hG.one ha) 0 rfl hc k hk hlink hsame hv hdg kk
/-- one cell written: the memory behind it -/
theorem mm_wrote {L : List Nat} {f : Nat → va_E} {k : Nat} {e' : va_E} {H1 : Heap} (hD : va_D A (va_pl L f)) (hL : a ∈ L) (hk : (va_pl L f)[k]? = some (a, f a)) (hP1 : va_P D cl ((va_pl L f).set k (a, e')) H1) (hD1 : va_D A ((va_pl L f).set k (a, e'))) : mm D cl A (mm_set (mm_of L f) a e') H1 := by
  have h := va_pl_set (X := []) (f := f) (e := e') hD hL hk
  have h' : (va_pl L f).set k (a, e') = va_pl L (va_up f a e') := h
  rw [h'] at hP1 hD1
  exact ⟨L, va_up f a e', mm_of_up hL, hP1, hD1⟩
theorem mm_put (hexec : p.tables.exec = Jvm.exec) (hb : c.code = cc) {own ref C : String} {T : u_T} {N ci index : Nat} {Ts : List Cond} (hts : ∀ w ∈ Ts, w.before args s = true) (hin : ∀ w ∈ u_ws C T N, w ∈ Ts) (ty0 : Nat → FieldType) (hty : ∀ k, k < N → parseFieldDescriptor (T k).2.2.1 = some (ty0 k)) (hnm : ∀ a, a < N → ∀ b, b < N → a ≠ b → (T a).2.1 ≠ (T b).2.1) (hown : s.vm.findClass own = some m.cls) (hK : va_K D cl tys s) (hG : mm D cl A G H) (hS0 : va_S A H0 H locs) {fs : List Value} (ha : G a = some (.inr (ci, fs))) (hc : cl[ci]? = some (C, T, N)) (k : Nat) (hk : k < N) (hlink : (Cond.fieldLink own index ref (T k).2.1 (T k).2.2.1).before args s = true) (hsame : ∀ x, s.fieldFound? (T k).1 (T k).2.1 (T k).2.2.1 = some x → s.fieldFound? ref (T k).2.1 (T k).2.2.1 = some x) (hfin : (T k).2.2.2 = false) {ty : FieldType} {v : Value} (hd : parseFieldDescriptor (T k).2.2.1 = some ty) (hn : narrow ty v = v) (hfit : fits ty v = true) (hl : k < fs.length)
    (hdg : decode cc pc = .ok (.putfield index, 3)) (kk : ∀ (H1 : Heap) (locs1 : List Loc), mm D cl A (mm_set G a (.inr (ci, fs.set k v))) H1 → va_S A H0 H1 locs1 → W p l e R s m args below meth c H1 locs1 cells slots Q (F0 m (pc + 3) ls rest)) : W p l e R s m args below meth c H locs cells slots Q (F0 m pc ls (v :: .ref a :: rest)) := by
  obtain ⟨L, f, rfl, hP, hD⟩ := hG
  obtain ⟨hL, hf⟩ := mm_of_some ha
  obtain ⟨q, hq⟩ := va_pl_get (X := []) (f := f) hL
  have hq' : (va_pl L f)[q]? = some (a, .inr (ci, fs)) := by rw [← hf]; exact hq
  exact va_put hexec hb hts hin ty0 hty hnm hown hK hP hD hS0 q hq' hc k hk hlink hsame hfin hd hn hfit hl hdg (fun H1 locs1 hP1 hD1 hS1 => kk H1 locs1 (mm_wrote hD hL hq hP1 hD1) hS1)
theorem mm_putN (hexec : p.tables.exec = Jvm.exec) (hb : c.code = cc) {own ref C host : String} {T : u_T} {N ci index : Nat} {Ts : List Cond} (hts : ∀ w ∈ Ts, w.before args s = true) (hin : ∀ w ∈ u_ws C T N, w ∈ Ts) (ty0 : Nat → FieldType) (hty : ∀ k, k < N → parseFieldDescriptor (T k).2.2.1 = some (ty0 k)) (hnm : ∀ a, a < N → ∀ b, b < N → a ≠ b → (T a).2.1 ≠ (T b).2.1) (hown : s.vm.findClass own = some m.cls) (hK : va_K D cl tys s) (hG : mm D cl A G H) (hS0 : va_S A H0 H locs) {fs : List Value} (ha : G a = some (.inr (ci, fs))) (hc : cl[ci]? = some (C, T, N)) (k : Nat) (hk : k < N) (hlink : (Cond.fieldLinkNest own index ref (T k).2.1 (T k).2.2.1 host).before args s = true) (hsame : ∀ x, s.fieldFound? (T k).1 (T k).2.1 (T k).2.2.1 = some x → s.fieldFound? ref (T k).2.1 (T k).2.2.1 = some x) (hfin : (T k).2.2.2 = false) {ty : FieldType} {v : Value} (hd : parseFieldDescriptor (T k).2.2.1 = some ty) (hn : narrow ty v = v) (hfit : fits ty v = true) (hl : k < fs.length)
    (hdg : decode cc pc = .ok (.putfield index, 3)) (kk : ∀ (H1 : Heap) (locs1 : List Loc), mm D cl A (mm_set G a (.inr (ci, fs.set k v))) H1 → va_S A H0 H1 locs1 → W p l e R s m args below meth c H1 locs1 cells slots Q (F0 m (pc + 3) ls rest)) : W p l e R s m args below meth c H locs cells slots Q (F0 m pc ls (v :: .ref a :: rest)) := by
  obtain ⟨L, f, rfl, hP, hD⟩ := hG
  obtain ⟨hL, hf⟩ := mm_of_some ha
  obtain ⟨q, hq⟩ := va_pl_get (X := []) (f := f) hL
  have hq' : (va_pl L f)[q]? = some (a, .inr (ci, fs)) := by rw [← hf]; exact hq
  exact va_putN hexec hb hts hin ty0 hty hnm hown hK hP hD hS0 q hq' hc k hk hlink hsame hfin hd hn hfit hl hdg (fun H1 locs1 hP1 hD1 hS1 => kk H1 locs1 (mm_wrote hD hL hq hP1 hD1) hS1)
theorem mm_putF (hexec : p.tables.exec = Jvm.exec) (hb : c.code = cc) {own ref C : String} {T : u_T} {N ci index : Nat} {Ts : List Cond} (hts : ∀ w ∈ Ts, w.before args s = true) (hin : ∀ w ∈ u_ws C T N, w ∈ Ts) (ty0 : Nat → FieldType) (hty : ∀ k, k < N → parseFieldDescriptor (T k).2.2.1 = some (ty0 k)) (hnm : ∀ a, a < N → ∀ b, b < N → a ≠ b → (T a).2.1 ≠ (T b).2.1) (hown : s.vm.findClass own = some m.cls) (hK : va_K D cl tys s) (hG : mm D cl A G H) (hS0 : va_S A H0 H locs) {fs : List Value} (ha : G a = some (.inr (ci, fs))) (hc : cl[ci]? = some (C, T, N)) (k : Nat) (hk : k < N) (hlink : (Cond.fieldLink own index ref (T k).2.1 (T k).2.2.1).before args s = true) (hsame : ∀ x, s.fieldFound? (T k).1 (T k).2.1 (T k).2.2.1 = some x → s.fieldFound? ref (T k).2.1 (T k).2.2.1 = some x) (hfin : (T k).2.2.2 = true) (hin2 : meth.name = "<init>") (hdecl : (T k).1 = own) {ty : FieldType} {v : Value} (hd : parseFieldDescriptor (T k).2.2.1 = some ty) (hn : narrow ty v = v) (hfit : fits ty v = true) (hl : k < fs.length)
    (hdg : decode cc pc = .ok (.putfield index, 3)) (kk : ∀ (H1 : Heap) (locs1 : List Loc), mm D cl A (mm_set G a (.inr (ci, fs.set k v))) H1 → va_S A H0 H1 locs1 → W p l e R s m args below meth c H1 locs1 cells slots Q (F0 m (pc + 3) ls rest)) : W p l e R s m args below meth c H locs cells slots Q (F0 m pc ls (v :: .ref a :: rest)) := by
  obtain ⟨L, f, rfl, hP, hD⟩ := hG
  obtain ⟨hL, hf⟩ := mm_of_some ha
  obtain ⟨q, hq⟩ := va_pl_get (X := []) (f := f) hL
  have hq' : (va_pl L f)[q]? = some (a, .inr (ci, fs)) := by rw [← hf]; exact hq
  exact va_putF hexec hb hts hin ty0 hty hnm hown hK hP hD hS0 q hq' hc k hk hlink hsame hfin hin2 hdecl hd hn hfit hl hdg (fun H1 locs1 hP1 hD1 hS1 => kk H1 locs1 (mm_wrote hD hL hq hP1 hD1) hS1)
theorem mm_iald (hexec : p.tables.exec = Jvm.exec) (hb : c.code = cc) (hK : va_K D cl tys s) (hG : mm D cl A G H) (t0 : Nat) {cA : ClassId} {n : Nat} {f : Nat → Int32} (ha : G a = some (.inl (cA, n, .inl f))) (ht : tys[t0]? = some (cA, .int)) {i : Int32} (hin : vp_in i n) (hdg : decode cc pc = .ok (.iaload, 1))
    (kk : W p l e R s m args below meth c H locs cells slots Q (F0 m (pc + 1) ls (.int (f i.toNatClampNeg) :: rest))) : W p l e R s m args below meth c H locs cells slots Q (F0 m pc ls (.int i :: .ref a :: rest)) :=
  va_iald hexec hb hK (hG.one ha) 0 t0 rfl ht hin hdg kk
theorem mm_bald (hexec : p.tables.exec = Jvm.exec) (hb : c.code = cc) (hK : va_K D cl tys s) (hG : mm D cl A G H) (t0 : Nat) {cA : ClassId} {n : Nat} {f : Nat → Int32} (ha : G a = some (.inl (cA, n, .inl f))) (ht : tys[t0]? = some (cA, .byte)) {i : Int32} (hin : vp_in i n) (hdg : decode cc pc = .ok (.baload, 1))
    (kk : W p l e R s m args below meth c H locs cells slots Q (F0 m (pc + 1) ls (.int (f i.toNatClampNeg) :: rest))) : W p l e R s m args below meth c H locs cells slots Q (F0 m pc ls (.int i :: .ref a :: rest)) :=
  va_bald hexec hb hK (hG.one ha) 0 t0 rfl ht hin hdg kk
theorem mm_zald (hexec : p.tables.exec = Jvm.exec) (hb : c.code = cc) (hK : va_K D cl tys s) (hG : mm D cl A G H) (t0 : Nat) {cA : ClassId} {n : Nat} {f : Nat → Int32} (ha : G a = some (.inl (cA, n, .inl f))) (ht : tys[t0]? = some (cA, .boolean)) {i : Int32} (hin : vp_in i n) (hdg : decode cc pc = .ok (.baload, 1))
    (kk : W p l e R s m args below meth c H locs cells slots Q (F0 m (pc + 1) ls (.int (f i.toNatClampNeg) :: rest))) : W p l e R s m args below meth c H locs cells slots Q (F0 m pc ls (.int i :: .ref a :: rest)) :=
  va_zald hexec hb hK (hG.one ha) 0 t0 rfl ht hin hdg kk
theorem mm_lald (hexec : p.tables.exec = Jvm.exec) (hb : c.code = cc) (hK : va_K D cl tys s) (hG : mm D cl A G H) (t0 : Nat) {cA : ClassId} {n : Nat} {f : Nat → Int64} (ha : G a = some (.inl (cA, n, .inr (.inl f)))) (ht : tys[t0]? = some (cA, .long)) {i : Int32} (hin : vp_in i n) (hdg : decode cc pc = .ok (.laload, 1))
    (kk : W p l e R s m args below meth c H locs cells slots Q (F0 m (pc + 1) ls (.long (f i.toNatClampNeg) :: rest))) : W p l e R s m args below meth c H locs cells slots Q (F0 m pc ls (.int i :: .ref a :: rest)) :=
  va_lald hexec hb hK (hG.one ha) 0 t0 rfl ht hin hdg kk
theorem mm_aald (hexec : p.tables.exec = Jvm.exec) (hb : c.code = cc) (hK : va_K D cl tys s) (hG : mm D cl A G H) (t0 : Nat) {cA : ClassId} {C : String} {n : Nat} {f : Nat → Option Nat} (ha : G a = some (.inl (cA, n, .inr (.inr (.inr (.inr f)))))) (ht : tys[t0]? = some (cA, .object C)) {i : Int32} (hin : vp_in i n) (hdg : decode cc pc = .ok (.aaload, 1))
    (kk : W p l e R s m args below meth c H locs cells slots Q (F0 m (pc + 1) ls (va_rf (f i.toNatClampNeg) :: rest))) : W p l e R s m args below meth c H locs cells slots Q (F0 m pc ls (.int i :: .ref a :: rest)) :=
  va_aldq hexec hb hK (hG.one ha) 0 t0 rfl ht hin hdg kk
theorem mm_alen (hexec : p.tables.exec = Jvm.exec) (hb : c.code = cc) (hK : va_K D cl tys s) (hG : mm D cl A G H) (t0 : Nat) {cA : ClassId} {x : vp_A} (ha : G a = some (.inl (cA, x))) {ty : FieldType} (ht : tys[t0]? = some (cA, ty)) {v : Int32} (hv : Int32.ofNat x.1 = v) (hdg : decode cc pc = .ok (.arraylength, 1))
    (kk : W p l e R s m args below meth c H locs cells slots Q (F0 m (pc + 1) ls (.int v :: rest))) : W p l e R s m args below meth c H locs cells slots Q (F0 m pc ls (.ref a :: rest)) :=
  va_alen hexec hb hK (hG.one ha) 0 t0 rfl ht hv hdg kk
theorem mm_iast (hexec : p.tables.exec = Jvm.exec) (hb : c.code = cc) (hK : va_K D cl tys s) (hG : mm D cl A G H) (hS : va_S A H0 H locs) (t0 : Nat) {cA : ClassId} {n : Nat} {f : Nat → Int32} (ha : G a = some (.inl (cA, n, .inl f))) (ht : tys[t0]? = some (cA, .int)) {i : Int32} {x : Int32} (hin : vp_in i n) (hdg : decode cc pc = .ok (.iastore, 1))
    (kk : ∀ (H1 : Heap) (locs1 : List Loc), mm D cl A (mm_set G a (.inl (cA, n, .inl (upd f i.toNatClampNeg x)))) H1 → va_S A H0 H1 locs1 → W p l e R s m args below meth c H1 locs1 cells slots Q (F0 m (pc + 1) ls rest)) : W p l e R s m args below meth c H locs cells slots Q (F0 m pc ls (.int x :: .int i :: .ref a :: rest)) := by
  obtain ⟨L, g, rfl, hP, hD⟩ := hG
  obtain ⟨hL, hf⟩ := mm_of_some ha
  obtain ⟨q, hq⟩ := va_pl_get (X := []) (f := g) hL
  exact va_iast hexec hb hK hP hD hS q t0 (by rw [← hf]; exact hq) ht hin hdg (fun H1 locs1 hP1 hD1 hS1 => kk H1 locs1 (mm_wrote hD hL hq hP1 hD1) hS1)
theorem mm_bast (hexec : p.tables.exec = Jvm.exec) (hb : c.code = cc) (hK : va_K D cl tys s) (hG : mm D cl A G H) (hS : va_S A H0 H locs) (t0 : Nat) {cA : ClassId} {n : Nat} {f : Nat → Int32} (ha : G a = some (.inl (cA, n, .inl f))) (ht : tys[t0]? = some (cA, .byte)) {i : Int32} {x : Int32} (hin : vp_in i n) (hdg : decode cc pc = .ok (.bastore, 1))
    (kk : ∀ (H1 : Heap) (locs1 : List Loc), mm D cl A (mm_set G a (.inl (cA, n, .inl (upd f i.toNatClampNeg (vp_nar .byte x))))) H1 → va_S A H0 H1 locs1 → W p l e R s m args below meth c H1 locs1 cells slots Q (F0 m (pc + 1) ls rest)) : W p l e R s m args below meth c H locs cells slots Q (F0 m pc ls (.int x :: .int i :: .ref a :: rest)) := by
  obtain ⟨L, g, rfl, hP, hD⟩ := hG
  obtain ⟨hL, hf⟩ := mm_of_some ha
  obtain ⟨q, hq⟩ := va_pl_get (X := []) (f := g) hL
  exact va_bast hexec hb hK hP hD hS q t0 (by rw [← hf]; exact hq) ht hin hdg (fun H1 locs1 hP1 hD1 hS1 => kk H1 locs1 (mm_wrote hD hL hq hP1 hD1) hS1)
theorem mm_zast (hexec : p.tables.exec = Jvm.exec) (hb : c.code = cc) (hK : va_K D cl tys s) (hG : mm D cl A G H) (hS : va_S A H0 H locs) (t0 : Nat) {cA : ClassId} {n : Nat} {f : Nat → Int32} (ha : G a = some (.inl (cA, n, .inl f))) (ht : tys[t0]? = some (cA, .boolean)) {i : Int32} {x : Int32} (hin : vp_in i n) (hdg : decode cc pc = .ok (.bastore, 1))
    (kk : ∀ (H1 : Heap) (locs1 : List Loc), mm D cl A (mm_set G a (.inl (cA, n, .inl (upd f i.toNatClampNeg (vp_nar .boolean x))))) H1 → va_S A H0 H1 locs1 → W p l e R s m args below meth c H1 locs1 cells slots Q (F0 m (pc + 1) ls rest)) : W p l e R s m args below meth c H locs cells slots Q (F0 m pc ls (.int x :: .int i :: .ref a :: rest)) := by
  obtain ⟨L, g, rfl, hP, hD⟩ := hG
  obtain ⟨hL, hf⟩ := mm_of_some ha
  obtain ⟨q, hq⟩ := va_pl_get (X := []) (f := g) hL
  exact va_zast hexec hb hK hP hD hS q t0 (by rw [← hf]; exact hq) ht hin hdg (fun H1 locs1 hP1 hD1 hS1 => kk H1 locs1 (mm_wrote hD hL hq hP1 hD1) hS1)
theorem mm_last (hexec : p.tables.exec = Jvm.exec) (hb : c.code = cc) (hK : va_K D cl tys s) (hG : mm D cl A G H) (hS : va_S A H0 H locs) (t0 : Nat) {cA : ClassId} {n : Nat} {f : Nat → Int64} (ha : G a = some (.inl (cA, n, .inr (.inl f)))) (ht : tys[t0]? = some (cA, .long)) {i : Int32} {x : Int64} (hin : vp_in i n) (hdg : decode cc pc = .ok (.lastore, 1))
    (kk : ∀ (H1 : Heap) (locs1 : List Loc), mm D cl A (mm_set G a (.inl (cA, n, .inr (.inl (vp_updL f i.toNatClampNeg x))))) H1 → va_S A H0 H1 locs1 → W p l e R s m args below meth c H1 locs1 cells slots Q (F0 m (pc + 1) ls rest)) : W p l e R s m args below meth c H locs cells slots Q (F0 m pc ls (.long x :: .int i :: .ref a :: rest)) := by
  obtain ⟨L, g, rfl, hP, hD⟩ := hG
  obtain ⟨hL, hf⟩ := mm_of_some ha
  obtain ⟨q, hq⟩ := va_pl_get (X := []) (f := g) hL
  exact va_last hexec hb hK hP hD hS q t0 (by rw [← hf]; exact hq) ht hin hdg (fun H1 locs1 hP1 hD1 hS1 => kk H1 locs1 (mm_wrote hD hL hq hP1 hD1) hS1)
/-- an object of a class stored into an array of that class -/
theorem mm_aast (hexec : p.tables.exec = Jvm.exec) (hb : c.code = cc) (hK : va_K D cl tys s) (hG : mm D cl A G H) (hS : va_S A H0 H locs) (t0 ci : Nat) {cA : ClassId} {r : vw_C} {n v : Nat} {vs : List Value} {f : Nat → Option Nat} (ha : G a = some (.inl (cA, n, .inr (.inr (.inr (.inr f)))))) (ht : tys[t0]? = some (cA, .object r.1)) (hv : G v = some (.inr (ci, vs))) (hc : cl[ci]? = some r) {i : Int32} (hin : vp_in i n) (hdg : decode cc pc = .ok (.aastore, 1))
    (kk : ∀ (H1 : Heap) (locs1 : List Loc), mm D cl A (mm_set G a (.inl (cA, n, .inr (.inr (.inr (.inr (va_up f i.toNatClampNeg (some v)))))))) H1 → va_S A H0 H1 locs1 → W p l e R s m args below meth c H1 locs1 cells slots Q (F0 m (pc + 1) ls rest)) : W p l e R s m args below meth c H locs cells slots Q (F0 m pc ls (.ref v :: .int i :: .ref a :: rest)) := by
  obtain ⟨L, g, rfl, hP, hD⟩ := hG
  obtain ⟨hL, hf⟩ := mm_of_some ha
  obtain ⟨hL2, hf2⟩ := mm_of_some hv
  obtain ⟨q, hq⟩ := va_pl_get (X := []) (f := g) hL
  obtain ⟨q2, hq2⟩ := va_pl_get (X := []) (f := g) hL2
  exact va_astq hexec hb hK hP hD hS q t0 q2 ci (by rw [← hf]; exact hq) ht (by rw [← hf2]; exact hq2) hc hin hdg (fun H1 locs1 hP1 hD1 hS1 => kk H1 locs1 (mm_wrote hD hL hq hP1 hD1) hS1)
/-- an object of a class stored into an array of a wider one -/
theorem mm_aastO (hexec : p.tables.exec = Jvm.exec) (hb : c.code = cc) (hK : va_K D cl tys s) (hG : mm D cl A G H) (hS : va_S A H0 H locs) (t0 ci : Nat) {E : String} {cA : ClassId} {r : vw_C} {n v : Nat} {vs : List Value} {f : Nat → Option Nat} (ha : G a = some (.inl (cA, n, .inr (.inr (.inr (.inr f)))))) (ht : tys[t0]? = some (cA, .object E)) (hca : va_Nw (.castable r.1 E) s) (hv : G v = some (.inr (ci, vs))) (hc : cl[ci]? = some r) {i : Int32} (hin : vp_in i n) (hdg : decode cc pc = .ok (.aastore, 1))
    (kk : ∀ (H1 : Heap) (locs1 : List Loc), mm D cl A (mm_set G a (.inl (cA, n, .inr (.inr (.inr (.inr (va_up f i.toNatClampNeg (some v)))))))) H1 → va_S A H0 H1 locs1 → W p l e R s m args below meth c H1 locs1 cells slots Q (F0 m (pc + 1) ls rest)) : W p l e R s m args below meth c H locs cells slots Q (F0 m pc ls (.ref v :: .int i :: .ref a :: rest)) := by
  obtain ⟨L, g, rfl, hP, hD⟩ := hG
  obtain ⟨hL, hf⟩ := mm_of_some ha
  obtain ⟨hL2, hf2⟩ := mm_of_some hv
  obtain ⟨q, hq⟩ := va_pl_get (X := []) (f := g) hL
  obtain ⟨q2, hq2⟩ := va_pl_get (X := []) (f := g) hL2
  exact va_astqO hexec hb hK hP hD hS q t0 q2 ci (by rw [← hf]; exact hq) ht hca (by rw [← hf2]; exact hq2) hc hin hdg (fun H1 locs1 hP1 hD1 hS1 => kk H1 locs1 (mm_wrote hD hL hq hP1 hD1) hS1)
/-- a new cell: the memory behind it -/
theorem mm_made {L : List Nat} {f : Nat → va_E} {q : Nat} {e' : va_E} {H1 : Heap} (hP1 : va_P D cl (va_pl L f ++ [(q, e')]) H1) (hD1 : va_D A (va_pl L f ++ [(q, e')])) : mm_of L f q = none ∧ mm D cl A (mm_set (mm_of L f) q e') H1 := by
  have hq : q ∉ L := va_pl_fresh2 (X := []) (f := f) hD1
  have h := va_pl_push (f := f) (e := e') hq
  rw [h] at hP1 hD1
  exact ⟨by simp [mm_of, hq], L ++ [q], va_up f q e', mm_of_push, hP1, hD1⟩
theorem mm_new {c0 : Code} (hexec : p.tables.exec = Jvm.exec) (hb : c0.code = cc) {own C : String} {T : u_T} {N ci index : Nat} {Ts : List Cond} (hts : ∀ w ∈ Ts, w.before args s = true) (hin : ∀ w ∈ u_ws C T N, w ∈ Ts) (ty : Nat → FieldType) (hty : ∀ k, k < N → parseFieldDescriptor (T k).2.2.1 = some (ty k)) (hown : s.vm.findClass own = some m.cls) (hcl : (Cond.classLink own index C).before args s = true) (hinst : (Cond.instantiable C N).before args s = true) (hini : (Cond.initialized C).before args s = true)
    (hK : va_K D cl tys s) (hG : mm D cl A G H) (hS : va_S A H0 H locs) (hA : ∀ q : Nat, H0.size ≤ q → A q) (hc : cl[ci]? = some (C, T, N)) {fs : List Value} (hfs : ∀ j, j < N → defaultValue (ty j) = vp_V fs j) (hcells : cells + 1 ≤ R.cells) (hslots : slots + N ≤ R.slots) (hdg : decode cc pc = .ok (.new index, 3))
    (kk : ∀ (q : Nat) (H1 : Heap), G q = none → mm D cl A (mm_set G q (.inr (ci, fs))) H1 → va_S A H0 H1 locs →
      W p l e R s m args below meth c0 H1 locs (cells + 1) (slots + N) Q (F0 m (pc + 3) ls (.ref q :: rest))) : W p l e R s m args below meth c0 H locs cells slots Q (F0 m pc ls rest) := by
  obtain ⟨L, g, rfl, hP, hD⟩ := hG
  exact va_new hexec hb hts hin ty hty hown hcl hinst hini hK hP hD hS hA hc hfs hcells hslots hdg (fun q H1 hP1 hD1 hS1 => kk q H1 (mm_made hP1 hD1).1 (mm_made hP1 hD1).2 hS1)
theorem mm_newa (hexec : p.tables.exec = Jvm.exec) (hb : c.code = cc) {atype : ArrayType} (harr : (Cond.arrayClass (newarray.typeOf atype)).before args s = true) {ty : FieldType} (hty : newarray.typeOf atype = ty) (hK : va_K D cl tys s) (hG : mm D cl A G H) (hS : va_S A H0 H locs) (hA : ∀ q : Nat, H0.size ≤ q → A q) (t0 : Nat) {cY : ClassId} (ht : tys[t0]? = some (cY, ty))
    {n : Int32} {N' : Nat} {a0 : vp_A} (ha : ∀ cA : ClassId, vp_cell cA a0 = arrV cA N' (fun _ => defaultValue ty)) (hn : ¬ n < 0) (hN : n.toNatClampNeg = N') (hbytes : N' * componentBytes ty ≤ 536870912) (hcells : cells + 1 ≤ R.cells) (hslots : slots + N' ≤ R.slots) (hdg : decode cc pc = .ok (.newarray atype, 2))
    (kk : ∀ (q : Nat) (H1 : Heap), G q = none → mm D cl A (mm_set G q (.inl (cY, a0))) H1 → va_S A H0 H1 locs →
      W p l e R s m args below meth c H1 locs (cells + 1) (slots + N') Q (F0 m (pc + 2) ls (.ref q :: rest))) : W p l e R s m args below meth c H locs cells slots Q (F0 m pc ls (.int n :: rest)) := by
  obtain ⟨L, g, rfl, hP, hD⟩ := hG
  refine va_newa hexec hb harr hty hK hP hD hS hA ha hn hN hbytes hcells hslots hdg (fun q cA H1 hK1 hP1 hD1 hS1 => ?_)
  have hcA : cA = cY := mm_RA (hK1.2 tys.length (cA, ty) (by simp)).2 (hK.2 t0 _ ht).2
  subst hcA
  exact kk q H1 (mm_made hP1 hD1).1 (mm_made hP1 hD1).2 hS1
theorem mm_newq (hexec : p.tables.exec = Jvm.exec) (hb : c.code = cc) {own C : String} {index : Nat} (hown : s.vm.findClass own = some m.cls) (hclink : (Cond.classLink own index C).before args s = true) (hover : va_AO C s) (hK : va_K D cl tys s) (hG : mm D cl A G H) (hS : va_S A H0 H locs) (hA : ∀ q : Nat, H0.size ≤ q → A q) (t0 : Nat) {cY : ClassId} (ht : tys[t0]? = some (cY, .object C))
    {n : Int32} {N' : Nat} (hn : ¬ n < 0) (hN : n.toNatClampNeg = N') (hbytes : N' * 4 ≤ 536870912) (hcells : cells + 1 ≤ R.cells) (hslots : slots + N' ≤ R.slots) (hdg : decode cc pc = .ok (.anewarray index, 3))
    (kk : ∀ (q : Nat) (H1 : Heap), G q = none → mm D cl A (mm_set G q (.inl (cY, N', .inr (.inr (.inr (.inr (fun _ => none))))))) H1 → va_S A H0 H1 locs →
      W p l e R s m args below meth c H1 locs (cells + 1) (slots + N') Q (F0 m (pc + 3) ls (.ref q :: rest))) : W p l e R s m args below meth c H locs cells slots Q (F0 m pc ls (.int n :: rest)) := by
  obtain ⟨L, g, rfl, hP, hD⟩ := hG
  refine va_newq hexec hb hown hclink hover hK hP hD hS hA hn hN hbytes hcells hslots hdg (fun q cA H1 hK1 hP1 hD1 hS1 => ?_)
  have hcA : cA = cY := mm_RA (hK1.2 tys.length (cA, .object C) (by simp)).2 (hK.2 t0 _ ht).2
  subst hcA
  exact kk q H1 (mm_made hP1 hD1).1 (mm_made hP1 hD1).2 hS1
end MMW
