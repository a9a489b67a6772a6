/-! ===== A METHOD THAT THROWS, AND A METHOD THAT CATCHES. Nothing here knows the claim. ===== -/
/-- where a static lies: it stands still -/
def tr_L (C n d : String) (A : Nat → Prop) (U : State) : Prop := ∃ (c : Nat) (k : Class) (i : Nat) (f : Field) (a : Nat) (cell : Cell), U.vm.findClass C = some c ∧ U.fieldFound? C n d = some (c, k, i, f) ∧ f.isStatic = true ∧ k.statics = some a ∧ U.heap[a]? = some cell ∧ cell.vm.isStatics = true ∧ cell.cls = c ∧ f.slot < cell.slots.size ∧ k.staticTypes[f.slot]? = some f.type ∧ ¬ A a
theorem tr_L_st {C n d : String} {A : Nat → Prop} : mk_St A (tr_L C n d A) := by
  intro s U hW hk h
  obtain ⟨c, k, i, f, a, cell, h1, h2, h3, h4, h5, h6, h7, h8, h9, h10⟩ := h
  obtain ⟨k', hi', he⟩ := State.fieldFound?_setVm hW.alike h2
  exact ⟨c, k', i, f, a, cell, by rw [hW.alike.findClass]; exact h1, hi', h3, by rw [he]; exact h4, by rw [hk a (Array.getElem?_eq_some_iff.mp h5).1 h10]; exact h5, h6, h7, h8, by rw [he]; exact h9, h10⟩
theorem tr_L_of {C n d : String} {A : Nat → Prop} {s : State} {args : Array Value} (h : (Cond.laysStatic C n d).before args s = true) (hA : ∀ a : Nat, a < s.heap.size → ¬ A a) : tr_L C n d A s := by
  obtain ⟨c, k, i, f, a, cell, hc, hi, hst, ha, hcell, hs, hcls, hlt, hty⟩ := Cond.laysStatic_spec h
  exact ⟨c, k, i, f, a, cell, hc, hi, hst, ha, hcell, hs, hcls, hlt, hty, hA a (Array.getElem?_eq_some_iff.mp hcell).1⟩
theorem tr_L_use {C n d : String} {A : Nat → Prop} {s : State} {args : Array Value} (h : tr_L C n d A s) : (Cond.laysStatic C n d).before args s = true := by
  obtain ⟨c, k, i, f, a, cell, hc, hi, hst, ha, hcell, hs, hcls, hlt, hty, -⟩ := h
  exact Cond.laysStatic_of hc hi hst ha hcell hs hcls hlt hty
/-- the two statics of Throwable that its constructor reads: references that stand still -/
def TH (A : Nat → Prop) (U : State) : Prop := (va_Zq "java/lang/Throwable" "UNASSIGNED_STACK" "[Ljava/lang/StackTraceElement;" A U U.heap ∧ va_Zq "java/lang/Throwable" "SUPPRESSED_SENTINEL" "Ljava/util/List;" A U U.heap) ∧ tr_L "java/lang/Throwable" "UNASSIGNED_STACK" "[Ljava/lang/StackTraceElement;" A U ∧ tr_L "java/lang/Throwable" "SUPPRESSED_SENTINEL" "Ljava/util/List;" A U
theorem TH_st {A : Nat → Prop} : mk_St A (TH A) := fun s U hW hk h => ⟨⟨(va_Zq.moved hW.alike h.1.1).kept hk, (va_Zq.moved hW.alike h.1.2).kept hk⟩, tr_L_st s U hW hk h.2.1, tr_L_st s U hW hk h.2.2⟩
theorem tr_isRef {C n d : String} {A : Nat → Prop} {U : State} {args : Array Value} (h : va_Zq C n d A U U.heap) : (Cond.isRef (.static C n d)).before args U = true := by
  rcases h with h | ⟨t, h⟩
  · obtain ⟨cf, kf, fi, f, a, cell, h1, h2, h3, h4, h5, h6, h7, -⟩ := h
    simp [Cond.before, Cond.holds, Cond.value, Term.eval, State.fieldNamed?, h1, h2, h4, h5, h6, h7]
  · obtain ⟨cf, kf, fi, f, a, cell, h1, h2, h3, h4, h5, h6, h7, -⟩ := h
    simp [Cond.before, Cond.holds, Cond.value, Term.eval, State.fieldNamed?, h1, h2, h4, h5, h6, h7]
/-- a method's contract whose end is a throw -/
def MetT (l : Launch) (y : MethodName) (ws : List Cond) (rm : Room) (Pc : Array Value → State → Prop) (Qt : State → Addr → State → Prop) (mc ms : Nat) (free : Addr → Prop) : Prop :=
  MetFree l y (headSpec ws rm) Pc (fun _ _ _ _ _ => True) (fun _ st o t => ∃ x : Addr, o = .threw x ∧ Qt st x t ∧ st.WarmedH t.vm ∧ ∃ L : List Loc, st.sameButNew ({ t with vm := st.vm } : State) L mc ms ∧ ∀ q ∈ L, free q.base)
def MQT (below : List Frame) (Qt : State → Addr → State → Prop) (s : State) (mc ms : Nat) (free : Addr → Prop) : State → Prop := fun t =>
  ∃ x : Addr, t.status = .running ∧ Ended t below (.threw x) ∧ Qt s x t ∧ s.WarmedH t.vm ∧ ∃ L : List Loc, s.sameButNew ({ t with vm := s.vm } : State) L mc ms ∧ ∀ q ∈ L, free q.base
theorem MetT.ofW {l : Launch} {y : MethodName} {ws ws' : List Cond} {rm : Room} {Pc : Array Value → State → Prop} {Qt : State → Addr → State → Prop} {mc ms : Nat} {free : Addr → Prop} {cc : ByteArray} {maxL : Nat} {ret : Option FieldType}
    (hy : plainName y.cls = true) (hw : ws = Cond.code y cc maxL ret :: ws')
    (body : ∀ p e s m args below meth c s₁, BodyLoose p l y (headSpec ws rm) cc maxL ret e s m args below meth c s₁ → c.maxLocals = maxL → Pc args s →
      W p l e (headSpec ws rm).room s m args below meth c s.heap [] 0 0 (MQT below Qt s mc ms free) (entryFrame m args maxL)) : MetT l y ws rm Pc Qt mc ms free := by
  refine MetFree.of_bodyS (code := cc) (maxLocals := maxL) (ret := ret) hy ?_ ?_
  · intro args s m h hn
    obtain ⟨meth, c, h1, h2, h3, h4, h5, h6, -, -⟩ := Cond.code_spec hn (atoms_spec (ws := ws) h _ (by rw [hw]; exact List.mem_cons_self))
    exact ⟨meth, c, h1, h2, h3, h4, h5, h6⟩
  · intro p e s m args below meth c s₁ B hml hP _
    have hh0 : s₁.heap = s.heap := by rw [B.state]; rfl
    obtain ⟨t, a1, x, b1, b2, b3, b4, b5⟩ := body p e s m args below meth c s₁ B hml hP s₁ hh0 (Stand.of_body B)
    exact ⟨t, .threw x, a1, b1, b2, x, rfl, b3, b4, b5⟩
theorem tr_kept {s t : State} {k n : Nat} (h : s.sameButNew t [] k n) : s.heap.size ≤ t.heap.size ∧ ∀ q : Nat, q < s.heap.size → t.heap[q]? = s.heap[q]? := by
  obtain ⟨-, h2, -, -, -, h6⟩ := h
  refine ⟨h2, fun q hq => ?_⟩
  obtain ⟨cl, hcl⟩ : ∃ x, s.heap[q]? = some x := ⟨_, Array.getElem?_eq_getElem hq⟩
  obtain ⟨c', e1, e2, e3, e4⟩ := h6 q cl hcl
  have hs : c'.slots = cl.slots := Array.ext_getElem? (fun i => e4 i (by simp))
  rw [hs] at e2
  rw [e1, hcl]
  exact congrArg some e2
/-- the memory where nothing that was there has changed -/
theorem mm.kept {D : va_G} {cl : List vw_C} {A : Nat → Prop} {G : Nat → Option va_E} {H H1 : Heap} (h : mm D cl A G H) (hk : ∀ q : Nat, q < H.size → H1[q]? = H[q]?) : mm D cl A G H1 := by
  obtain ⟨L, f, rfl, hP, hD⟩ := h
  exact ⟨L, f, rfl, hP.kept (fun k q hq => hk q.1 (hP k q hq).lt), hD⟩
/-- what stands when it has thrown: the memory as it was, and the exception's own cell -/
def tr_Q (D : va_G) (cl : List vw_C) (A : Nat → Prop) (G : Nat → Option va_E) (cls : String) : State → Addr → State → Prop := fun st x t =>
  mm D cl A G t.heap ∧ st.heap.size ≤ t.heap.size ∧ (∀ q : Nat, q < st.heap.size → t.heap[q]? = st.heap[q]?) ∧ ∃ ce : Cell, t.heap[x]? = some ce ∧ ce.vm = .none ∧ st.vm.findClass cls = some ce.cls
section TRW

variable {p : Program} {l : Launch} {e : Env} {R : Room} {s : State} {m : MethodId} {args : Array Value} {below : List Frame} {meth : Method} {c : Code} {H : Heap} {locs : List Loc} {cells slots : Nat} {Q : State → Prop}
/-- 'throw new cls()' in a method that has written nothing and made nothing -/
theorem tr_throw0 {cc : ByteArray} {pc : Nat} {ls : Array Slot} (hexec : p.tables.exec = Jvm.exec) (hb : c.code = cc) (hml : ls.size = c.maxLocals) (htr : e.platform.stackTraces = false) {own cls : String} {names : List String} {ix ic : Nat} {free : Addr → Prop} {Qt : State → Addr → State → Prop}
    (hown : s.vm.findClass own = some m.cls) (hcls : Bundle.fit cls = true) (hnames : ∀ n ∈ names, Bundle.fit n = true) (hclink : (Cond.classLink own ix cls).before args s = true) (hinit : (Cond.initialized cls).before args s = true) (hins : (Cond.instantiable cls 6).before args s = true)
    (h : ∀ a ∈ Bundle.ownAtoms0 own ic cls names, a.before args s = true) (hnh : c.exceptionTable.isEmpty = true)
    (hq : ∀ (t : State) (x : Addr) (ce : Cell), s.heap.size ≤ t.heap.size → (∀ q : Nat, q < s.heap.size → t.heap[q]? = s.heap[q]?) → t.heap[x]? = some ce → ce.vm = .none → s.vm.findClass cls = some ce.cls → Qt s x t)
    (hc : 1 ≤ R.cells) (hsl : 6 ≤ R.slots) (hRf : names.length + 3 < R.frames) (hRl : 1 + (13 * (names.length + 1) + 41) ≤ R.locals)
    (d0 : decode cc pc = .ok (.new ix, 3)) (d3 : decode cc (pc + 3) = .ok (.dup, 1)) (d4 : decode cc (pc + 4) = .ok (.invokespecial ic, 3)) (d7 : decode cc (pc + 7) = .ok (.athrow, 1)) (hlocks : meth.locks = false) :
    W p l e R s m args below meth c s.heap [] 0 0 (MQT below Qt s 1 6 free) (F0 m pc ls []) := by
  refine W.newc hexec hb hown hclink hins hinit rfl d0 (by omega) (by omega) (fun cC kC hf hk hko hkn => ?_)
  refine W.eq (g2 := F0 m (pc + 3) ls [.ref s.heap.size]) rfl ?_
  refine lv_dup hexec hb d3 rfl ?_
  refine W.eq (g2 := F0 m (pc + 4) ls [.ref s.heap.size, .ref s.heap.size]) rfl ?_
  intro T hT X
  have hemp : c.exceptionTable.toList = [] := by
    have h0 : c.exceptionTable.size = 0 := by simpa [Array.isEmpty] using hnh
    exact List.eq_nil_of_length_eq_zero (by simpa using h0)
  obtain ⟨U, st, hrun, hend, hW, hsame, ce, hce, hO⟩ := X.ctorThrow0 hexec htr hown hcls hnames h (fun x hx => absurd hx List.not_mem_nil) (a := s.heap.size) hf hk (by rw [hT]; simp [freshCell]) (Nat.le_refl _)
    (g := F0 m (pc + 4) ls [.ref s.heap.size, .ref s.heap.size]) rfl hml rfl rfl (rest := []) rfl (by rw [hb]; exact d4) (by rw [hb]; exact d7) (fun x hx => by rw [hemp] at hx; exact absurd hx List.not_mem_nil) hRf (by show 2 * 0 + (1 + 0) + (13 * (names.length + 1) + 41) ≤ R.locals; omega) (hlocks := hlocks)
  obtain ⟨k1, k2⟩ := tr_kept hsame
  exact ⟨U, st, s.heap.size, hrun, hend, hq U _ ce k1 k2 hce hO.vm hO.cls, hW, [], by simpa using hsame, fun _ h => absurd h List.not_mem_nil⟩
variable {Ts ws : List Cond} {cc bytes : ByteArray} {nL maxL index n mc ms : Nat} {own C : String} {y : MethodName} {ret : Option FieldType} {rm : Room} {Pc : Array Value → State → Prop} {b : Addr} {As rest : List Value} {g : JFrame}
/-- a call that comes to a throw: what stands then, the exception over the caller's frame -/
def tr_Run (p : Program) (l : Launch) (e : Env) (R : Room) (s : State) (m : MethodId) (args : Array Value) (below : List Frame) (meth : Method) (c : Code) (H : Heap) (locs : List Loc) (cells slots mc ms : Nat) (g : JFrame) (rest : List Value) (Qt : State → Addr → State → Prop) (free : Addr → Prop) : Prop :=
  ∀ T : State, T.heap = H → Stand p l e R s m args below meth c T locs cells slots → ∃ (st₀ t T' : State) (x : Addr) (L : List Loc), st₀.heap = H ∧ s.WarmedH st₀.vm ∧ Stand p l e R s m args below meth c T' (locs ++ L) (cells + mc) (slots + ms) ∧ (∀ q ∈ L, free q.base) ∧ T'.heap = t.heap ∧ Qt st₀ x t ∧
    ∀ tg, Steps p.tables e below ((T'.setTop { g with stack := rest }).pushFrame (.throwing x)) tg → Steps p.tables e below (T.setTop g) tg
theorem tr_runV {Qt : State → Addr → State → Prop} {free : Addr → Prop} (S : CallFix p m c cc nL s args Ts own) (hM : MetT l y ws rm Pc Qt mc ms free) (cw : CallW R s args own C index y bytes maxL ret ws rm mc ms n) (hp : PreV s H C b Pc As)
    (hg : g.method = m) (hn : As.length = n) (hsize : g.locals.size = nL) (hstack : g.stack = As.reverse ++ .ref b :: rest) (hW : 2 * g.monitorRoom + (rest.map fun v => v.category).sum ≤ 8) (hdg : decode cc g.pc = .ok (.invokevirtual index, 3)) (hf : cells + mc ≤ R.cells ∧ slots + ms ≤ R.slots) :
    tr_Run p l e R s m args below meth c H locs cells slots mc ms g rest Qt free := by
  obtain ⟨⟨hrc, hrs, hfr, hlo, hws, hcw, hcode, hini, hy, hlen, hl⟩, hin, hse⟩ := cw
  obtain ⟨hx, hb, hml, ho, -⟩ := S
  obtain ⟨hbl, ⟨cellB, hcB, hoB, hclB⟩, hPc⟩ := hp
  intro T hT X
  obtain ⟨mk, methM, hnamed, hmethM, hstM, habM⟩ := Cond.instanceMethod_spec hin
  obtain ⟨methM', cM, hmethM', -, -, -, -, -, -, hsigM⟩ := Cond.code_spec hnamed hcode
  cases hmethM.symm.trans hmethM'
  obtain ⟨c2, r2, m2, q1, q2, q3, q4, kP, hkP, hkPi⟩ := Cond.selects_spec hse
  cases hclB.symm.trans q1
  cases (State.methodFound?_of_named hnamed hy).symm.trans q2
  cases hnamed.symm.trans q3
  have hselP : selectMethod e.platform s.vm cellB.cls mk = .method mk := by rw [Launch.admits_selectMethod X.admits]; exact q4
  obtain ⟨vm₁, X₁, hstep₁⟩ := X.invokevirtual hx ho hl hnamed hmethM hstM hkP hkPi hy (a := b) (cell := cellB) (by rw [hT]; exact hcB)
    (fun z h => by rw [h] at hoB; cases hoB) hselP hmethM habM hkP hkPi (g := g) hg (argsL := As) (rest := rest) (hn.trans (hlen _ hsigM)) hstack (by rw [hb]; exact hdg)
  have hnU : (T.setVm vm₁).methodNamed? y = some mk := X₁.named hnamed
  have hcU : (Cond.code y bytes maxL ret).before (Value.ref b :: As).toArray (T.setVm vm₁) = true := hws _ hcw _ _ X₁.warmed
  obtain ⟨methY, cY, hmY, hcY, -, hlY, -, -, -, -⟩ := Cond.code_spec hnU hcU
  obtain ⟨kY, hkY, -⟩ := className_of_methodNamed hnU
  have hiniU : (Cond.initialized y.cls).before (Value.ref b :: As).toArray (T.setVm vm₁) = true := word_at X₁.warmed (Or.inl (by first | rfl | simp [Cond.onTables, Cond.keeps, Cond.steady])) hini
  have hinitY : kY.init = .initialized := Cond.initialized_spec (findClass_of_methodNamed hnU) hkY hiniU
  have hsz : ({ g with stack := rest } : JFrame).locals.size = c.maxLocals := hsize.trans hml.symm
  have h : At (T.setVm vm₁) ({ g with stack := rest } : JFrame).method c below := by
    show At (T.setVm vm₁) g.method c below
    rw [hg]; exact X₁.here
  have hlo' : 8 + (maxL + 11) + (headSpec ws rm).room.locals ≤ R.locals := hlo
  have hW' : 2 * ({ g with stack := rest } : JFrame).monitorRoom + (({ g with stack := rest } : JFrame).stack.map fun v => v.category).sum ≤ 8 := hW
  have happ : (headSpec ws rm).appliesLoose y e.platform ((T.setVm vm₁).calling ({ g with stack := rest } : JFrame) mk (Value.ref b :: As).toArray) = true :=
    Spec.appliesLoose_calling (g := ({ g with stack := rest } : JFrame)) h (by rw [hb]; exact hdg) hnU hkY hinitY
      (X₁.room_calling (g := ({ g with stack := rest } : JFrame)) (R' := (headSpec ws rm).room) hsz hmY hcY hfr (by rw [hlY]; omega) (by rw [show (headSpec ws rm).room.cells = mc from hrc]; exact hf.1) (by rw [show (headSpec ws rm).room.slots = ms from hrs]; exact hf.2))
      (atoms_intro fun w hw => hws w hw _ _ X₁.warmed)
  obtain ⟨mid, hmid⟩ := h.above
  have hfr2 : ((T.setVm vm₁).setTop ({ g with stack := rest } : JFrame)).frames = (.java ({ g with stack := rest } : JFrame) :: mid) ++ below := by rw [State.frames_setTop' _ h.top, hmid]; rfl
  obtain ⟨o, s₂, hsteps, -, hend, hq⟩ := Steps.callFree hM p X₁.admits X₁.cas X₁.clock (acts := []) hfr2 happ (hbl _ _ _ _ (hPc (T.setVm vm₁) hT X₁.warmed)) trivial
  obtain ⟨x, rfl, hQ, hWt, L, hsame, hfree⟩ := hq
  rw [State.frames_setTop' _ h.top] at hend
  obtain ⟨g₀, hr⟩ := X₁.frames_eq
  rw [hr] at hend
  obtain ⟨T', X', hW2, hB, ht⟩ := X₁.outOfThrown (g := ({ g with stack := rest } : JFrame)) hg (mk := mk) (a := (Value.ref b :: As).toArray) hend hWt hsame
  refine ⟨(T.setVm vm₁).calling ({ g with stack := rest } : JFrame) mk (Value.ref b :: As).toArray, s₂, T', x, L, hT, X₁.warmed, X', hfree, ?_, hQ, fun tg hs => hstep₁ _ fun acts => ?_⟩
  · rw [ht, Stand.throwing_heap]
  · rw [doInvoke_state]
    rw [← ht] at hs
    exact hsteps.trans hs
end TRW
/-- the search in a table of one entry: its class is linked, cold or warm, and takes the exception; all that turns is the tables' own note -/
theorem tr_step {tb : Tables} {e : Env} {s target : State} {g : JFrame} {c : Code} {meth : Method} {below : List Frame} {a : Addr} (h : At s g.method c below) (hm : s.vm.method? g.method = some meth) (hc : meth.code = some c) {x : ExceptionTableEntry} (htab : c.exceptionTable.toList = [x]) (hx : covers x g.pc = true) (h0 : x.catchType ≠ 0)
    {k : ClassId} {cell : Cell} (hl : s.vm.ClassLinks e.platform g.method.cls x.catchType k) (hcell : s.heap[a]? = some cell) (hobj : ∀ z, cell.vm ≠ .statics z) (hk1 : ∃ z, s.vm.classes[cell.cls]? = some z) (hk2 : ∃ z, s.vm.classes[k]? = some z) (hfit : s.vm.assignable cell.cls k = true)
    (hrest : Steps tb e below ((s.setVm (s.vm.noted g.method.cls x.catchType (.cls k))).setTop { g with pc := x.handlerPc, stack := [.ref a] }) target) :
    Steps tb e below ((s.setTop g).pushFrame (.throwing a)) target := by
  obtain ⟨vm', hvm'⟩ : ∃ v, v = s.vm.noted g.method.cls x.catchType (.cls k) := ⟨_, rfl⟩
  rw [← hvm'] at hrest
  obtain ⟨u, hu⟩ : ∃ u, u = (s.setTop g).pushFrame (.throwing a) := ⟨_, rfl⟩
  have uv : u.vm = s.vm := by rw [hu, Stand.throwing_vm]
  have uh : u.heap = s.heap := by rw [hu, Stand.throwing_heap]
  obtain ⟨ha, ht⟩ := (resolveClass_links e.toSetting (vm := u.vm) (by rw [uv]; exact hl)).op (op := VmOp.resolveClass g.method.cls x.catchType) rfl
  have hal : s.vm.Alike vm' := by rw [hvm']; exact (Vm.Alike.refl s.vm).noted _ _ _
  obtain ⟨z1, hz1⟩ := hk1
  obtain ⟨z2, hz2⟩ := hk2
  obtain ⟨y1, hy1, -⟩ := hal.2.2 _ _ hz1
  obtain ⟨y2, hy2, -⟩ := hal.2.2 _ _ hz2
  have hfit' : vm'.assignable cell.cls k = true := by rw [hal.assignable]; exact hfit
  have hfind : ∀ (Q : Handler → Pre) (E : CtlPost) (d : Bool) (acts : List Action), wp (findHandler g a) Q E e d acts u ↔ Q (.found x.handlerPc) d acts (u.setVm vm') := by
    intro Q E d acts
    rw [W.findHandler_eq (by rw [uv]; exact hm) hc, htab]
    simp only [covers] at hx
    rw [show u.vm.noted g.method.cls x.catchType (.cls k) = vm' by rw [uv, hvm']] at ht
    have hl2 := VmOp.lands_eq (s := u) ht (by rw [hvm', uv]; simp)
    simp [findHandler.go, hx, h0, ha, hl2, uh, hcell, hobj, hy1, hy2, hfit', VmOp.dirties, VmOp.acts]
  obtain ⟨hgo, hw⟩ := h.throwing a
  refine Steps.head hgo hw ?_
  have hstep : ∀ r : List Frame, (stepThrowing e u a (.java g :: r)).Is ((u.setVm vm').setFrames (.java { g with pc := x.handlerPc, stack := [.ref a] } :: r)) [] := by
    intro r
    simp only [stepThrowing, searchFrame, vmDo]
    generalize hr : Sem.go _ e false [] u = res
    obtain ⟨as, rfl, ha⟩ := Sem.eq_ok_of hr (a := Handler.found x.handlerPc) (s' := u.setVm vm') (acts' := []) (by simp [hfind _ _ _ _])
    exact ⟨rfl, ha⟩
  rw [stepThread_throwing (frames_entered h.top _), ← hu, (hstep _).1]
  obtain ⟨g₀, hg⟩ := Option.isSome_iff_exists.mp h.top
  obtain ⟨r, hr⟩ := State.topJava?_eq_some.mp hg
  have hr' : (s.setVm vm').frames = .java g₀ :: r := hr
  rw [State.setTop_of_frames _ hr'] at hrest
  have hx1 : ∀ (w : State) (F K : List Frame), ((w.setFrames F).setVm vm').setFrames K = (w.setVm vm').setFrames K := by
    intro w F K
    rw [show (w.setFrames F).setVm vm' = (w.setVm vm').setFrames F from rfl, State.setFrames_setFrames]
  rw [hr, List.tail_cons, hu, State.pushFrame, hx1, State.setTop_of_frames _ hr, hx1]
  exact hrest
section TRW

variable {p : Program} {l : Launch} {e : Env} {R : Room} {s : State} {m : MethodId} {args : Array Value} {below : List Frame} {meth : Method} {c : Code} {H : Heap} {locs : List Loc} {cells slots : Nat} {Q : State → Prop}

variable {Ts ws : List Cond} {cc bytes : ByteArray} {nL maxL index n mc ms : Nat} {own C : String} {y : MethodName} {ret : Option FieldType} {rm : Room} {Pc : Array Value → State → Prop} {b : Addr} {As rest : List Value} {g : JFrame}
/-- .. and is caught by the only entry of the caller's table -/
theorem tr_caught {D : va_G} {cl : List vw_C} {A : Nat → Prop} {G : Nat → Option va_E} {pc : Nat} {ls : Array Slot} {st0 : List Value} {cls : String} (hr : tr_Run p l e R s m args below meth c H locs cells slots mc ms (F0 m pc ls st0) rest (tr_Q D cl A G cls) (fun _ => False)) (hS : va_S A s.heap H locs)
    (hown : s.vm.findClass own = some m.cls) (x : ExceptionTableEntry) (htab : c.exceptionTable.toList = [x]) (hcov : covers x pc = true) (h0 : x.catchType ≠ 0) (hlink : (Cond.classLink own x.catchType cls).before args s = true) (hcast : (Cond.castable cls cls).before args s = true)
    (kk : ∀ (a : Nat) (H1 : Heap), mm D cl A G H1 → va_S A s.heap H1 locs → W p l e R s m args below meth c H1 locs (cells + mc) (slots + ms) Q (F0 m x.handlerPc ls [.ref a])) : W p l e R s m args below meth c H locs cells slots Q (F0 m pc ls st0) := by
  intro T hT X
  obtain ⟨st₀, t, T', xa, L, e0, hW0, X', hL, e1, ⟨hmm, hz, hk, ce, hce, hcv, hcf⟩, st⟩ := hr T hT X
  obtain ⟨c3, c4, hc3, hc4, hasg⟩ := Cond.castable_spec hcast
  have hcf' : s.vm.findClass cls = some ce.cls := by rw [← hW0.alike.findClass]; exact hcf
  cases Option.some.inj (hc3.symm.trans hcf')
  cases Option.some.inj (hc4.symm.trans hcf')
  have X2 : Stand p l e R s m args below meth c T' locs (cells + mc) (slots + ms) := Stand.forget X' (fun q h => (hL q h).elim)
  have hpl : e.platform.magicAccessors = ({} : Platform).magicAccessors := by rw [X.admits.platform]
  obtain ⟨k', hk', hcl⟩ := Cond.classLink_spec hown hlink e.platform hpl
  cases hcf'.symm.trans hk'
  obtain ⟨dk, _, _, kt, hd, _, _, _, _, hkt, _, hopen⟩ := hcl.here
  have hcl0 := X2.warmed.classLinks hcl
  have XV := X2.noted (X2.warmed.noted hd hopen (State.rightAt_cls hcl))
  obtain ⟨kt', hkt', -⟩ := X2.warmed.alike.2.2 _ _ hkt
  rw [e0] at hz hk
  obtain ⟨t2, a1, b1⟩ := kk xa T'.heap (by rw [e1]; exact hmm) ⟨Nat.le_trans hS.1 (by rw [e1]; exact hz), fun q g1 g2 => by rw [e1, hk q (Nat.lt_of_lt_of_le g1 hS.1)]; exact hS.2.1 q g1 g2, hS.2.2⟩ (T'.setVm (T'.vm.noted m.cls x.catchType (.cls ce.cls))) rfl XV
  exact ⟨t2, st t2 (tr_step (g := F0 m pc ls rest) X2.here X2.method' X2.code htab hcov h0 hcl0 (by rw [e1]; exact hce) (fun z h => by rw [hcv] at h; cases h) ⟨kt', hkt'⟩ ⟨kt', hkt'⟩ (by rw [X2.warmed.alike.assignable]; exact hasg) a1), b1⟩
/-- the call of a static method that has a table of handlers -/
theorem tr_runSW {hh : List (Nat × Nat × Nat × Nat)} {Qc : Array Value → State → Outcome → State → Prop} {free : Addr → Prop} (S : CallFix p m c cc nL s args Ts own) (hM : Met l y ws rm Pc Qc mc ms free) (hrc : rm.cells = mc) (hrs : rm.slots = ms) (hfr : rm.frames + 1 ≤ R.frames) (hlo : 8 + (maxL + 11) + rm.locals ≤ R.locals)
    (hws : ∀ w ∈ ws, ∀ (a' : Array Value) (U : State), s.WarmedH U.vm → w.before a' U = true) (hcw : Cond.codeWith y bytes maxL ret hh ∈ ws) (hcode : (Cond.codeWith y bytes maxL ret hh).before args s = true) (hini : (Cond.initialized y.cls).before args s = true) (hstt : (Cond.static y).before args s = true) (hy : y.cls ≠ "java/lang/invoke/MethodHandle" ∧ y.cls ≠ "java/lang/invoke/VarHandle") (hlen : (parseMethodDescriptor y.desc).map (fun d => d.parameters.length) = some n) (hl : (Cond.methodLink own index y).before args s = true) (hp : PreS s H Pc As)
    (hg : g.method = m) (hn : As.length = n) (hsize : g.locals.size = nL) (hstack : g.stack = As.reverse ++ rest) (hW : 2 * g.monitorRoom + (rest.map fun v => v.category).sum ≤ 8) (hdg : decode cc g.pc = .ok (.invokestatic index, 3)) (hf : cells + mc ≤ R.cells ∧ slots + ms ≤ R.slots) :
    va_Run p l e R s m args below meth c H locs cells slots mc ms g rest (Qc As.toArray) (free) := by
  have hK : Back l R p e below s args y 3 8 (PreOf R mc ms Pc) (PostOf Qc mc ms free) := va_backW (hh := hh) (bytes := bytes) (maxL := maxL) (ret := ret) hM hp.1 hrc hrs hfr hlo hws hcw (fun a' U hW => word_at hW (Or.inl (by first | rfl | simp [Cond.onTables, Cond.keeps, Cond.steady])) hini)
  obtain ⟨hx, hb, hml, ho, -⟩ := S
  intro T hT X
  obtain ⟨mk, methM, cM, hnamed, hmethM, -, -, -, -, -, -, hsigM⟩ := Cond.codeWith_spec hcode
  have hstatic : methM.isStatic = true := Cond.static_spec hnamed hmethM hstt
  obtain ⟨kP, hkP, -⟩ := className_of_methodNamed hnamed
  have hinitP : kP.init = .initialized := Cond.initialized_spec (findClass_of_methodNamed hnamed) hkP hini
  have hlenA : As.length = methM.sig.parameters.length := by
    rw [hsigM] at hlen
    exact hn.trans (Option.some.inj hlen).symm
  obtain ⟨vm₁, X₁, hstep₁⟩ := X.invokestatic hx ho hl hnamed hmethM hstatic hkP hinitP hy (g := g) hg (argsL := As) (rest := rest) hlenA hstack (by rw [hb]; exact hdg)
  obtain ⟨v, ⟨U', l2, c2, s2⟩, X', ⟨g', mk', t, L, e1, e2, hq, h1, hL, h2, h3⟩, hsteps⟩ := hK m meth c ⟨T.setVm vm₁, locs, cells, slots⟩ { g with stack := rest } (.invokestatic index) mk As.toArray X₁ hg (hsize.trans hml.symm) (by rw [hb]; exact hdg) hW (X₁.named hnamed) ⟨hf.1, hf.2, hp.2 (T.setVm vm₁) hT X₁.warmed⟩
  dsimp only [Pt.U, Pt.locs, Pt.cells, Pt.slots] at X' e1 e2 h1 h2 h3 hsteps
  subst h1; subst h2; subst h3
  exact ⟨v, (T.setVm vm₁).calling g' mk' As.toArray, t, U', L, hT, X', hL, e1, e2, hq, fun target h => hstep₁ _ fun acts => by rw [doInvoke_state]; exact hsteps.trans h⟩
end TRW
