/-! ===== THE TABLES' WORDS, as facts of a state that stand still: a contract's own list is its code alone ===== -/
def tb_ok (w : Cond) : Bool := match w with
  | .fieldLinkNest _ _ _ _ _ _ => true
  | .methodLinkNest _ _ _ _ => true
  | .castable _ _ => true
  | .declares _ => true
  | .arrayOver (.object _) => true
  | w => goodWord w
theorem tb_warm {w : Cond} {s U : State} (h : tb_ok w = true) (hW : s.WarmedH U.vm) (hZ : va_Nw w s) : va_Nw w U := by
  unfold tb_ok at h
  split at h
  · exact va_Nw.warmF hW hZ
  · exact va_Nw.warmM hW hZ
  · exact va_Nw.warmC hW hZ
  · exact va_Nw.warmD hW hZ
  · exact va_AO.moved hW.alike hZ
  · exact word_at (args := #[]) hW (good_of_word h) hZ
def TB (U : State) : Prop := ∀ w ∈ lw_tbl, tb_ok w = true → va_Nw w U
theorem TB_warm {s U : State} (hW : s.WarmedH U.vm) (h : TB s) : TB U := fun w hw ok => tb_warm ok hW (h w hw ok)
theorem tb_use {w : Cond} {s : State} {args : Array Value} (hT : TB s) (h : w ∈ lw_tbl) (ok : (tb_ok w && w.onTables) = true := by first | rfl | decide +kernel) : w.before args s = true := by
  rw [Bool.and_eq_true] at ok
  exact va_Nw.use ok.2 (hT w h ok.1)
theorem tb_list {ws : List Cond} {s : State} {args : Array Value} (hT : TB s) (h : ∀ w ∈ ws, w ∈ lw_tbl ∧ (tb_ok w && w.onTables) = true) : ∀ w ∈ ws, w.before args s = true := fun w hw => tb_use hT (h w hw).1 (h w hw).2
section TBC
variable {R : Room} {s : State} {args : Array Value} {own : String} {index : Nat} {y : MethodName} {bytes : ByteArray} {maxL : Nat} {ret : Option FieldType} {rm : Room} {mc ms : Nat}
theorem tb_code (hT : TB s) (h1 : Cond.code y bytes maxL ret ∈ lw_tbl) : ∀ w ∈ [Cond.code y bytes maxL ret], ∀ (a' : Array Value) (U : State), s.WarmedH U.vm → w.before a' U = true := by
  intro w hw a' U hW
  rw [List.mem_singleton.mp hw]
  exact tb_use (TB_warm hW hT) h1 rfl
theorem tb_cb (n : Nat) (hT : TB s) (h1 : Cond.code y bytes maxL ret ∈ lw_tbl) (h2 : Cond.initialized y.cls ∈ lw_tbl) (h3 : Cond.methodLink own index y ∈ lw_tbl) (hrc : rm.cells = mc) (hrs : rm.slots = ms)
    (hd : y.cls ≠ "java/lang/invoke/MethodHandle" ∧ y.cls ≠ "java/lang/invoke/VarHandle" ∧ (parseMethodDescriptor y.desc).map (fun d => d.parameters.length) = some n) (hR : rm.frames + 1 ≤ R.frames ∧ 8 + (maxL + 11) + rm.locals ≤ R.locals) :
    CallB R s args own index y bytes maxL ret [Cond.code y bytes maxL ret] rm mc ms n := by
  refine ⟨hrc, hrs, hR.1, hR.2, tb_code hT h1, List.mem_singleton.mpr rfl, tb_use hT h1 rfl, tb_use hT h2 rfl, ⟨hd.1, hd.2.1⟩, fun sig h => ?_, tb_use hT h3 rfl⟩
  have h2 := hd.2.2
  rw [h] at h2
  exact (Option.some.inj h2).symm
/-- a method of one's own class or a visible one -/
theorem tb_cw {C : String} (n : Nat) (hT : TB s) (h1 : Cond.code y bytes maxL ret ∈ lw_tbl) (h2 : Cond.initialized y.cls ∈ lw_tbl) (h3 : Cond.methodLink own index y ∈ lw_tbl) (h4 : Cond.instanceMethod y ∈ lw_tbl) (h5 : Cond.selects C y y ∈ lw_tbl) (hrc : rm.cells = mc) (hrs : rm.slots = ms)
    (hd : y.cls ≠ "java/lang/invoke/MethodHandle" ∧ y.cls ≠ "java/lang/invoke/VarHandle" ∧ (parseMethodDescriptor y.desc).map (fun d => d.parameters.length) = some n) (hR : rm.frames + 1 ≤ R.frames ∧ 8 + (maxL + 11) + rm.locals ≤ R.locals) :
    CallW R s args own C index y bytes maxL ret [Cond.code y bytes maxL ret] rm mc ms n := ⟨tb_cb n hT h1 h2 h3 hrc hrs hd hR, tb_use hT h4 rfl, tb_use hT h5 rfl⟩
theorem tb_cs (n : Nat) (hT : TB s) (h1 : Cond.code y bytes maxL ret ∈ lw_tbl) (h2 : Cond.initialized y.cls ∈ lw_tbl) (h3 : Cond.methodLink own index y ∈ lw_tbl) (h4 : Cond.static y ∈ lw_tbl) (hrc : rm.cells = mc) (hrs : rm.slots = ms)
    (hd : y.cls ≠ "java/lang/invoke/MethodHandle" ∧ y.cls ≠ "java/lang/invoke/VarHandle" ∧ (parseMethodDescriptor y.desc).map (fun d => d.parameters.length) = some n) (hR : rm.frames + 1 ≤ R.frames ∧ 8 + (maxL + 11) + rm.locals ≤ R.locals) :
    CallB R s args own index y bytes maxL ret [Cond.code y bytes maxL ret] rm mc ms n ∧ (Cond.static y).before args s = true := ⟨tb_cb n hT h1 h2 h3 hrc hrs hd hR, tb_use hT h4 rfl⟩
theorem tb_ci (n : Nat) (hT : TB s) (h1 : Cond.code y bytes maxL none ∈ lw_tbl) (h2 : Cond.initialized y.cls ∈ lw_tbl) (h3 : Cond.methodLink own index y ∈ lw_tbl) (h4 : Cond.instanceMethod y ∈ lw_tbl) (hy1 : y.name = "<init>") (hrc : rm.cells = mc) (hrs : rm.slots = ms)
    (hd : y.cls ≠ "java/lang/invoke/MethodHandle" ∧ y.cls ≠ "java/lang/invoke/VarHandle" ∧ (parseMethodDescriptor y.desc).map (fun d => d.parameters.length) = some n) (hR : rm.frames + 1 ≤ R.frames ∧ 8 + (maxL + 11) + rm.locals ≤ R.locals) :
    CallB R s args own index y bytes maxL none [Cond.code y bytes maxL none] rm mc ms n ∧ y.name = "<init>" ∧ (Cond.instanceMethod y).before args s = true := ⟨tb_cb n hT h1 h2 h3 hrc hrs hd hR, hy1, tb_use hT h4 rfl⟩
/-- a nest mate's -/
theorem tb_cn {host : String} (n : Nat) (hT : TB s) (h1 : Cond.code y bytes maxL ret ∈ lw_tbl) (h2 : Cond.initialized y.cls ∈ lw_tbl) (h3 : Cond.methodLinkNest own index y host ∈ lw_tbl) (hrc : rm.cells = mc) (hrs : rm.slots = ms)
    (hd : y.cls ≠ "java/lang/invoke/MethodHandle" ∧ y.cls ≠ "java/lang/invoke/VarHandle" ∧ (parseMethodDescriptor y.desc).map (fun d => d.parameters.length) = some n) (hR : rm.frames + 1 ≤ R.frames ∧ 8 + (maxL + 11) + rm.locals ≤ R.locals) :
    va_CN R s args own index y host bytes maxL ret [Cond.code y bytes maxL ret] rm mc ms n := by
  refine ⟨⟨hrc, hrs, hR.1, hR.2, tb_code hT h1, List.mem_singleton.mpr rfl⟩, tb_use hT h1 rfl, tb_use hT h2 rfl, ⟨hd.1, hd.2.1⟩, fun sig h => ?_, tb_use hT h3 rfl⟩
  have h2 := hd.2.2
  rw [h] at h2
  exact (Option.some.inj h2).symm
end TBC
