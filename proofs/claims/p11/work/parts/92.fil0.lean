/-! ===== an edition begins; another ground; where tokens start ===== -/
section

variable {cy : Nat → ClassId} {e0 : Nat} {tk : Nat → Nat} {G0 G1 : Nat → Option va_E} {Bx Bx1 : Nat → Prop} {G G2 : Nat → Option va_E} {v : EdV} {z : PtV} {LA EA : Nat → Nat} {AD : Nat → Nat → Nat} {PI : Nat → Nat}
theorem LSS.base {lv : Nat → Prop} {LN : Nat → Nat} {FS : Nat → Nat → List Value} (h : LSS cy e0 G0 Bx G lv LA EA LN AD FS) (hn : ∀ x, G0 x = none → G1 x = none) (hfl : ∀ k, lv k → G1 (LA k) = none ∨ Bx1 (LA k)) (hal : ∀ x e, G1 x = some e → ∃ e', G x = some e') (hfr : ∀ x e, G1 x = some e → ¬ Bx1 x → G x = some e) : LSS cy e0 G1 Bx1 G lv LA EA LN AD FS :=
  ⟨h.ls, h.el, h.la, h.ea, h.ad, hfl, fun k hk n => hn _ (h.fe k hk n), fun k i hk hi => hn _ (h.fa k i hk hi), hal, hfr⟩
theorem EDP.base (h : EDP cy e0 tk G0 Bx G v z LA EA AD PI) (hn : ∀ x, G0 x = none → G1 x = none) (hfl : ∀ k, lvV v k → G1 (LA k) = none ∨ Bx1 (LA k)) (hal : ∀ x e, G1 x = some e → ∃ e', G x = some e') (hfr : ∀ x e, G1 x = some e → ¬ Bx1 x → G x = some e) : EDP cy e0 tk G1 Bx1 G v z LA EA AD PI :=
  ⟨h.L.base hn hfl hal hfr, h.b, h.sl, h.pi, fun i hi => hn _ (h.pn i hi), h.pj⟩
/-- another memory in which all that belongs to the edition stands -/
theorem EDP.mvG (h : EDP cy e0 tk G0 Bx G v z LA EA AD PI) (Wx : Nat → Prop) (hWB : ∀ x, Wx x → Bx x) (hWl : ∀ k, lvV v k → ¬ Wx (LA k)) (hWe : ∀ k, lvV v k → 1 ≤ lnV v k → ¬ Wx (EA k)) (hWa : ∀ k i, lvV v k → i < lnV v k → ¬ Wx (AD k i)) (hWp : ∀ i, i < v.nJ → ¬ Wx (PI i)) (hWs : ∀ x, Wx x → ∃ e, G2 x = some e) (hf : ∀ x e, G x = some e → ¬ Wx x → G2 x = some e) : EDP cy e0 tk G0 Bx G2 v z LA EA AD PI :=
  ⟨h.L.mv Wx hWB hWl hWe hWa hWs hf, h.b, h.sl, fun i hi => hf _ _ (h.pi i hi) (hWp i hi), h.pn, h.pj⟩
/-- a row of longs that is no pile is none of the edition's -/
theorem EDP.nW (h : EDP cy e0 tk G0 Bx G v z LA EA AD PI) {na n : Nat} {y : ClassId} {nv : Nat → Int64} (h0 : G na = some (.inl (y, n, .inr (.inl nv)))) (hn : n ≠ 16) : (∀ k, lvV v k → ¬ LA k = na) ∧ (∀ k, lvV v k → 1 ≤ lnV v k → ¬ EA k = na) ∧ (∀ k i, lvV v k → i < lnV v k → ¬ AD k i = na) ∧ (∀ i, i < v.nJ → ¬ PI i = na) :=
  ⟨fun k hk => LiS.nal (h.L.ls k hk) h0, fun k hk n => Ne.symm (LiS.nar (h.L.ls k hk) n h0 (by intro gv9 z; have z2 := (Prod.mk.inj (Prod.mk.inj (Sum.inl.inj z)).2).2; cases z2)), fun k i hk hi => mm_ne_oa (h.L.el k i hk hi) h0, fun i hi => mm_ne_n (h.pi i hi) h0 (Ne.symm hn)⟩
theorem lnV_nil (k : Nat) : lnV EdV.nil k = 0 := by
  unfold lnV
  repeat' split
  all_goals rfl
theorem lvV_nil {k : Nat} (h : lvV EdV.nil k) : k < 6 := by
  rcases h with h | ⟨h1, h2⟩ | ⟨h1, h2⟩ | ⟨h1, h2⟩
  · exact h
  · have : k < 6 + 0 := h2
    omega
  · have : k < 20 + 0 := h2
    omega
  · have : k < 40 + 0 := h2
    omega
theorem EDP.start (hls : ∀ k, k < 6 → LiS cy e0 G (LA k) e0 0 (AD k)) (hla : ∀ k k', k < 6 → k' < 6 → LA k = LA k' → k = k') (hB : ∀ k, k < 6 → Bx (LA k)) : EDP cy e0 tk G Bx G EdV.nil PtV.nil LA (fun _ => e0) AD PI := by
  refine ⟨⟨?_, ?_, ?_, ?_, ?_, ?_, ?_, ?_, ?_, ?_⟩, ?_, ?_, ?_, ?_, ?_⟩
  · intro k hk; rw [lnV_nil]; exact hls k (lvV_nil hk)
  · intro k i hk hi; rw [lnV_nil] at hi; exact absurd hi (Nat.not_lt_zero i)
  · intro k k' hk hk' e; exact hla k k' (lvV_nil hk) (lvV_nil hk') e
  · intro k k' hk hk' n; rw [lnV_nil] at n; exact absurd n (by omega)
  · intro k i k' i' hk hk' hi; rw [lnV_nil] at hi; exact absurd hi (Nat.not_lt_zero i)
  · intro k hk; exact Or.inr (hB k (lvV_nil hk))
  · intro k hk n; rw [lnV_nil] at n; exact absurd n (by omega)
  · intro k i hk hi; rw [lnV_nil] at hi; exact absurd hi (Nat.not_lt_zero i)
  · intro x e h; exact ⟨e, h⟩
  · intro x e h _; exact h
  · decide
  · intro i hi; exact absurd hi (Nat.not_lt_zero i)
  · intro i hi; exact absurd hi (Nat.not_lt_zero i)
  · intro i hi; exact absurd hi (Nat.not_lt_zero i)
  · intro i j hi; exact absurd hi (Nat.not_lt_zero i)
end
theorem c1R_S {f : Nat → Int32} {a en : Nat} (h : a < en) : ∃ m, m ≤ en + 12 ∧ (c1R f a en).1.2.1 = nI m := by
  unfold c1R
  split
  · unfold nmR
    split
    · exact ⟨a + 12, by omega, rfl⟩
    · exact ⟨a, by omega, rfl⟩
  · split
    · unfold cnR
      split
      · exact ⟨a + 6, by omega, rfl⟩
      · rename_i j hj
        have := cutN_le hj
        split
        · exact ⟨a + j, by omega, rfl⟩
        · exact ⟨a, by omega, rfl⟩
    · split
      · exact ⟨a, by omega, rfl⟩
      · exact ⟨a, by omega, rfl⟩
theorem cutL_S {f : Nat → Int32} {en : Nat} : ∀ {n : Nat} {x : CuS}, (∀ j, ∃ m, m ≤ en + 12 ∧ x.2.2.2.1 j = nI m) → ∀ j, ∃ m, m ≤ en + 12 ∧ (cutL f en n x).2.2.2.1 j = nI m := by
  intro n
  induction n with
  | zero => intro x h; exact h
  | succ n ih =>
    intro x h
    rw [cutL]
    split
    · rename_i h1
      split
      · exact ih h
      · refine ih (fun j => ?_)
        show ∃ m, m ≤ en + 12 ∧ kup x.2.2.2.1 x.2.1 (c1R f x.1 en).1.2.1 j = nI m
        unfold kup
        split
        · exact c1R_S h1
        · exact h j
    · exact h
theorem tkS_ok {f : Nat → Int32} {en : Nat} (j : Nat) : ∃ m, m ≤ en + 12 ∧ tkS f en j = nI m := by
  unfold tkS kup
  split
  · exact ⟨en, by omega, rfl⟩
  · exact cutL_S (fun _ => ⟨0, by omega, rfl⟩) j
theorem tkS_ge {f : Nat → Int32} {en : Nat} (h : en ≤ 2000) (j : Nat) : ¬ tkS f en j < 0 := by
  obtain ⟨m, h1, h2⟩ := @tkS_ok f en j
  rw [h2]
  exact nI_pos (by omega)
theorem sw_ok : ∀ i, i < 35 → (swL.getD i 0 = 1 ↔ i = 11) ∧ (swL.getD i 0 = 2 ↔ i = 16) ∧ (swL.getD i 0 = 3 ↔ i = 22) ∧ (swL.getD i 0 = 4 ↔ i = 23) ∧ (swL.getD i 0 = 5 ↔ i = 24) := by decide +kernel
theorem i32_of {x : Int32} {n : Nat} (hn : n < 2 ^ 31) (h : x.toInt = n) : x = nI n := by
  apply Int32.toInt_inj.mp
  rw [h]
  exact (nI_toInt hn).symm
section

variable {K : Nat → Nat} {S : Nat → Int32} {V : Nat → Int64}
theorem co_C {v : EdV} {x : (Int32 × Int64 × Int32) × (Int32 × Int32 × Int64 × Int64 × Int64) × (Nat × (Nat → RwD))} : coC (v.addC x) = coC v + 21 ∧ coS (v.addC x) = coS v + (68 + gco v.nC) := by
  unfold coC coS
  simp only [addC_nC, addC_nL, addC_nS, addC_nE, addC_nV, addC_nJ, gs]
  omega
theorem co_E {v : EdV} {x : RwD} : coC (v.addE x) = coC v + 2 ∧ coS (v.addE x) = coS v + (5 + gco v.nE) := by
  unfold coC coS
  simp only [addE_nC, addE_nL, addE_nS, addE_nE, addE_nV, addE_nJ, gs]
  omega
theorem co_V {v : EdV} {x : RwD} : coC (v.addV x) = coC v + 2 ∧ coS (v.addV x) = coS v + (5 + gco v.nV) := by
  unfold coC coS
  simp only [addV_nC, addV_nL, addV_nS, addV_nE, addV_nV, addV_nJ, gs]
  omega
theorem co_J {v : EdV} {x : (Int32 × Int64) × (Nat × (Nat → OpD))} : coC (v.addJ x) = coC v + 166 ∧ coS (v.addJ x) = coS v + (1064 + gco v.nJ) := by
  unfold coC coS
  simp only [addJ_nC, addJ_nL, addJ_nS, addJ_nE, addJ_nV, addJ_nJ, gs]
  omega
theorem co_L {v : EdV} {q : Nat × Int32} : coC (q_lay K S V v q).1 = coC v + (2 + 21 * ((q_lay K S V v q).1.nS - v.nS)) ∧ coS (q_lay K S V v q).1 = coS v + (28 + 176 * ((q_lay K S V v q).1.nS - v.nS)) := by
  obtain ⟨h1, h2, h3, h4⟩ := @q_lay_o K S V v q
  have hL := @q_lay_nL K S V v q
  have hM := @q_lay_nS K S V v q
  unfold coC coS
  rw [h1, h2, h3, h4, hL]
  omega
end
/-- a method that another class declares -/
theorem tb_cU {R : Room} {s : State} {args : Array Value} {own : String} {index : Nat} {y : MethodName} {bytes : ByteArray} {maxL : Nat} {ret : Option FieldType} {rm : Room} {mc ms : Nat} {C owner : String} {x : MethodName} (n : Nat) (hT : TB s) (h1 : Cond.code y bytes maxL ret ∈ lw_tbl) (h2 : Cond.initialized y.cls ∈ lw_tbl) (h3 : Cond.methodLink own index x ∈ lw_tbl) (h4 : Cond.instanceMethod y ∈ lw_tbl) (h5 : Cond.selects C x y ∈ lw_tbl) (h6 : Cond.sameMethod x.cls owner x.name x.desc ∈ lw_tbl) (hyx : y = ⟨owner, x.name, x.desc⟩) (hrc : rm.cells = mc) (hrs : rm.slots = ms)
    (hd : owner ≠ "java/lang/invoke/MethodHandle" ∧ owner ≠ "java/lang/invoke/VarHandle" ∧ (parseMethodDescriptor x.desc).map (fun d => d.parameters.length) = some n) (hR : rm.frames + 1 ≤ R.frames ∧ 8 + (maxL + 11) + rm.locals ≤ R.locals) :
    va_CU R s args own C owner index x y bytes maxL ret [Cond.code y bytes maxL ret] rm mc ms n := by
  refine ⟨⟨hrc, hrs, hR.1, hR.2, tb_code hT h1, List.mem_singleton.mpr rfl⟩, tb_use hT h1 rfl, tb_use hT h2 rfl, ⟨hd.1, hd.2.1⟩, fun sig h => ?_, tb_use hT h3 rfl, tb_use hT h6 rfl, by rw [← hyx]; exact va_Decl.of (args := args) (tb_use hT h4 rfl) (tb_use hT h1 rfl), tb_use hT h5 rfl, tb_use hT h4 rfl⟩
  have h2 := hd.2.2
  rw [h] at h2
  exact (Option.some.inj h2).symm
