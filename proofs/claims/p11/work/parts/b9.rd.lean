/-- a name's number in a table of m names; 0 where there is none -/
def NMr (m : Nat) (nv : Nat → Int64) (r : Int32) (x : Int64) : Prop := (r = 0 ∧ x = 0) ∨ (x ≠ 0 ∧ ∃ j, j < m ∧ r = nI (j + 1) ∧ nv j = x)

theorem c_M_nextq (l : Launch) (D : va_G) (cy : Nat → ClassId) (A : Nat → Prop) (X : State → Prop) (hst : mk_St A X) (hXT : ∀ U : State, X U → TB U) (G : Nat → Option va_E) (o : Nat) (Ar : Nat → Nat) (Iv : Nat → Int32) (F : Nat → Nat → Int32) (L : Nat → Nat → Int64) (ft : Nat → Int32) (sx fr en bo : Nat) (q : Nat × Int32) (hM : MD cy G o Ar Iv F L) (hQ : LXq Ar Iv F ft sx fr en bo q) (hq : q.2 < 0) (h2 : tkK ft en q.1 ≠ 2) (h3 : tkK ft en q.1 ≠ 3) : Met l yX14_next [.code yX14_next cX14_next 4 none] ({ frames := 3, cells := 0, slots := 0, locals := 90 }) (mk_Pre D vwCl (tyL cy) A X G [.ref o]) (va_Qv (fun (G2 : Nat → Option va_E) => ∃ (I2 : Nat → Int32) (F2 : Nat → Nat → Int32), MD cy G2 o Ar I2 F2 L ∧ MF G G2 o Ar ∧ LXq Ar I2 F2 ft sx fr en bo (q.1 + 1, q.2) ∧ IX I2 = IX Iv ∧ FX F2 = FX F) (mk_B D vwCl A) A) 0 0 A := by
  obtain ⟨p0, hp⟩ := hQ.nx h2 h3
  exact c_M_next l D cy A X hst hXT G o Ar Iv F L ft sx fr en bo (q.1 + 1) p0 q.2 hM hp (by rw [hQ.good, if_pos hq]) hq

set_option maxHeartbeats 4000000 in
set_option maxRecDepth 100000 in
theorem c_M_wants (l : Launch) (D : va_G) (cy : Nat → ClassId) (A : Nat → Prop) (X : State → Prop) (hst : mk_St A X) (hXT : ∀ U : State, X U → TB U) (G : Nat → Option va_E) (o : Nat) (Ar : Nat → Nat) (Iv : Nat → Int32) (F : Nat → Nat → Int32) (L : Nat → Nat → Int64) (ft : Nat → Int32) (sx fr en bo : Nat) (q : Nat × Int32) (b9 : Bool) (hM : MD cy G o Ar Iv F L) (hQ : LXq Ar Iv F ft sx fr en bo q) (hnx : b9 = true → q.2 < 0 → tkK ft en q.1 ≠ 2 ∧ tkK ft en q.1 ≠ 3) : Met l yX14_wants [.code yX14_wants cX14_wants 2 (some .boolean)] ({ frames := 4, cells := 0, slots := 0, locals := 120 }) (mk_Pre D vwCl (tyL cy) A X G [.ref o, .int (b2i b9)]) (va_Qi (fun (r : Int32) (G2 : Nat → Option va_E) => r = b2i (decide ((wtQ (tkS ft en) b9 q).2 < 0)) ∧ ∃ (I2 : Nat → Int32) (F2 : Nat → Nat → Int32), MD cy G2 o Ar I2 F2 L ∧ MF G G2 o Ar ∧ LXq Ar I2 F2 ft sx fr en bo (wtQ (tkS ft en) b9 q) ∧ IX I2 = IX Iv ∧ FX F2 = FX F) (mk_B D vwCl A) A) 0 0 A := by
  refine Met.ofW (cc := cX14_wants) (maxL := 2) (ret := (some .boolean)) (by decide) rfl ?_
  intro p e s m args below meth c s₁ B hml hv
  obtain ⟨rfl, hG, hK, hA, hX⟩ := hv
  have hx := B.exec
  have hb := B.bytes
  have hr := B.returns
  have hlocks := B.notSynchronized
  have hT := hXT s hX
  have hown : s.vm.findClass RX14 = some m.cls := findClass_of_methodNamed B.named
  have hf_X14 : ∀ w ∈ u_ws RX14 TX14 76, w.before ([.ref o, .int (b2i b9)] : List Value).toArray s = true := tb_list hT fX14
  have hS : va_S A s.heap s.heap [] := va_S.rf
  have hl := lv_entry ([.ref o, .int (b2i b9)]) (n := 2) (Nat.le_of_ble_eq_true rfl)
  rw [lg_entry_eq]
  generalize (lg_sl ([.ref o, .int (b2i b9)]) ++ List.replicate (2 - (lg_sl ([.ref o, .int (b2i b9)])).length) Slot.unset).toArray = ls at hl ⊢
  have hl : lv_has ls 2 [(0, .ref o), (1, .int (b2i b9))] := hl
  have hF : MF G G o Ar := MF.rf
  refine lv_aload_n hx hb dX14_wants_0 rfl (lv_at hl 0 rfl) ?_
  refine lv_aload_n hx hb dX14_wants_1 rfl (lv_at hl 0 rfl) ?_
  refine mm_get (v := .int (Iv 55)) hx hb hf_X14 (fun _ h9 => h9) hown hK hG hM.1 rfl 55 (by decide) (tb_use hT tw_1446) (fun _ h9 => h9) (mfs_g55 _ _) dX14_wants_2 ?_
  refine lv_if_eq (tgt := 16) hx hb dX14_wants_5 (by decide) (fun c_5 => ?_) (fun c_5 => ?_)
  · skip
    refine lv_iconst (v := 0) hx hb dX14_wants_16 (by decide) ?_
    refine mm_put (v := .int 0) (ty := .boolean) hx hb hf_X14 (fun _ h9 => h9) tyX14 tyX14_ok nmX14 hown hK hG hS hM.1 rfl 55 (by decide) (tb_use hT tw_1446) (fun _ h9 => h9) rfl (by decide +kernel) rfl rfl (mfs_l55 _ _) dX14_wants_17 (fun H locs hG hS => ?_)
    have hM := MD.puti (k := 55) (v := 0) hM (mfs_s55 _ _ _)
    have hF := hF.wo (e' := .inr (15, (mfs Ar Iv).set 55 (.int 0)))
    obtain ⟨I1, eI1⟩ : ∃ g, g = upd Iv 55 0 := ⟨_, rfl⟩
    rw [← eI1] at hM
    have hgn := gn_MD hG hM hF
    clear hG hM hF
    obtain ⟨G2, hG, hM, hF⟩ := hgn
    refine lv_aload_n hx hb dX14_wants_20 rfl (lv_at hl 0 rfl) ?_
    refine mm_get (v := .int 0) hx hb hf_X14 (fun _ h9 => h9) hown hK hG hM.1 rfl 55 (by decide) (tb_use hT tw_1446) (fun _ h9 => h9) (by rw [mfs_g55, eI1] <;> rfl) dX14_wants_21 ?_
    refine lv_if_eq (tgt := 31) hx hb dX14_wants_24 (by decide) (fun c_24 => ?_) (fun c_24 => ?_)
    · skip
      refine lv_aload_n hx hb dX14_wants_31 rfl (lv_at hl 0 rfl) ?_
      refine mm_get (v := .int 0) hx hb hf_X14 (fun _ h9 => h9) hown hK hG hM.1 rfl 55 (by decide) (tb_use hT tw_1446) (fun _ h9 => h9) (by rw [mfs_g55, eI1] <;> rfl) dX14_wants_32 ?_
      have hq : ¬ q.2 < 0 := fun z => (hQ.g1.mpr z) c_5
      have hw9 : wtQ (tkS ft en) b9 q = (q.1, q.2) := by unfold wtQ fl; rw [if_neg hq, if_neg hq]; split <;> rfl
      exact W.zret (v := 0) hx hb hr rfl (fun t ht hW => ⟨⟨_, _, rfl, ⟨(by rw [hw9, decide_eq_false hq]; rfl), I1, F, hM, hF, (by rw [hw9, eI1]; exact hQ.set55 (by rw [if_neg hq])), (by rw [eI1, IX_up (by decide)]), rfl⟩, mk_end hG ht⟩, hS.F ht⟩) hS.2.2 dX14_wants_35
    · skip
      exact absurd (by decide) c_24
  · skip
    refine lv_iload_n hx hb dX14_wants_8 rfl (lv_at hl 1 rfl) ?_
    refine lv_if_eq (tgt := 16) hx hb dX14_wants_9 (by decide) (fun c_9 => ?_) (fun c_9 => ?_)
    · skip
      refine lv_iconst (v := 0) hx hb dX14_wants_16 (by decide) ?_
      refine mm_put (v := .int 0) (ty := .boolean) hx hb hf_X14 (fun _ h9 => h9) tyX14 tyX14_ok nmX14 hown hK hG hS hM.1 rfl 55 (by decide) (tb_use hT tw_1446) (fun _ h9 => h9) rfl (by decide +kernel) rfl rfl (mfs_l55 _ _) dX14_wants_17 (fun H locs hG hS => ?_)
      have hM := MD.puti (k := 55) (v := 0) hM (mfs_s55 _ _ _)
      have hF := hF.wo (e' := .inr (15, (mfs Ar Iv).set 55 (.int 0)))
      obtain ⟨I3, eI3⟩ : ∃ g, g = upd Iv 55 0 := ⟨_, rfl⟩
      rw [← eI3] at hM
      have hgn := gn_MD hG hM hF
      clear hG hM hF
      obtain ⟨G4, hG, hM, hF⟩ := hgn
      refine lv_aload_n hx hb dX14_wants_20 rfl (lv_at hl 0 rfl) ?_
      refine mm_get (v := .int 0) hx hb hf_X14 (fun _ h9 => h9) hown hK hG hM.1 rfl 55 (by decide) (tb_use hT tw_1446) (fun _ h9 => h9) (by rw [mfs_g55, eI3] <;> rfl) dX14_wants_21 ?_
      refine lv_if_eq (tgt := 31) hx hb dX14_wants_24 (by decide) (fun c_24 => ?_) (fun c_24 => ?_)
      · skip
        refine lv_aload_n hx hb dX14_wants_31 rfl (lv_at hl 0 rfl) ?_
        refine mm_get (v := .int 0) hx hb hf_X14 (fun _ h9 => h9) hown hK hG hM.1 rfl 55 (by decide) (tb_use hT tw_1446) (fun _ h9 => h9) (by rw [mfs_g55, eI3] <;> rfl) dX14_wants_32 ?_
        have hq : q.2 < 0 := hQ.g1.mp c_5
        have hw9 : wtQ (tkS ft en) b9 q = (q.1, tkS ft en q.1) := by unfold wtQ fl; rw [if_neg (by rw [b2i_f c_9]; exact Bool.false_ne_true), if_pos hq]
        exact W.zret (v := 0) hx hb hr rfl (fun t ht hW => ⟨⟨_, _, rfl, ⟨(by rw [hw9, decide_eq_false hQ.Sn]; rfl), I3, F, hM, hF, (by rw [hw9, eI3]; exact hQ.set55 (by rw [if_neg hQ.Sn])), (by rw [eI3, IX_up (by decide)]), rfl⟩, mk_end hG ht⟩, hS.F ht⟩) hS.2.2 dX14_wants_35
      · skip
        exact absurd (by decide) c_24
    · skip
      refine lv_iconst (v := 1) hx hb dX14_wants_12 (by decide) ?_
      refine lv_goto (tgt := 17) hx hb dX14_wants_13 (by decide) ?_
      refine mm_put (v := .int 1) (ty := .boolean) hx hb hf_X14 (fun _ h9 => h9) tyX14 tyX14_ok nmX14 hown hK hG hS hM.1 rfl 55 (by decide) (tb_use hT tw_1446) (fun _ h9 => h9) rfl (by decide +kernel) rfl rfl (mfs_l55 _ _) dX14_wants_17 (fun H locs hG hS => ?_)
      have hM := MD.puti (k := 55) (v := 1) hM (mfs_s55 _ _ _)
      have hF := hF.wo (e' := .inr (15, (mfs Ar Iv).set 55 (.int 1)))
      obtain ⟨I5, eI5⟩ : ∃ g, g = upd Iv 55 1 := ⟨_, rfl⟩
      rw [← eI5] at hM
      have hgn := gn_MD hG hM hF
      clear hG hM hF
      obtain ⟨G6, hG, hM, hF⟩ := hgn
      refine lv_aload_n hx hb dX14_wants_20 rfl (lv_at hl 0 rfl) ?_
      refine mm_get (v := .int 1) hx hb hf_X14 (fun _ h9 => h9) hown hK hG hM.1 rfl 55 (by decide) (tb_use hT tw_1446) (fun _ h9 => h9) (by rw [mfs_g55, eI5] <;> rfl) dX14_wants_21 ?_
      refine lv_if_eq (tgt := 31) hx hb dX14_wants_24 (by decide) (fun c_24 => ?_) (fun c_24 => ?_)
      · skip
        exact absurd c_24 (by decide)
      · skip
        refine lv_aload_n hx hb dX14_wants_27 rfl (lv_at hl 0 rfl) ?_
        have hq : q.2 < 0 := hQ.g1.mp c_5
        have hb1 : b9 = true := b2i_t c_9
        have hk := hnx hb1 hq
        have hQ1 : LXq Ar I5 F ft sx fr en bo (q.1, q.2) := by rw [eI5]; exact hQ.set55 (by rw [if_pos hq])
        have hIX : IX I5 = IX Iv := by rw [eI5, IX_up (by decide)]
        have hFX : FX F = FX F := rfl
        have hw9 : wtQ (tkS ft en) b9 q = (q.1 + 1, q.2) := by unfold wtQ; rw [if_pos hb1, if_pos hq]
        refine va_callv (va_runV (As := []) (rest := []) ⟨hx, hb, hml, hown, (fun _ h9 => absurd h9 List.not_mem_nil : ∀ w ∈ ([] : List Cond), w.before _ s = true)⟩ (c_M_nextq l D cy A X hst hXT G6 o Ar I5 F L ft sx fr en bo (q.1, q.2) hM hQ1 hq hk.1 hk.2) (tb_cw (C := RX14) 0 hT tw_1640 tw_109 tw_1637 tw_1639 tw_62 rfl rfl hq_X14_next ⟨Nat.le_of_ble_eq_true rfl, Nat.le_of_ble_eq_true rfl⟩) (mk_preC hst hG hK hA hX hS vc_15 hM.1) rfl rfl hl.1 rfl (lv_room (Nat.le_of_ble_eq_true rfl)) dX14_wants_28 ⟨Nat.le_of_ble_eq_true rfl, Nat.le_of_ble_eq_true rfl⟩) hS (fun q _ h => h) (fun q h => h) (fun  G7 t H locs ht hvm hw hB hz1 hk1 hS => ?_)
        have hG : mm D vwCl A G7 H := by rw [← ht]; exact hB
        clear hB hz1 hk1 hvm ht
        obtain ⟨I8, F9, hM2, hF2, hQ2, hI2, hX2⟩ := hw
        replace hF := hF.tr hF2
        replace hM := hM2; clear hM2 hF2
        have hQ := hQ2; clear hQ2
        have hIX := hI2.trans hIX; have hFX := hX2.trans hFX; clear hI2 hX2
        refine lv_aload_n hx hb dX14_wants_31 rfl (lv_at hl 0 rfl) ?_
        refine mm_get (v := .int (I8 55)) hx hb hf_X14 (fun _ h9 => h9) hown hK hG hM.1 rfl 55 (by decide) (tb_use hT tw_1446) (fun _ h9 => h9) (mfs_g55 _ _) dX14_wants_32 ?_
        rw [show (I8 55) = 1 by rw [hQ.good, if_pos hq]]
        exact W.zret (v := 1) hx hb hr rfl (fun t ht hW => ⟨⟨_, _, rfl, ⟨(by rw [hw9, decide_eq_true hq]; rfl), I8, F9, hM, hF, (by rw [hw9]; exact hQ), hIX, hFX⟩, mk_end hG ht⟩, hS.F ht⟩) hS.2.2 dX14_wants_35

theorem ntL_p1 {K : Nat → Nat} {V : Nat → Int64} {n : Nat} : (ntL K V n).1 ≤ (ntL K V (n + 1)).1 ∧ ∀ j, j < (ntL K V n).1 → (ntL K V (n + 1)).2 j = (ntL K V n).2 j := by
  rw [ntL]
  split
  · exact ⟨Nat.le_succ _, fun j hj => by dsimp only; rw [kup, if_neg (by omega)]⟩
  · exact ⟨Nat.le_refl _, fun _ _ => rfl⟩
theorem ntL_pre {K : Nat → Nat} {V : Nat → Int64} {n : Nat} : ∀ {m : Nat}, n ≤ m → (ntL K V n).1 ≤ (ntL K V m).1 ∧ ∀ j, j < (ntL K V n).1 → (ntL K V m).2 j = (ntL K V n).2 j := by
  intro m
  induction m with
  | zero => intro h; rw [show n = 0 by omega]; exact ⟨Nat.le_refl _, fun _ _ => rfl⟩
  | succ m ih =>
    intro h
    by_cases e : n = m + 1
    · rw [e]; exact ⟨Nat.le_refl _, fun _ _ => rfl⟩
    · obtain ⟨h1, h2⟩ := ih (by omega)
      obtain ⟨h3, h4⟩ := @ntL_p1 K V m
      exact ⟨Nat.le_trans h1 h3, fun j hj => (h4 j (by omega)).trans (h2 j hj)⟩
/-- a name's number in the table of the first n tokens -/
def NMt (K : Nat → Nat) (V : Nat → Int64) (n : Nat) (r : Int32) (x : Int64) : Prop := NMr (ntL K V n).1 (ntL K V n).2 r x
theorem NMt.mono {K : Nat → Nat} {V : Nat → Int64} {n m : Nat} {r : Int32} {x : Int64} (h : NMt K V n r x) (hm : n ≤ m) : NMt K V m r x := by
  obtain ⟨h1, h2⟩ := @ntL_pre K V n m hm
  rcases h with h | ⟨h0, j, a1, a2, a3⟩
  · exact Or.inl h
  · exact Or.inr ⟨h0, j, by omega, a2, (h2 j a1).trans a3⟩
theorem NMt.z {K : Nat → Nat} {V : Nat → Int64} {n : Nat} : NMt K V n 0 0 := Or.inl ⟨rfl, rfl⟩
theorem i64_le {a b : Nat} (ha : a < 2 ^ 63) (hb : b < 2 ^ 63) : Int64.ofNat a ≤ Int64.ofNat b ↔ a ≤ b := by
  rw [Int64.le_iff_toInt_le, i64_on ha, i64_on hb]
  omega
theorem i64_32 {n : Nat} (h : n < 2 ^ 31) : (Int64.ofNat n).toInt32 = nI n := by
  apply Int32.toInt_inj.mp
  rw [Int64.toInt_toInt32, i64_on (by omega), nI_toInt h]
  apply Int.bmod_eq_of_le_mul_two <;> omega
section

variable {Ar : Nat → Nat} {Iv : Nat → Int32} {F : Nat → Nat → Int32} {ft : Nat → Int32} {sx fr en bo : Nat} {q : Nat × Int32}
theorem LXq.nmv (h : LXq Ar Iv F ft sx fr en bo q) (hk : tkK ft en q.1 = 0) : NMt (tkK ft en) (tkV ft en) (q.1 + 1) (Iv 53) (tkV ft en q.1) := by
  rcases h.kd with ⟨h1, h2, h0, j, a1, a2, a3⟩ | ⟨h1, _⟩ | ⟨h1, _⟩ | ⟨h1, _⟩ | ⟨h1, _⟩ | ⟨h1, _⟩
  · exact Or.inr ⟨h0, j, a1, a2, a3⟩
  all_goals (exfalso; omega)
theorem LXq.nuv (h : LXq Ar Iv F ft sx fr en bo q) (hk : tkK ft en q.1 = 1) : ∃ n : Nat, n < 1000000 ∧ Iv 53 = nI n ∧ tkV ft en q.1 = Int64.ofNat n := by
  rcases h.kd with ⟨h1, _⟩ | ⟨h1, h2, n, a1, a2, a3⟩ | ⟨h1, _⟩ | ⟨h1, _⟩ | ⟨h1, _⟩ | ⟨h1, _⟩
  · exfalso; omega
  · exact ⟨n, a1, a2, a3⟩
  all_goals (exfalso; omega)
end

set_option maxHeartbeats 4000000 in
set_option maxRecDepth 100000 in
theorem c_M_word (l : Launch) (D : va_G) (cy : Nat → ClassId) (A : Nat → Prop) (X : State → Prop) (hst : mk_St A X) (hXT : ∀ U : State, X U → TB U) (G : Nat → Option va_E) (o : Nat) (Ar : Nat → Nat) (Iv : Nat → Int32) (F : Nat → Nat → Int32) (L : Nat → Nat → Int64) (ft : Nat → Int32) (sx fr en bo : Nat) (q : Nat × Int32) (w9 : Nat) (hM : MD cy G o Ar Iv F L) (hQ : LXq Ar Iv F ft sx fr en bo q) (hw1 : 1 ≤ w9) (hw2 : w9 < 25) : Met l yX14_word [.code yX14_word cX14_word 3 none] ({ frames := 5, cells := 0, slots := 0, locals := 150 }) (mk_Pre D vwCl (tyL cy) A X G [.ref o, .int (nI w9)]) (va_Qv (fun (G2 : Nat → Option va_E) => ∃ (I2 : Nat → Int32) (F2 : Nat → Nat → Int32), MD cy G2 o Ar I2 F2 L ∧ MF G G2 o Ar ∧ LXq Ar I2 F2 ft sx fr en bo (q_take (tkK ft en) (tkS ft en) (w9 + 10) q) ∧ IX I2 = IX Iv ∧ FX F2 = FX F) (mk_B D vwCl A) A) 0 0 A := by
  refine Met.ofW (cc := cX14_word) (maxL := 3) (ret := none) (by decide) rfl ?_
  intro p e s m args below meth c s₁ B hml hv
  obtain ⟨rfl, hG, hK, hA, hX⟩ := hv
  have hx := B.exec
  have hb := B.bytes
  have hr := B.returns
  have hlocks := B.notSynchronized
  have hT := hXT s hX
  have hown : s.vm.findClass RX14 = some m.cls := findClass_of_methodNamed B.named
  have hf_X14 : ∀ w ∈ u_ws RX14 TX14 76, w.before ([.ref o, .int (nI w9)] : List Value).toArray s = true := tb_list hT fX14
  have hS : va_S A s.heap s.heap [] := va_S.rf
  have hl := lv_entry ([.ref o, .int (nI w9)]) (n := 3) (Nat.le_of_ble_eq_true rfl)
  rw [lg_entry_eq]
  generalize (lg_sl ([.ref o, .int (nI w9)]) ++ List.replicate (3 - (lg_sl ([.ref o, .int (nI w9)])).length) Slot.unset).toArray = ls at hl ⊢
  have hl : lv_has ls 3 [(0, .ref o), (1, .int (nI w9))] := hl
  have hF : MF G G o Ar := MF.rf
  refine lv_aload_n hx hb dX14_word_0 rfl (lv_at hl 0 rfl) ?_
  refine lv_aload_n hx hb dX14_word_1 rfl (lv_at hl 0 rfl) ?_
  refine mm_get (v := .int (Iv 52)) hx hb hf_X14 (fun _ h9 => h9) hown hK hG hM.1 rfl 52 (by decide) (tb_use hT tw_1443) (fun _ h9 => h9) (mfs_g52 _ _) dX14_word_2 ?_
  refine lv_iconst (v := 1) hx hb dX14_word_5 (by decide) ?_
  refine lv_icmp_ne (tgt := 21) hx hb dX14_word_6 (by decide) (fun c_6 => ?_) (fun c_6 => ?_)
  · skip
    refine lv_iconst (v := 0) hx hb dX14_word_21 (by decide) ?_
    have hqe : wtQ (tkS ft en) false q = q_take (tkK ft en) (tkS ft en) (w9 + 10) q := by rw [← wtQ_take, decide_eq_false (fun z => c_6 ((hQ.kd.word hw1 hw2).mpr z).1)]
    refine va_calli (va_runV (As := [.int 0]) (rest := []) ⟨hx, hb, hml, hown, (fun _ h9 => absurd h9 List.not_mem_nil : ∀ w ∈ ([] : List Cond), w.before _ s = true)⟩ (c_M_wants l D cy A X hst hXT G o Ar Iv F L ft sx fr en bo q false hM hQ (fun z => absurd z Bool.false_ne_true)) (tb_cw (C := RX14) 1 hT tw_1705 tw_109 tw_1702 tw_1704 tw_70 rfl rfl hq_X14_wants ⟨Nat.le_of_ble_eq_true rfl, Nat.le_of_ble_eq_true rfl⟩) (mk_preC hst hG hK hA hX hS vc_15 hM.1) rfl rfl hl.1 rfl (lv_room (Nat.le_of_ble_eq_true rfl)) dX14_word_22 ⟨Nat.le_of_ble_eq_true rfl, Nat.le_of_ble_eq_true rfl⟩) hS (fun q _ h => h) (fun q h => h) (fun r1 G2 t H locs ht hvm hw hB hz1 hk1 hS => ?_)
    have hG : mm D vwCl A G2 H := by rw [← ht]; exact hB
    clear hB hz1 hk1 hvm ht
    obtain ⟨hr1, I3, F4, hM2, hF2, hQ2, hI2, hX2⟩ := hw
    replace hF := hF.tr hF2
    replace hM := hM2; clear hM2 hF2
    have hQ := hQ2; clear hQ2
    have hIX := hI2; have hFX := hX2; clear hI2 hX2
    refine lv_istore_n (lv' := [(2, .int r1), (0, .ref o), (1, .int (nI w9))]) hx hb dX14_word_25 rfl hl (by decide) rfl (fun ls hl => ?_)
    exact W.vret hx hb hr (fun t ht hW => ⟨⟨_, rfl, ⟨_, _, hM, hF, (by rw [← hqe]; exact hQ), hIX, hFX⟩, mk_end hG ht⟩, hS.F ht⟩) hS.2.2 dX14_word_26
  · skip
    refine lv_aload_n hx hb dX14_word_9 rfl (lv_at hl 0 rfl) ?_
    refine mm_get (v := .int (Iv 53)) hx hb hf_X14 (fun _ h9 => h9) hown hK hG hM.1 rfl 53 (by decide) (tb_use hT tw_1444) (fun _ h9 => h9) (mfs_g53 _ _) dX14_word_10 ?_
    refine lv_iload_n hx hb dX14_word_13 rfl (lv_at hl 1 rfl) ?_
    refine lv_icmp_ne (tgt := 21) hx hb dX14_word_14 (by decide) (fun c_14 => ?_) (fun c_14 => ?_)
    · skip
      refine lv_iconst (v := 0) hx hb dX14_word_21 (by decide) ?_
      have hqe : wtQ (tkS ft en) false q = q_take (tkK ft en) (tkS ft en) (w9 + 10) q := by rw [← wtQ_take, decide_eq_false (fun z => c_14 ((hQ.kd.word hw1 hw2).mpr z).2)]
      refine va_calli (va_runV (As := [.int 0]) (rest := []) ⟨hx, hb, hml, hown, (fun _ h9 => absurd h9 List.not_mem_nil : ∀ w ∈ ([] : List Cond), w.before _ s = true)⟩ (c_M_wants l D cy A X hst hXT G o Ar Iv F L ft sx fr en bo q false hM hQ (fun z => absurd z Bool.false_ne_true)) (tb_cw (C := RX14) 1 hT tw_1705 tw_109 tw_1702 tw_1704 tw_70 rfl rfl hq_X14_wants ⟨Nat.le_of_ble_eq_true rfl, Nat.le_of_ble_eq_true rfl⟩) (mk_preC hst hG hK hA hX hS vc_15 hM.1) rfl rfl hl.1 rfl (lv_room (Nat.le_of_ble_eq_true rfl)) dX14_word_22 ⟨Nat.le_of_ble_eq_true rfl, Nat.le_of_ble_eq_true rfl⟩) hS (fun q _ h => h) (fun q h => h) (fun r5 G6 t H locs ht hvm hw hB hz1 hk1 hS => ?_)
      have hG : mm D vwCl A G6 H := by rw [← ht]; exact hB
      clear hB hz1 hk1 hvm ht
      obtain ⟨hr5, I7, F8, hM2, hF2, hQ2, hI2, hX2⟩ := hw
      replace hF := hF.tr hF2
      replace hM := hM2; clear hM2 hF2
      have hQ := hQ2; clear hQ2
      have hIX := hI2; have hFX := hX2; clear hI2 hX2
      refine lv_istore_n (lv' := [(2, .int r5), (0, .ref o), (1, .int (nI w9))]) hx hb dX14_word_25 rfl hl (by decide) rfl (fun ls hl => ?_)
      exact W.vret hx hb hr (fun t ht hW => ⟨⟨_, rfl, ⟨_, _, hM, hF, (by rw [← hqe]; exact hQ), hIX, hFX⟩, mk_end hG ht⟩, hS.F ht⟩) hS.2.2 dX14_word_26
    · skip
      refine lv_iconst (v := 1) hx hb dX14_word_17 (by decide) ?_
      refine lv_goto (tgt := 22) hx hb dX14_word_18 (by decide) ?_
      have hkw := (hQ.kd.word hw1 hw2).mp ⟨c_6, c_14⟩
      have hk23 : tkK ft en q.1 ≠ 2 ∧ tkK ft en q.1 ≠ 3 := by omega
      have hqe : wtQ (tkS ft en) true q = q_take (tkK ft en) (tkS ft en) (w9 + 10) q := by rw [← wtQ_take, decide_eq_true hkw]
      refine va_calli (va_runV (As := [.int 1]) (rest := []) ⟨hx, hb, hml, hown, (fun _ h9 => absurd h9 List.not_mem_nil : ∀ w ∈ ([] : List Cond), w.before _ s = true)⟩ (c_M_wants l D cy A X hst hXT G o Ar Iv F L ft sx fr en bo q true hM hQ (fun _ _ => hk23)) (tb_cw (C := RX14) 1 hT tw_1705 tw_109 tw_1702 tw_1704 tw_70 rfl rfl hq_X14_wants ⟨Nat.le_of_ble_eq_true rfl, Nat.le_of_ble_eq_true rfl⟩) (mk_preC hst hG hK hA hX hS vc_15 hM.1) rfl rfl hl.1 rfl (lv_room (Nat.le_of_ble_eq_true rfl)) dX14_word_22 ⟨Nat.le_of_ble_eq_true rfl, Nat.le_of_ble_eq_true rfl⟩) hS (fun q _ h => h) (fun q h => h) (fun r9 G10 t H locs ht hvm hw hB hz1 hk1 hS => ?_)
      have hG : mm D vwCl A G10 H := by rw [← ht]; exact hB
      clear hB hz1 hk1 hvm ht
      obtain ⟨hr9, I11, F12, hM2, hF2, hQ2, hI2, hX2⟩ := hw
      replace hF := hF.tr hF2
      replace hM := hM2; clear hM2 hF2
      have hQ := hQ2; clear hQ2
      have hIX := hI2; have hFX := hX2; clear hI2 hX2
      refine lv_istore_n (lv' := [(2, .int r9), (0, .ref o), (1, .int (nI w9))]) hx hb dX14_word_25 rfl hl (by decide) rfl (fun ls hl => ?_)
      exact W.vret hx hb hr (fun t ht hW => ⟨⟨_, rfl, ⟨_, _, hM, hF, (by rw [← hqe]; exact hQ), hIX, hFX⟩, mk_end hG ht⟩, hS.F ht⟩) hS.2.2 dX14_word_26

set_option maxHeartbeats 4000000 in
set_option maxRecDepth 100000 in
theorem c_M_mark (l : Launch) (D : va_G) (cy : Nat → ClassId) (A : Nat → Prop) (X : State → Prop) (hst : mk_St A X) (hXT : ∀ U : State, X U → TB U) (G : Nat → Option va_E) (o : Nat) (Ar : Nat → Nat) (Iv : Nat → Int32) (F : Nat → Nat → Int32) (L : Nat → Nat → Int64) (ft : Nat → Int32) (sx fr en bo : Nat) (q : Nat × Int32) (k9 : Nat) (hM : MD cy G o Ar Iv F L) (hQ : LXq Ar Iv F ft sx fr en bo q) (hw1 : 4 ≤ k9) (hw2 : k9 ≤ 10) : Met l yX14_mark [.code yX14_mark cX14_mark 3 none] ({ frames := 5, cells := 0, slots := 0, locals := 150 }) (mk_Pre D vwCl (tyL cy) A X G [.ref o, .int (tBy k9 0)]) (va_Qv (fun (G2 : Nat → Option va_E) => ∃ (I2 : Nat → Int32) (F2 : Nat → Nat → Int32), MD cy G2 o Ar I2 F2 L ∧ MF G G2 o Ar ∧ LXq Ar I2 F2 ft sx fr en bo (q_take (tkK ft en) (tkS ft en) k9 q) ∧ IX I2 = IX Iv ∧ FX F2 = FX F) (mk_B D vwCl A) A) 0 0 A := by
  refine Met.ofW (cc := cX14_mark) (maxL := 3) (ret := none) (by decide) rfl ?_
  intro p e s m args below meth c s₁ B hml hv
  obtain ⟨rfl, hG, hK, hA, hX⟩ := hv
  have hx := B.exec
  have hb := B.bytes
  have hr := B.returns
  have hlocks := B.notSynchronized
  have hT := hXT s hX
  have hown : s.vm.findClass RX14 = some m.cls := findClass_of_methodNamed B.named
  have hf_X14 : ∀ w ∈ u_ws RX14 TX14 76, w.before ([.ref o, .int (tBy k9 0)] : List Value).toArray s = true := tb_list hT fX14
  have hS : va_S A s.heap s.heap [] := va_S.rf
  have hl := lv_entry ([.ref o, .int (tBy k9 0)]) (n := 3) (Nat.le_of_ble_eq_true rfl)
  rw [lg_entry_eq]
  generalize (lg_sl ([.ref o, .int (tBy k9 0)]) ++ List.replicate (3 - (lg_sl ([.ref o, .int (tBy k9 0)])).length) Slot.unset).toArray = ls at hl ⊢
  have hl : lv_has ls 3 [(0, .ref o), (1, .int (tBy k9 0))] := hl
  have hF : MF G G o Ar := MF.rf
  refine lv_aload_n hx hb dX14_mark_0 rfl (lv_at hl 0 rfl) ?_
  refine lv_aload_n hx hb dX14_mark_1 rfl (lv_at hl 0 rfl) ?_
  refine mm_get (v := .int (Iv 52)) hx hb hf_X14 (fun _ h9 => h9) hown hK hG hM.1 rfl 52 (by decide) (tb_use hT tw_1443) (fun _ h9 => h9) (mfs_g52 _ _) dX14_mark_2 ?_
  refine lv_iconst (v := 4) hx hb dX14_mark_5 (by decide) ?_
  refine lv_icmp_ne (tgt := 21) hx hb dX14_mark_6 (by decide) (fun c_6 => ?_) (fun c_6 => ?_)
  · skip
    refine lv_iconst (v := 0) hx hb dX14_mark_21 (by decide) ?_
    have hqe : wtQ (tkS ft en) false q = q_take (tkK ft en) (tkS ft en) k9 q := by rw [← wtQ_take, decide_eq_false (fun z => c_6 ((hQ.kd.sign hw1 hw2).mpr z).1)]
    refine va_calli (va_runV (As := [.int 0]) (rest := []) ⟨hx, hb, hml, hown, (fun _ h9 => absurd h9 List.not_mem_nil : ∀ w ∈ ([] : List Cond), w.before _ s = true)⟩ (c_M_wants l D cy A X hst hXT G o Ar Iv F L ft sx fr en bo q false hM hQ (fun z => absurd z Bool.false_ne_true)) (tb_cw (C := RX14) 1 hT tw_1705 tw_109 tw_1702 tw_1704 tw_70 rfl rfl hq_X14_wants ⟨Nat.le_of_ble_eq_true rfl, Nat.le_of_ble_eq_true rfl⟩) (mk_preC hst hG hK hA hX hS vc_15 hM.1) rfl rfl hl.1 rfl (lv_room (Nat.le_of_ble_eq_true rfl)) dX14_mark_22 ⟨Nat.le_of_ble_eq_true rfl, Nat.le_of_ble_eq_true rfl⟩) hS (fun q _ h => h) (fun q h => h) (fun r1 G2 t H locs ht hvm hw hB hz1 hk1 hS => ?_)
    have hG : mm D vwCl A G2 H := by rw [← ht]; exact hB
    clear hB hz1 hk1 hvm ht
    obtain ⟨hr1, I3, F4, hM2, hF2, hQ2, hI2, hX2⟩ := hw
    replace hF := hF.tr hF2
    replace hM := hM2; clear hM2 hF2
    have hQ := hQ2; clear hQ2
    have hIX := hI2; have hFX := hX2; clear hI2 hX2
    refine lv_istore_n (lv' := [(2, .int r1), (0, .ref o), (1, .int (tBy k9 0))]) hx hb dX14_mark_25 rfl hl (by decide) rfl (fun ls hl => ?_)
    exact W.vret hx hb hr (fun t ht hW => ⟨⟨_, rfl, ⟨_, _, hM, hF, (by rw [← hqe]; exact hQ), hIX, hFX⟩, mk_end hG ht⟩, hS.F ht⟩) hS.2.2 dX14_mark_26
  · skip
    refine lv_aload_n hx hb dX14_mark_9 rfl (lv_at hl 0 rfl) ?_
    refine mm_get (v := .int (Iv 53)) hx hb hf_X14 (fun _ h9 => h9) hown hK hG hM.1 rfl 53 (by decide) (tb_use hT tw_1444) (fun _ h9 => h9) (mfs_g53 _ _) dX14_mark_10 ?_
    refine lv_iload_n hx hb dX14_mark_13 rfl (lv_at hl 1 rfl) ?_
    refine lv_icmp_ne (tgt := 21) hx hb dX14_mark_14 (by decide) (fun c_14 => ?_) (fun c_14 => ?_)
    · skip
      refine lv_iconst (v := 0) hx hb dX14_mark_21 (by decide) ?_
      have hqe : wtQ (tkS ft en) false q = q_take (tkK ft en) (tkS ft en) k9 q := by rw [← wtQ_take, decide_eq_false (fun z => c_14 ((hQ.kd.sign hw1 hw2).mpr z).2)]
      refine va_calli (va_runV (As := [.int 0]) (rest := []) ⟨hx, hb, hml, hown, (fun _ h9 => absurd h9 List.not_mem_nil : ∀ w ∈ ([] : List Cond), w.before _ s = true)⟩ (c_M_wants l D cy A X hst hXT G o Ar Iv F L ft sx fr en bo q false hM hQ (fun z => absurd z Bool.false_ne_true)) (tb_cw (C := RX14) 1 hT tw_1705 tw_109 tw_1702 tw_1704 tw_70 rfl rfl hq_X14_wants ⟨Nat.le_of_ble_eq_true rfl, Nat.le_of_ble_eq_true rfl⟩) (mk_preC hst hG hK hA hX hS vc_15 hM.1) rfl rfl hl.1 rfl (lv_room (Nat.le_of_ble_eq_true rfl)) dX14_mark_22 ⟨Nat.le_of_ble_eq_true rfl, Nat.le_of_ble_eq_true rfl⟩) hS (fun q _ h => h) (fun q h => h) (fun r5 G6 t H locs ht hvm hw hB hz1 hk1 hS => ?_)
      have hG : mm D vwCl A G6 H := by rw [← ht]; exact hB
      clear hB hz1 hk1 hvm ht
      obtain ⟨hr5, I7, F8, hM2, hF2, hQ2, hI2, hX2⟩ := hw
      replace hF := hF.tr hF2
      replace hM := hM2; clear hM2 hF2
      have hQ := hQ2; clear hQ2
      have hIX := hI2; have hFX := hX2; clear hI2 hX2
      refine lv_istore_n (lv' := [(2, .int r5), (0, .ref o), (1, .int (tBy k9 0))]) hx hb dX14_mark_25 rfl hl (by decide) rfl (fun ls hl => ?_)
      exact W.vret hx hb hr (fun t ht hW => ⟨⟨_, rfl, ⟨_, _, hM, hF, (by rw [← hqe]; exact hQ), hIX, hFX⟩, mk_end hG ht⟩, hS.F ht⟩) hS.2.2 dX14_mark_26
    · skip
      refine lv_iconst (v := 1) hx hb dX14_mark_17 (by decide) ?_
      refine lv_goto (tgt := 22) hx hb dX14_mark_18 (by decide) ?_
      have hkw := (hQ.kd.sign hw1 hw2).mp ⟨c_6, c_14⟩
      have hk23 : tkK ft en q.1 ≠ 2 ∧ tkK ft en q.1 ≠ 3 := by omega
      have hqe : wtQ (tkS ft en) true q = q_take (tkK ft en) (tkS ft en) k9 q := by rw [← wtQ_take, decide_eq_true hkw]
      refine va_calli (va_runV (As := [.int 1]) (rest := []) ⟨hx, hb, hml, hown, (fun _ h9 => absurd h9 List.not_mem_nil : ∀ w ∈ ([] : List Cond), w.before _ s = true)⟩ (c_M_wants l D cy A X hst hXT G o Ar Iv F L ft sx fr en bo q true hM hQ (fun _ _ => hk23)) (tb_cw (C := RX14) 1 hT tw_1705 tw_109 tw_1702 tw_1704 tw_70 rfl rfl hq_X14_wants ⟨Nat.le_of_ble_eq_true rfl, Nat.le_of_ble_eq_true rfl⟩) (mk_preC hst hG hK hA hX hS vc_15 hM.1) rfl rfl hl.1 rfl (lv_room (Nat.le_of_ble_eq_true rfl)) dX14_mark_22 ⟨Nat.le_of_ble_eq_true rfl, Nat.le_of_ble_eq_true rfl⟩) hS (fun q _ h => h) (fun q h => h) (fun r9 G10 t H locs ht hvm hw hB hz1 hk1 hS => ?_)
      have hG : mm D vwCl A G10 H := by rw [← ht]; exact hB
      clear hB hz1 hk1 hvm ht
      obtain ⟨hr9, I11, F12, hM2, hF2, hQ2, hI2, hX2⟩ := hw
      replace hF := hF.tr hF2
      replace hM := hM2; clear hM2 hF2
      have hQ := hQ2; clear hQ2
      have hIX := hI2; have hFX := hX2; clear hI2 hX2
      refine lv_istore_n (lv' := [(2, .int r9), (0, .ref o), (1, .int (tBy k9 0))]) hx hb dX14_mark_25 rfl hl (by decide) rfl (fun ls hl => ?_)
      exact W.vret hx hb hr (fun t ht hW => ⟨⟨_, rfl, ⟨_, _, hM, hF, (by rw [← hqe]; exact hQ), hIX, hFX⟩, mk_end hG ht⟩, hS.F ht⟩) hS.2.2 dX14_mark_26

set_option maxHeartbeats 4000000 in
set_option maxRecDepth 100000 in
theorem c_M_name (l : Launch) (D : va_G) (cy : Nat → ClassId) (A : Nat → Prop) (X : State → Prop) (hst : mk_St A X) (hXT : ∀ U : State, X U → TB U) (G : Nat → Option va_E) (o : Nat) (Ar : Nat → Nat) (Iv : Nat → Int32) (F : Nat → Nat → Int32) (L : Nat → Nat → Int64) (ft : Nat → Int32) (sx fr en bo : Nat) (q : Nat × Int32) (hM : MD cy G o Ar Iv F L) (hQ : LXq Ar Iv F ft sx fr en bo q) : Met l yX14_name [.code yX14_name cX14_name 2 (some .int)] ({ frames := 5, cells := 0, slots := 0, locals := 150 }) (mk_Pre D vwCl (tyL cy) A X G [.ref o]) (va_Qi (fun (r : Int32) (G2 : Nat → Option va_E) => NMt (tkK ft en) (tkV ft en) ((q_name (tkK ft en) (tkS ft en) (tkV ft en) q).2.1 + 1) r (q_name (tkK ft en) (tkS ft en) (tkV ft en) q).1 ∧ ∃ (I2 : Nat → Int32) (F2 : Nat → Nat → Int32), MD cy G2 o Ar I2 F2 L ∧ MF G G2 o Ar ∧ LXq Ar I2 F2 ft sx fr en bo (q_name (tkK ft en) (tkS ft en) (tkV ft en) q).2 ∧ IX I2 = IX Iv ∧ FX F2 = FX F) (mk_B D vwCl A) A) 0 0 A := by
  refine Met.ofW (cc := cX14_name) (maxL := 2) (ret := (some .int)) (by decide) rfl ?_
  intro p e s m args below meth c s₁ B hml hv
  obtain ⟨rfl, hG, hK, hA, hX⟩ := hv
  have hx := B.exec
  have hb := B.bytes
  have hr := B.returns
  have hlocks := B.notSynchronized
  have hT := hXT s hX
  have hown : s.vm.findClass RX14 = some m.cls := findClass_of_methodNamed B.named
  have hf_X14 : ∀ w ∈ u_ws RX14 TX14 76, w.before ([.ref o] : List Value).toArray s = true := tb_list hT fX14
  have hS : va_S A s.heap s.heap [] := va_S.rf
  have hl := lv_entry ([.ref o]) (n := 2) (Nat.le_of_ble_eq_true rfl)
  rw [lg_entry_eq]
  generalize (lg_sl ([.ref o]) ++ List.replicate (2 - (lg_sl ([.ref o])).length) Slot.unset).toArray = ls at hl ⊢
  have hl : lv_has ls 2 [(0, .ref o)] := hl
  have hF : MF G G o Ar := MF.rf
  obtain ⟨v53, e53⟩ : ∃ y, Iv 53 = y := ⟨_, rfl⟩
  refine lv_aload_n hx hb dX14_name_0 rfl (lv_at hl 0 rfl) ?_
  refine mm_get (v := .int (Iv 53)) hx hb hf_X14 (fun _ h9 => h9) hown hK hG hM.1 rfl 53 (by decide) (tb_use hT tw_1444) (fun _ h9 => h9) (mfs_g53 _ _) dX14_name_1 ?_
  rw [e53]
  refine lv_istore_n (lv' := [(1, .int v53), (0, .ref o)]) hx hb dX14_name_4 rfl hl (by decide) rfl (fun ls hl => ?_)
  refine lv_aload_n hx hb dX14_name_5 rfl (lv_at hl 1 rfl) ?_
  refine lv_aload_n hx hb dX14_name_6 rfl (lv_at hl 1 rfl) ?_
  refine mm_get (v := .int (Iv 52)) hx hb hf_X14 (fun _ h9 => h9) hown hK hG hM.1 rfl 52 (by decide) (tb_use hT tw_1443) (fun _ h9 => h9) (mfs_g52 _ _) dX14_name_7 ?_
  refine lv_iconst (v := 2) hx hb dX14_name_10 (by decide) ?_
  refine lv_icmp_ne (tgt := 18) hx hb dX14_name_11 (by decide) (fun c_11 => ?_) (fun c_11 => ?_)
  · skip
    refine lv_iconst (v := 0) hx hb dX14_name_18 (by decide) ?_
    have hkw : ¬ tkK ft en q.1 = 0 := fun z => c_11 (hQ.kd.name.mpr z)
    have hQ0 := hQ
    refine va_calli (va_runV (As := [.int 0]) (rest := []) ⟨hx, hb, hml, hown, (fun _ h9 => absurd h9 List.not_mem_nil : ∀ w ∈ ([] : List Cond), w.before _ s = true)⟩ (c_M_wants l D cy A X hst hXT G o Ar Iv F L ft sx fr en bo q false hM hQ (fun z => absurd z Bool.false_ne_true)) (tb_cw (C := RX14) 1 hT tw_1705 tw_109 tw_1702 tw_1704 tw_70 rfl rfl hq_X14_wants ⟨Nat.le_of_ble_eq_true rfl, Nat.le_of_ble_eq_true rfl⟩) (mk_preC hst hG hK hA hX hS vc_15 hM.1) rfl rfl hl.1 rfl (lv_room (Nat.le_of_ble_eq_true rfl)) dX14_name_19 ⟨Nat.le_of_ble_eq_true rfl, Nat.le_of_ble_eq_true rfl⟩) hS (fun q _ h => h) (fun q h => h) (fun r1 G2 t H locs ht hvm hw hB hz1 hk1 hS => ?_)
    have hG : mm D vwCl A G2 H := by rw [← ht]; exact hB
    clear hB hz1 hk1 hvm ht
    obtain ⟨hr1, I3, F4, hM2, hF2, hQ2, hI2, hX2⟩ := hw
    replace hF := hF.tr hF2
    replace hM := hM2; clear hM2 hF2
    have hQ := hQ2; clear hQ2
    have hIX := hI2; have hFX := hX2; clear hI2 hX2
    refine lv_if_eq (tgt := 29) hx hb dX14_name_22 (by decide) (fun c_22 => ?_) (fun c_22 => ?_)
    · skip
      refine lv_iconst (v := 0) hx hb dX14_name_29 (by decide) ?_
      have hqe : q_name (tkK ft en) (tkS ft en) (tkV ft en) q = (0, wtQ (tkS ft en) false q) := by unfold q_name wtQ; rw [if_neg (by unfold se; rw [decide_eq_false hkw, Bool.and_false]; exact Bool.false_ne_true), if_neg Bool.false_ne_true]
      exact W.iret (v := 0) hx hb hr (fun t ht hW => ⟨⟨_, _, rfl, ⟨(by rw [hqe]; exact NMt.z), _, _, hM, hF, (by rw [hqe]; exact hQ), hIX, hFX⟩, mk_end hG ht⟩, hS.F ht⟩) hS.2.2 dX14_name_30
    · skip
      refine lv_iload_n hx hb dX14_name_25 rfl (lv_at hl 0 rfl) ?_
      refine lv_goto (tgt := 30) hx hb dX14_name_26 (by decide) ?_
      have hqe : q_name (tkK ft en) (tkS ft en) (tkV ft en) q = (0, wtQ (tkS ft en) false q) := by unfold q_name wtQ; rw [if_neg (by unfold se; rw [decide_eq_false hkw, Bool.and_false]; exact Bool.false_ne_true), if_neg Bool.false_ne_true]
      exact W.iret (v := v53) hx hb hr (fun t ht hW => ⟨⟨_, _, rfl, ⟨(by exfalso; exact c_22 (by rw [hr1]; unfold wtQ fl; rw [if_neg Bool.false_ne_true]; dsimp only; by_cases z : q.2 < 0; (rw [if_pos z, decide_eq_false hQ0.Sn]; rfl); (rw [if_neg z, decide_eq_false z]; rfl))), _, _, hM, hF, (by rw [hqe]; exact hQ), hIX, hFX⟩, mk_end hG ht⟩, hS.F ht⟩) hS.2.2 dX14_name_30
  · skip
    refine lv_iconst (v := 1) hx hb dX14_name_14 (by decide) ?_
    refine lv_goto (tgt := 19) hx hb dX14_name_15 (by decide) ?_
    have hkw := hQ.kd.name.mp c_11
    have hk23 : tkK ft en q.1 ≠ 2 ∧ tkK ft en q.1 ≠ 3 := by omega
    have hQ0 := hQ
    refine va_calli (va_runV (As := [.int 1]) (rest := []) ⟨hx, hb, hml, hown, (fun _ h9 => absurd h9 List.not_mem_nil : ∀ w ∈ ([] : List Cond), w.before _ s = true)⟩ (c_M_wants l D cy A X hst hXT G o Ar Iv F L ft sx fr en bo q true hM hQ (fun _ _ => hk23)) (tb_cw (C := RX14) 1 hT tw_1705 tw_109 tw_1702 tw_1704 tw_70 rfl rfl hq_X14_wants ⟨Nat.le_of_ble_eq_true rfl, Nat.le_of_ble_eq_true rfl⟩) (mk_preC hst hG hK hA hX hS vc_15 hM.1) rfl rfl hl.1 rfl (lv_room (Nat.le_of_ble_eq_true rfl)) dX14_name_19 ⟨Nat.le_of_ble_eq_true rfl, Nat.le_of_ble_eq_true rfl⟩) hS (fun q _ h => h) (fun q h => h) (fun r5 G6 t H locs ht hvm hw hB hz1 hk1 hS => ?_)
    have hG : mm D vwCl A G6 H := by rw [← ht]; exact hB
    clear hB hz1 hk1 hvm ht
    obtain ⟨hr5, I7, F8, hM2, hF2, hQ2, hI2, hX2⟩ := hw
    replace hF := hF.tr hF2
    replace hM := hM2; clear hM2 hF2
    have hQ := hQ2; clear hQ2
    have hIX := hI2; have hFX := hX2; clear hI2 hX2
    refine lv_if_eq (tgt := 29) hx hb dX14_name_22 (by decide) (fun c_22 => ?_) (fun c_22 => ?_)
    · skip
      refine lv_iconst (v := 0) hx hb dX14_name_29 (by decide) ?_
      have hq2 : (wtQ (tkS ft en) true q).2 = q.2 := by unfold wtQ; rw [if_pos rfl]; split <;> rfl
      have hq : ¬ q.2 < 0 := fun z => absurd (c_22.symm.trans (by rw [hr5, hq2, decide_eq_true z])) (by decide)
      have hqe : q_name (tkK ft en) (tkS ft en) (tkV ft en) q = (0, wtQ (tkS ft en) true q) := by unfold q_name wtQ fl; rw [if_neg (by unfold se; rw [decide_eq_false hq]; exact Bool.false_ne_true), if_pos rfl, if_neg hq, if_neg hq]
      exact W.iret (v := 0) hx hb hr (fun t ht hW => ⟨⟨_, _, rfl, ⟨(by rw [hqe]; exact NMt.z), _, _, hM, hF, (by rw [hqe]; exact hQ), hIX, hFX⟩, mk_end hG ht⟩, hS.F ht⟩) hS.2.2 dX14_name_30
    · skip
      refine lv_iload_n hx hb dX14_name_25 rfl (lv_at hl 0 rfl) ?_
      refine lv_goto (tgt := 30) hx hb dX14_name_26 (by decide) ?_
      have hq2 : (wtQ (tkS ft en) true q).2 = q.2 := by unfold wtQ; rw [if_pos rfl]; split <;> rfl
      have hq : q.2 < 0 := by rcases Decidable.em (q.2 < 0) with z | z; exact z; exact absurd (by rw [hr5, hq2, decide_eq_false z]; rfl) c_22
      have hqe : q_name (tkK ft en) (tkS ft en) (tkV ft en) q = (tkV ft en q.1, wtQ (tkS ft en) true q) := by unfold q_name wtQ; rw [if_pos (by unfold se; rw [decide_eq_true hkw, decide_eq_true hq]; rfl), if_pos rfl, if_pos hq]
      exact W.iret (v := v53) hx hb hr (fun t ht hW => ⟨⟨_, _, rfl, ⟨(by rw [hqe]; unfold wtQ; rw [if_pos rfl, if_pos hq, ← e53]; exact (hQ0.nmv hkw).mono (by dsimp only; omega)), _, _, hM, hF, (by rw [hqe]; exact hQ), hIX, hFX⟩, mk_end hG ht⟩, hS.F ht⟩) hS.2.2 dX14_name_30

set_option maxHeartbeats 4000000 in
set_option maxRecDepth 100000 in
theorem c_M_number (l : Launch) (D : va_G) (cy : Nat → ClassId) (A : Nat → Prop) (X : State → Prop) (hst : mk_St A X) (hXT : ∀ U : State, X U → TB U) (G : Nat → Option va_E) (o : Nat) (Ar : Nat → Nat) (Iv : Nat → Int32) (F : Nat → Nat → Int32) (L : Nat → Nat → Int64) (ft : Nat → Int32) (sx fr en bo : Nat) (q : Nat × Int32) (lo hi : Int32) (a9 b9 : Nat) (hM : MD cy G o Ar Iv F L) (hQ : LXq Ar Iv F ft sx fr en bo q) (ea : lo = nI a9) (eb : hi = nI b9) (ha9 : a9 < 2 ^ 31) (hb9 : b9 < 2 ^ 31) : Met l yX14_number [.code yX14_number cX14_number 4 (some .int)] ({ frames := 5, cells := 0, slots := 0, locals := 150 }) (mk_Pre D vwCl (tyL cy) A X G [.ref o, .int lo, .int hi]) (va_Qi (fun (r : Int32) (G2 : Nat → Option va_E) => ((q_num (tkK ft en) (tkS ft en) (tkV ft en) lo hi q).2.2 < 0 → r = (q_num (tkK ft en) (tkS ft en) (tkV ft en) lo hi q).1) ∧ ∃ (I2 : Nat → Int32) (F2 : Nat → Nat → Int32), MD cy G2 o Ar I2 F2 L ∧ MF G G2 o Ar ∧ LXq Ar I2 F2 ft sx fr en bo (q_num (tkK ft en) (tkS ft en) (tkV ft en) lo hi q).2 ∧ IX I2 = IX Iv ∧ FX F2 = FX F) (mk_B D vwCl A) A) 0 0 A := by
  refine Met.ofW (cc := cX14_number) (maxL := 4) (ret := (some .int)) (by decide) rfl ?_
  intro p e s m args below meth c s₁ B hml hv
  obtain ⟨rfl, hG, hK, hA, hX⟩ := hv
  have hx := B.exec
  have hb := B.bytes
  have hr := B.returns
  have hlocks := B.notSynchronized
  have hT := hXT s hX
  have hown : s.vm.findClass RX14 = some m.cls := findClass_of_methodNamed B.named
  have hf_X14 : ∀ w ∈ u_ws RX14 TX14 76, w.before ([.ref o, .int lo, .int hi] : List Value).toArray s = true := tb_list hT fX14
  have hS : va_S A s.heap s.heap [] := va_S.rf
  have hl := lv_entry ([.ref o, .int lo, .int hi]) (n := 4) (Nat.le_of_ble_eq_true rfl)
  rw [lg_entry_eq]
  generalize (lg_sl ([.ref o, .int lo, .int hi]) ++ List.replicate (4 - (lg_sl ([.ref o, .int lo, .int hi])).length) Slot.unset).toArray = ls at hl ⊢
  have hl : lv_has ls 4 [(0, .ref o), (1, .int lo), (2, .int hi)] := hl
  have hF : MF G G o Ar := MF.rf
  obtain ⟨v53, e53⟩ : ∃ y, Iv 53 = y := ⟨_, rfl⟩
  refine lv_aload_n hx hb dX14_number_0 rfl (lv_at hl 0 rfl) ?_
  refine mm_get (v := .int (Iv 53)) hx hb hf_X14 (fun _ h9 => h9) hown hK hG hM.1 rfl 53 (by decide) (tb_use hT tw_1444) (fun _ h9 => h9) (mfs_g53 _ _) dX14_number_1 ?_
  rw [e53]
  refine lv_istore_n (lv' := [(3, .int v53), (0, .ref o), (1, .int lo), (2, .int hi)]) hx hb dX14_number_4 rfl hl (by decide) rfl (fun ls hl => ?_)
  refine lv_aload_n hx hb dX14_number_5 rfl (lv_at hl 1 rfl) ?_
  refine lv_aload_n hx hb dX14_number_6 rfl (lv_at hl 1 rfl) ?_
  refine mm_get (v := .int (Iv 52)) hx hb hf_X14 (fun _ h9 => h9) hown hK hG hM.1 rfl 52 (by decide) (tb_use hT tw_1443) (fun _ h9 => h9) (mfs_g52 _ _) dX14_number_7 ?_
  refine lv_iconst (v := 3) hx hb dX14_number_10 (by decide) ?_
  refine lv_icmp_ne (tgt := 28) hx hb dX14_number_11 (by decide) (fun c_11 => ?_) (fun c_11 => ?_)
  · skip
    refine lv_iconst (v := 0) hx hb dX14_number_28 (by decide) ?_
    have hQ0 := hQ
    refine va_calli (va_runV (As := [.int 0]) (rest := []) ⟨hx, hb, hml, hown, (fun _ h9 => absurd h9 List.not_mem_nil : ∀ w ∈ ([] : List Cond), w.before _ s = true)⟩ (c_M_wants l D cy A X hst hXT G o Ar Iv F L ft sx fr en bo q false hM hQ (fun z => absurd z Bool.false_ne_true)) (tb_cw (C := RX14) 1 hT tw_1705 tw_109 tw_1702 tw_1704 tw_70 rfl rfl hq_X14_wants ⟨Nat.le_of_ble_eq_true rfl, Nat.le_of_ble_eq_true rfl⟩) (mk_preC hst hG hK hA hX hS vc_15 hM.1) rfl rfl hl.1 rfl (lv_room (Nat.le_of_ble_eq_true rfl)) dX14_number_29 ⟨Nat.le_of_ble_eq_true rfl, Nat.le_of_ble_eq_true rfl⟩) hS (fun q _ h => h) (fun q h => h) (fun r1 G2 t H locs ht hvm hw hB hz1 hk1 hS => ?_)
    have hG : mm D vwCl A G2 H := by rw [← ht]; exact hB
    clear hB hz1 hk1 hvm ht
    obtain ⟨hr1, I3, F4, hM2, hF2, hQ2, hI2, hX2⟩ := hw
    replace hF := hF.tr hF2
    replace hM := hM2; clear hM2 hF2
    have hQ := hQ2; clear hQ2
    have hIX := hI2; have hFX := hX2; clear hI2 hX2
    refine lv_if_eq (tgt := 39) hx hb dX14_number_32 (by decide) (fun c_32 => ?_) (fun c_32 => ?_)
    · skip
      refine lv_iconst (v := 0) hx hb dX14_number_39 (by decide) ?_
      have hno : ¬ (se (tkK ft en) q.1 q.2 1 = true ∧ lo.toInt64 ≤ tkV ft en q.1 ∧ tkV ft en q.1 ≤ hi.toInt64) := by
        rintro ⟨z1, z2, z3⟩
        have hk1 : tkK ft en q.1 = 1 := (se_t z1).2
        exact c_11 (hQ0.kd.num.mpr hk1)
      have hqe : q_num (tkK ft en) (tkS ft en) (tkV ft en) lo hi q = (lo, wtQ (tkS ft en) false q) := by unfold q_num wtQ; rw [if_neg hno, if_neg Bool.false_ne_true]
      have hqf : ¬ (wtQ (tkS ft en) false q).2 < 0 := by unfold wtQ fl; rw [if_neg Bool.false_ne_true]; dsimp only; split; exact hQ0.Sn; assumption
      exact W.iret (v := 0) hx hb hr (fun t ht hW => ⟨⟨_, _, rfl, ⟨(fun z => by rw [hqe] at z; exact absurd z hqf), _, _, hM, hF, (by rw [hqe]; exact hQ), hIX, hFX⟩, mk_end hG ht⟩, hS.F ht⟩) hS.2.2 dX14_number_40
    · skip
      refine lv_iload_n hx hb dX14_number_35 rfl (lv_at hl 0 rfl) ?_
      refine lv_goto (tgt := 40) hx hb dX14_number_36 (by decide) ?_
      have hno : ¬ (se (tkK ft en) q.1 q.2 1 = true ∧ lo.toInt64 ≤ tkV ft en q.1 ∧ tkV ft en q.1 ≤ hi.toInt64) := by
        rintro ⟨z1, z2, z3⟩
        have hk1 : tkK ft en q.1 = 1 := (se_t z1).2
        exact c_11 (hQ0.kd.num.mpr hk1)
      have hqe : q_num (tkK ft en) (tkS ft en) (tkV ft en) lo hi q = (lo, wtQ (tkS ft en) false q) := by unfold q_num wtQ; rw [if_neg hno, if_neg Bool.false_ne_true]
      have hqf : ¬ (wtQ (tkS ft en) false q).2 < 0 := by unfold wtQ fl; rw [if_neg Bool.false_ne_true]; dsimp only; split; exact hQ0.Sn; assumption
      exact W.iret (v := v53) hx hb hr (fun t ht hW => ⟨⟨_, _, rfl, ⟨(fun z => by rw [hqe] at z; exact absurd z hqf), _, _, hM, hF, (by rw [hqe]; exact hQ), hIX, hFX⟩, mk_end hG ht⟩, hS.F ht⟩) hS.2.2 dX14_number_40
  · skip
    refine lv_iload_n hx hb dX14_number_14 rfl (lv_at hl 0 rfl) ?_
    refine lv_iload_n hx hb dX14_number_15 rfl (lv_at hl 2 rfl) ?_
    refine lv_icmp_lt (tgt := 28) hx hb dX14_number_16 (by decide) (fun c_16 => ?_) (fun c_16 => ?_)
    · skip
      refine lv_iconst (v := 0) hx hb dX14_number_28 (by decide) ?_
      have hQ0 := hQ
      refine va_calli (va_runV (As := [.int 0]) (rest := []) ⟨hx, hb, hml, hown, (fun _ h9 => absurd h9 List.not_mem_nil : ∀ w ∈ ([] : List Cond), w.before _ s = true)⟩ (c_M_wants l D cy A X hst hXT G o Ar Iv F L ft sx fr en bo q false hM hQ (fun z => absurd z Bool.false_ne_true)) (tb_cw (C := RX14) 1 hT tw_1705 tw_109 tw_1702 tw_1704 tw_70 rfl rfl hq_X14_wants ⟨Nat.le_of_ble_eq_true rfl, Nat.le_of_ble_eq_true rfl⟩) (mk_preC hst hG hK hA hX hS vc_15 hM.1) rfl rfl hl.1 rfl (lv_room (Nat.le_of_ble_eq_true rfl)) dX14_number_29 ⟨Nat.le_of_ble_eq_true rfl, Nat.le_of_ble_eq_true rfl⟩) hS (fun q _ h => h) (fun q h => h) (fun r5 G6 t H locs ht hvm hw hB hz1 hk1 hS => ?_)
      have hG : mm D vwCl A G6 H := by rw [← ht]; exact hB
      clear hB hz1 hk1 hvm ht
      obtain ⟨hr5, I7, F8, hM2, hF2, hQ2, hI2, hX2⟩ := hw
      replace hF := hF.tr hF2
      replace hM := hM2; clear hM2 hF2
      have hQ := hQ2; clear hQ2
      have hIX := hI2; have hFX := hX2; clear hI2 hX2
      refine lv_if_eq (tgt := 39) hx hb dX14_number_32 (by decide) (fun c_32 => ?_) (fun c_32 => ?_)
      · skip
        refine lv_iconst (v := 0) hx hb dX14_number_39 (by decide) ?_
        have hno : ¬ (se (tkK ft en) q.1 q.2 1 = true ∧ lo.toInt64 ≤ tkV ft en q.1 ∧ tkV ft en q.1 ≤ hi.toInt64) := by
          rintro ⟨z1, z2, z3⟩
          have hk1 : tkK ft en q.1 = 1 := (se_t z1).2
          obtain ⟨nn, hn1, hn2, hn3⟩ := hQ0.nuv hk1
          rw [hn3, ea, nI_64 (by omega), i64_le (by omega) (by omega)] at z2
          rw [hn3, eb, nI_64 (by omega), i64_le (by omega) (by omega)] at z3
          rw [e53] at hn2
          rw [hn2, ea] at c_16
          exact nI_nlt z2 (by omega) c_16
        have hqe : q_num (tkK ft en) (tkS ft en) (tkV ft en) lo hi q = (lo, wtQ (tkS ft en) false q) := by unfold q_num wtQ; rw [if_neg hno, if_neg Bool.false_ne_true]
        have hqf : ¬ (wtQ (tkS ft en) false q).2 < 0 := by unfold wtQ fl; rw [if_neg Bool.false_ne_true]; dsimp only; split; exact hQ0.Sn; assumption
        exact W.iret (v := 0) hx hb hr (fun t ht hW => ⟨⟨_, _, rfl, ⟨(fun z => by rw [hqe] at z; exact absurd z hqf), _, _, hM, hF, (by rw [hqe]; exact hQ), hIX, hFX⟩, mk_end hG ht⟩, hS.F ht⟩) hS.2.2 dX14_number_40
      · skip
        refine lv_iload_n hx hb dX14_number_35 rfl (lv_at hl 0 rfl) ?_
        refine lv_goto (tgt := 40) hx hb dX14_number_36 (by decide) ?_
        have hno : ¬ (se (tkK ft en) q.1 q.2 1 = true ∧ lo.toInt64 ≤ tkV ft en q.1 ∧ tkV ft en q.1 ≤ hi.toInt64) := by
          rintro ⟨z1, z2, z3⟩
          have hk1 : tkK ft en q.1 = 1 := (se_t z1).2
          obtain ⟨nn, hn1, hn2, hn3⟩ := hQ0.nuv hk1
          rw [hn3, ea, nI_64 (by omega), i64_le (by omega) (by omega)] at z2
          rw [hn3, eb, nI_64 (by omega), i64_le (by omega) (by omega)] at z3
          rw [e53] at hn2
          rw [hn2, ea] at c_16
          exact nI_nlt z2 (by omega) c_16
        have hqe : q_num (tkK ft en) (tkS ft en) (tkV ft en) lo hi q = (lo, wtQ (tkS ft en) false q) := by unfold q_num wtQ; rw [if_neg hno, if_neg Bool.false_ne_true]
        have hqf : ¬ (wtQ (tkS ft en) false q).2 < 0 := by unfold wtQ fl; rw [if_neg Bool.false_ne_true]; dsimp only; split; exact hQ0.Sn; assumption
        exact W.iret (v := v53) hx hb hr (fun t ht hW => ⟨⟨_, _, rfl, ⟨(fun z => by rw [hqe] at z; exact absurd z hqf), _, _, hM, hF, (by rw [hqe]; exact hQ), hIX, hFX⟩, mk_end hG ht⟩, hS.F ht⟩) hS.2.2 dX14_number_40
    · skip
      refine lv_iload_n hx hb dX14_number_19 rfl (lv_at hl 0 rfl) ?_
      refine lv_iload_n hx hb dX14_number_20 rfl (lv_at hl 3 rfl) ?_
      refine lv_icmp_gt (tgt := 28) hx hb dX14_number_21 (by decide) (fun c_21 => ?_) (fun c_21 => ?_)
      · skip
        refine lv_iconst (v := 0) hx hb dX14_number_28 (by decide) ?_
        have hQ0 := hQ
        refine va_calli (va_runV (As := [.int 0]) (rest := []) ⟨hx, hb, hml, hown, (fun _ h9 => absurd h9 List.not_mem_nil : ∀ w ∈ ([] : List Cond), w.before _ s = true)⟩ (c_M_wants l D cy A X hst hXT G o Ar Iv F L ft sx fr en bo q false hM hQ (fun z => absurd z Bool.false_ne_true)) (tb_cw (C := RX14) 1 hT tw_1705 tw_109 tw_1702 tw_1704 tw_70 rfl rfl hq_X14_wants ⟨Nat.le_of_ble_eq_true rfl, Nat.le_of_ble_eq_true rfl⟩) (mk_preC hst hG hK hA hX hS vc_15 hM.1) rfl rfl hl.1 rfl (lv_room (Nat.le_of_ble_eq_true rfl)) dX14_number_29 ⟨Nat.le_of_ble_eq_true rfl, Nat.le_of_ble_eq_true rfl⟩) hS (fun q _ h => h) (fun q h => h) (fun r9 G10 t H locs ht hvm hw hB hz1 hk1 hS => ?_)
        have hG : mm D vwCl A G10 H := by rw [← ht]; exact hB
        clear hB hz1 hk1 hvm ht
        obtain ⟨hr9, I11, F12, hM2, hF2, hQ2, hI2, hX2⟩ := hw
        replace hF := hF.tr hF2
        replace hM := hM2; clear hM2 hF2
        have hQ := hQ2; clear hQ2
        have hIX := hI2; have hFX := hX2; clear hI2 hX2
        refine lv_if_eq (tgt := 39) hx hb dX14_number_32 (by decide) (fun c_32 => ?_) (fun c_32 => ?_)
        · skip
          refine lv_iconst (v := 0) hx hb dX14_number_39 (by decide) ?_
          have hno : ¬ (se (tkK ft en) q.1 q.2 1 = true ∧ lo.toInt64 ≤ tkV ft en q.1 ∧ tkV ft en q.1 ≤ hi.toInt64) := by
            rintro ⟨z1, z2, z3⟩
            have hk1 : tkK ft en q.1 = 1 := (se_t z1).2
            obtain ⟨nn, hn1, hn2, hn3⟩ := hQ0.nuv hk1
            rw [hn3, ea, nI_64 (by omega), i64_le (by omega) (by omega)] at z2
            rw [hn3, eb, nI_64 (by omega), i64_le (by omega) (by omega)] at z3
            rw [e53] at hn2
            rw [hn2, eb] at c_21
            exact nI_nlt z3 (by omega) c_21
          have hqe : q_num (tkK ft en) (tkS ft en) (tkV ft en) lo hi q = (lo, wtQ (tkS ft en) false q) := by unfold q_num wtQ; rw [if_neg hno, if_neg Bool.false_ne_true]
          have hqf : ¬ (wtQ (tkS ft en) false q).2 < 0 := by unfold wtQ fl; rw [if_neg Bool.false_ne_true]; dsimp only; split; exact hQ0.Sn; assumption
          exact W.iret (v := 0) hx hb hr (fun t ht hW => ⟨⟨_, _, rfl, ⟨(fun z => by rw [hqe] at z; exact absurd z hqf), _, _, hM, hF, (by rw [hqe]; exact hQ), hIX, hFX⟩, mk_end hG ht⟩, hS.F ht⟩) hS.2.2 dX14_number_40
        · skip
          refine lv_iload_n hx hb dX14_number_35 rfl (lv_at hl 0 rfl) ?_
          refine lv_goto (tgt := 40) hx hb dX14_number_36 (by decide) ?_
          have hno : ¬ (se (tkK ft en) q.1 q.2 1 = true ∧ lo.toInt64 ≤ tkV ft en q.1 ∧ tkV ft en q.1 ≤ hi.toInt64) := by
            rintro ⟨z1, z2, z3⟩
            have hk1 : tkK ft en q.1 = 1 := (se_t z1).2
            obtain ⟨nn, hn1, hn2, hn3⟩ := hQ0.nuv hk1
            rw [hn3, ea, nI_64 (by omega), i64_le (by omega) (by omega)] at z2
            rw [hn3, eb, nI_64 (by omega), i64_le (by omega) (by omega)] at z3
            rw [e53] at hn2
            rw [hn2, eb] at c_21
            exact nI_nlt z3 (by omega) c_21
          have hqe : q_num (tkK ft en) (tkS ft en) (tkV ft en) lo hi q = (lo, wtQ (tkS ft en) false q) := by unfold q_num wtQ; rw [if_neg hno, if_neg Bool.false_ne_true]
          have hqf : ¬ (wtQ (tkS ft en) false q).2 < 0 := by unfold wtQ fl; rw [if_neg Bool.false_ne_true]; dsimp only; split; exact hQ0.Sn; assumption
          exact W.iret (v := v53) hx hb hr (fun t ht hW => ⟨⟨_, _, rfl, ⟨(fun z => by rw [hqe] at z; exact absurd z hqf), _, _, hM, hF, (by rw [hqe]; exact hQ), hIX, hFX⟩, mk_end hG ht⟩, hS.F ht⟩) hS.2.2 dX14_number_40
      · skip
        refine lv_iconst (v := 1) hx hb dX14_number_24 (by decide) ?_
        refine lv_goto (tgt := 29) hx hb dX14_number_25 (by decide) ?_
        have hQ0 := hQ
        have hkw := hQ.kd.num.mp c_11
        have hk23 : tkK ft en q.1 ≠ 2 ∧ tkK ft en q.1 ≠ 3 := by omega
        obtain ⟨nn, hn1, hn2, hn3⟩ := hQ.nuv hkw
        rw [e53] at hn2
        have hnn : a9 ≤ nn ∧ nn ≤ b9 := ⟨nI_ge_of (by omega) (by omega) (by rw [← hn2, ← ea]; exact Int32.not_lt.mp c_16), nI_ge_of (by omega) (by omega) (by rw [← hn2, ← eb]; exact Int32.not_lt.mp c_21)⟩
        refine va_calli (va_runV (As := [.int 1]) (rest := []) ⟨hx, hb, hml, hown, (fun _ h9 => absurd h9 List.not_mem_nil : ∀ w ∈ ([] : List Cond), w.before _ s = true)⟩ (c_M_wants l D cy A X hst hXT G o Ar Iv F L ft sx fr en bo q true hM hQ (fun _ _ => hk23)) (tb_cw (C := RX14) 1 hT tw_1705 tw_109 tw_1702 tw_1704 tw_70 rfl rfl hq_X14_wants ⟨Nat.le_of_ble_eq_true rfl, Nat.le_of_ble_eq_true rfl⟩) (mk_preC hst hG hK hA hX hS vc_15 hM.1) rfl rfl hl.1 rfl (lv_room (Nat.le_of_ble_eq_true rfl)) dX14_number_29 ⟨Nat.le_of_ble_eq_true rfl, Nat.le_of_ble_eq_true rfl⟩) hS (fun q _ h => h) (fun q h => h) (fun r13 G14 t H locs ht hvm hw hB hz1 hk1 hS => ?_)
        have hG : mm D vwCl A G14 H := by rw [← ht]; exact hB
        clear hB hz1 hk1 hvm ht
        obtain ⟨hr13, I15, F16, hM2, hF2, hQ2, hI2, hX2⟩ := hw
        replace hF := hF.tr hF2
        replace hM := hM2; clear hM2 hF2
        have hQ := hQ2; clear hQ2
        have hIX := hI2; have hFX := hX2; clear hI2 hX2
        refine lv_if_eq (tgt := 39) hx hb dX14_number_32 (by decide) (fun c_32 => ?_) (fun c_32 => ?_)
        · skip
          refine lv_iconst (v := 0) hx hb dX14_number_39 (by decide) ?_
          have hq2 : (wtQ (tkS ft en) true q).2 = q.2 := by unfold wtQ; rw [if_pos rfl]; split <;> rfl
          have hq : ¬ q.2 < 0 := fun z => absurd (c_32.symm.trans (by rw [hr13, hq2, decide_eq_true z])) (by decide)
          have hqe : q_num (tkK ft en) (tkS ft en) (tkV ft en) lo hi q = (lo, wtQ (tkS ft en) true q) := by unfold q_num wtQ fl; rw [if_neg (fun z => hq (se_t z.1).1), if_pos rfl, if_neg hq, if_neg hq]
          exact W.iret (v := 0) hx hb hr (fun t ht hW => ⟨⟨_, _, rfl, ⟨(fun z => by rw [hqe] at z; dsimp only at z; rw [hq2] at z; exact absurd z hq), _, _, hM, hF, (by rw [hqe]; exact hQ), hIX, hFX⟩, mk_end hG ht⟩, hS.F ht⟩) hS.2.2 dX14_number_40
        · skip
          refine lv_iload_n hx hb dX14_number_35 rfl (lv_at hl 0 rfl) ?_
          refine lv_goto (tgt := 40) hx hb dX14_number_36 (by decide) ?_
          have hq2 : (wtQ (tkS ft en) true q).2 = q.2 := by unfold wtQ; rw [if_pos rfl]; split <;> rfl
          have hq : q.2 < 0 := by rcases Decidable.em (q.2 < 0) with z | z; exact z; exact absurd (by rw [hr13, hq2, decide_eq_false z]; rfl) c_32
          have hys : se (tkK ft en) q.1 q.2 1 = true ∧ lo.toInt64 ≤ tkV ft en q.1 ∧ tkV ft en q.1 ≤ hi.toInt64 := ⟨(by unfold se; rw [decide_eq_true hkw, decide_eq_true hq]; rfl), (by rw [hn3, ea, nI_64 (by omega), i64_le (by omega) (by omega)]; exact hnn.1), (by rw [hn3, eb, nI_64 (by omega), i64_le (by omega) (by omega)]; exact hnn.2)⟩
          have hqe : q_num (tkK ft en) (tkS ft en) (tkV ft en) lo hi q = ((tkV ft en q.1).toInt32, wtQ (tkS ft en) true q) := by unfold q_num wtQ; rw [if_pos hys, if_pos rfl, if_pos hq]
          exact W.iret (v := v53) hx hb hr (fun t ht hW => ⟨⟨_, _, rfl, ⟨(fun _ => by rw [hqe]; dsimp only; rw [hn3, i64_32 (by omega)]; exact hn2), _, _, hM, hF, (by rw [hqe]; exact hQ), hIX, hFX⟩, mk_end hG ht⟩, hS.F ht⟩) hS.2.2 dX14_number_40

theorem nar_b2i (b : Bool) : narrow FieldType.boolean (Value.int (b2i b)) = Value.int (b2i b) := by cases b <;> rfl

set_option maxHeartbeats 4000000 in
set_option maxRecDepth 100000 in
theorem c_M_begins (l : Launch) (D : va_G) (cy : Nat → ClassId) (A : Nat → Prop) (X : State → Prop) (hst : mk_St A X) (hXT : ∀ U : State, X U → TB U) (G : Nat → Option va_E) (o : Nat) (Ar : Nat → Nat) (Iv : Nat → Int32) (F : Nat → Nat → Int32) (L : Nat → Nat → Int64) (ft : Nat → Int32) (sx fr en bo : Nat) (q : Nat × Int32) (hv mo : Int32) (hM : MD cy G o Ar Iv F L) (hQ : LXq Ar Iv F ft sx fr en bo q) (hkb : q.2 < 0 → tkK ft en q.1 ≠ 2 ∧ tkK ft en q.1 ≠ 3) : Met l yX14_begins [.code yX14_begins cX14_begins 3 (some .boolean)] ({ frames := 5, cells := 0, slots := 0, locals := 150 }) (mk_Pre D vwCl (tyL cy) A X G [.ref o, .int hv, .int mo]) (va_Qi (fun (r : Int32) (G2 : Nat → Option va_E) => r = b2i (decide ((q_begin (tkS ft en) hv mo q).2 < 0)) ∧ ∃ (I2 : Nat → Int32) (F2 : Nat → Nat → Int32), MD cy G2 o Ar I2 F2 L ∧ MF G G2 o Ar ∧ LXq Ar I2 F2 ft sx fr en bo (q_begin (tkS ft en) hv mo q) ∧ IX I2 = IX Iv ∧ FX F2 = FX F) (mk_B D vwCl A) A) 0 0 A := by
  refine Met.ofW (cc := cX14_begins) (maxL := 3) (ret := (some .boolean)) (by decide) rfl ?_
  intro p e s m args below meth c s₁ B hml hv
  obtain ⟨rfl, hG, hK, hA, hX⟩ := hv
  have hx := B.exec
  have hb := B.bytes
  have hr := B.returns
  have hlocks := B.notSynchronized
  have hT := hXT s hX
  have hown : s.vm.findClass RX14 = some m.cls := findClass_of_methodNamed B.named
  have hS : va_S A s.heap s.heap [] := va_S.rf
  have hl := lv_entry ([.ref o, .int hv, .int mo]) (n := 3) (Nat.le_of_ble_eq_true rfl)
  rw [lg_entry_eq]
  generalize (lg_sl ([.ref o, .int hv, .int mo]) ++ List.replicate (3 - (lg_sl ([.ref o, .int hv, .int mo])).length) Slot.unset).toArray = ls at hl ⊢
  have hl : lv_has ls 3 [(0, .ref o), (1, .int hv), (2, .int mo)] := hl
  have hF : MF G G o Ar := MF.rf
  refine lv_aload_n hx hb dX14_begins_0 rfl (lv_at hl 0 rfl) ?_
  refine lv_iload_n hx hb dX14_begins_1 rfl (lv_at hl 1 rfl) ?_
  refine lv_iload_n hx hb dX14_begins_2 rfl (lv_at hl 2 rfl) ?_
  refine lv_icmp_ge (tgt := 10) hx hb dX14_begins_3 (by decide) (fun c_3 => ?_) (fun c_3 => ?_)
  · skip
    refine lv_iconst (v := 0) hx hb dX14_begins_10 (by decide) ?_
    have hk23 : q.2 < 0 → tkK ft en q.1 ≠ 2 ∧ tkK ft en q.1 ≠ 3 := hkb
    have hqe : wtQ (tkS ft en) false q = q_begin (tkS ft en) hv mo q := by rw [← wtQ_begin, decide_eq_false (Int32.not_lt.mpr c_3)]
    refine va_calli (va_runV (As := [.int 0]) (rest := []) ⟨hx, hb, hml, hown, (fun _ h9 => absurd h9 List.not_mem_nil : ∀ w ∈ ([] : List Cond), w.before _ s = true)⟩ (c_M_wants l D cy A X hst hXT G o Ar Iv F L ft sx fr en bo q false hM hQ (fun z => absurd z Bool.false_ne_true)) (tb_cw (C := RX14) 1 hT tw_1705 tw_109 tw_1702 tw_1704 tw_70 rfl rfl hq_X14_wants ⟨Nat.le_of_ble_eq_true rfl, Nat.le_of_ble_eq_true rfl⟩) (mk_preC hst hG hK hA hX hS vc_15 hM.1) rfl rfl hl.1 rfl (lv_room (Nat.le_of_ble_eq_true rfl)) dX14_begins_11 ⟨Nat.le_of_ble_eq_true rfl, Nat.le_of_ble_eq_true rfl⟩) hS (fun q _ h => h) (fun q h => h) (fun r1 G2 t H locs ht hvm hw hB hz1 hk1 hS => ?_)
    have hG : mm D vwCl A G2 H := by rw [← ht]; exact hB
    clear hB hz1 hk1 hvm ht
    obtain ⟨hr1, I3, F4, hM2, hF2, hQ2, hI2, hX2⟩ := hw
    replace hF := hF.tr hF2
    replace hM := hM2; clear hM2 hF2
    have hQ := hQ2; clear hQ2
    have hIX := hI2; have hFX := hX2; clear hI2 hX2
    exact W.zret (v := r1) hx hb hr (by rw [hr1]; exact nar_b2i _) (fun t ht hW => ⟨⟨_, _, rfl, ⟨(by rw [← hqe]; exact hr1), _, _, hM, hF, (by rw [← hqe]; exact hQ), hIX, hFX⟩, mk_end hG ht⟩, hS.F ht⟩) hS.2.2 dX14_begins_14
  · skip
    refine lv_iconst (v := 1) hx hb dX14_begins_6 (by decide) ?_
    refine lv_goto (tgt := 11) hx hb dX14_begins_7 (by decide) ?_
    have hk23 : q.2 < 0 → tkK ft en q.1 ≠ 2 ∧ tkK ft en q.1 ≠ 3 := hkb
    have hqe : wtQ (tkS ft en) true q = q_begin (tkS ft en) hv mo q := by rw [← wtQ_begin, decide_eq_true (Int32.not_le.mp c_3)]
    refine va_calli (va_runV (As := [.int 1]) (rest := []) ⟨hx, hb, hml, hown, (fun _ h9 => absurd h9 List.not_mem_nil : ∀ w ∈ ([] : List Cond), w.before _ s = true)⟩ (c_M_wants l D cy A X hst hXT G o Ar Iv F L ft sx fr en bo q true hM hQ (fun _ => hk23)) (tb_cw (C := RX14) 1 hT tw_1705 tw_109 tw_1702 tw_1704 tw_70 rfl rfl hq_X14_wants ⟨Nat.le_of_ble_eq_true rfl, Nat.le_of_ble_eq_true rfl⟩) (mk_preC hst hG hK hA hX hS vc_15 hM.1) rfl rfl hl.1 rfl (lv_room (Nat.le_of_ble_eq_true rfl)) dX14_begins_11 ⟨Nat.le_of_ble_eq_true rfl, Nat.le_of_ble_eq_true rfl⟩) hS (fun q _ h => h) (fun q h => h) (fun r5 G6 t H locs ht hvm hw hB hz1 hk1 hS => ?_)
    have hG : mm D vwCl A G6 H := by rw [← ht]; exact hB
    clear hB hz1 hk1 hvm ht
    obtain ⟨hr5, I7, F8, hM2, hF2, hQ2, hI2, hX2⟩ := hw
    replace hF := hF.tr hF2
    replace hM := hM2; clear hM2 hF2
    have hQ := hQ2; clear hQ2
    have hIX := hI2; have hFX := hX2; clear hI2 hX2
    exact W.zret (v := r5) hx hb hr (by rw [hr5]; exact nar_b2i _) (fun t ht hW => ⟨⟨_, _, rfl, ⟨(by rw [← hqe]; exact hr5), _, _, hM, hF, (by rw [← hqe]; exact hQ), hIX, hFX⟩, mk_end hG ht⟩, hS.F ht⟩) hS.2.2 dX14_begins_14

set_option maxHeartbeats 4000000 in
set_option maxRecDepth 100000 in
theorem c_M_signed (l : Launch) (D : va_G) (cy : Nat → ClassId) (A : Nat → Prop) (X : State → Prop) (hst : mk_St A X) (hXT : ∀ U : State, X U → TB U) (G : Nat → Option va_E) (o : Nat) (Ar : Nat → Nat) (Iv : Nat → Int32) (F : Nat → Nat → Int32) (L : Nat → Nat → Int64) (ft : Nat → Int32) (sx fr en bo : Nat) (q : Nat × Int32) (hM : MD cy G o Ar Iv F L) (hQ : LXq Ar Iv F ft sx fr en bo q) : Met l yX14_signed [.code yX14_signed cX14_signed 3 (some .int)] ({ frames := 6, cells := 0, slots := 0, locals := 180 }) (mk_Pre D vwCl (tyL cy) A X G [.ref o]) (va_Qi (fun (r : Int32) (G2 : Nat → Option va_E) => ((q_val (tkK ft en) (tkS ft en) (tkV ft en) q).2.2 < 0 → r = (q_val (tkK ft en) (tkS ft en) (tkV ft en) q).1) ∧ ∃ (I2 : Nat → Int32) (F2 : Nat → Nat → Int32), MD cy G2 o Ar I2 F2 L ∧ MF G G2 o Ar ∧ LXq Ar I2 F2 ft sx fr en bo (q_val (tkK ft en) (tkS ft en) (tkV ft en) q).2 ∧ IX I2 = IX Iv ∧ FX F2 = FX F) (mk_B D vwCl A) A) 0 0 A := by
  refine Met.ofW (cc := cX14_signed) (maxL := 3) (ret := (some .int)) (by decide) rfl ?_
  intro p e s m args below meth c s₁ B hml hv
  obtain ⟨rfl, hG, hK, hA, hX⟩ := hv
  have hx := B.exec
  have hb := B.bytes
  have hr := B.returns
  have hlocks := B.notSynchronized
  have hT := hXT s hX
  have hown : s.vm.findClass RX14 = some m.cls := findClass_of_methodNamed B.named
  have hS : va_S A s.heap s.heap [] := va_S.rf
  have hl := lv_entry ([.ref o]) (n := 3) (Nat.le_of_ble_eq_true rfl)
  rw [lg_entry_eq]
  generalize (lg_sl ([.ref o]) ++ List.replicate (3 - (lg_sl ([.ref o])).length) Slot.unset).toArray = ls at hl ⊢
  have hl : lv_has ls 3 [(0, .ref o)] := hl
  have hF : MF G G o Ar := MF.rf
  refine lv_aload_n hx hb dX14_signed_0 rfl (lv_at hl 0 rfl) ?_
  refine lv_bipush (v := 45) hx hb dX14_signed_1 (by decide) ?_
  refine va_calli (va_runV (As := [.int 45]) (rest := []) ⟨hx, hb, hml, hown, (fun _ h9 => absurd h9 List.not_mem_nil : ∀ w ∈ ([] : List Cond), w.before _ s = true)⟩ (c_M_isSign l D cy A X hst hXT G o Ar Iv F L 45 hM) (tb_cw (C := RX14) 1 hT tw_1729 tw_109 tw_1726 tw_1728 tw_76 rfl rfl hq_X14_isSign ⟨Nat.le_of_ble_eq_true rfl, Nat.le_of_ble_eq_true rfl⟩) (mk_preC hst hG hK hA hX hS vc_15 hM.1) rfl rfl hl.1 rfl (lv_room (Nat.le_of_ble_eq_true rfl)) dX14_signed_3 ⟨Nat.le_of_ble_eq_true rfl, Nat.le_of_ble_eq_true rfl⟩) hS (fun q _ h => h) (fun q h => h) (fun r1 G2 t H locs ht hvm hw hB hz1 hk1 hS => ?_)
  have hG : mm D vwCl A G2 H := by rw [← ht]; exact hB
  clear hB hz1 hk1 hvm ht
  obtain ⟨er1, hw⟩ := hw
  rw [hw] at hG
  refine lv_istore_n (lv' := [(1, .int r1), (0, .ref o)]) hx hb dX14_signed_6 rfl hl (by decide) rfl (fun ls hl => ?_)
  refine lv_iload_n hx hb dX14_signed_7 rfl (lv_at hl 0 rfl) ?_
  rw [hQ.isS (w := 10) (y := 45) rfl (by decide) (by decide)] at er1
  refine lv_if_eq (tgt := 15) hx hb dX14_signed_8 (by decide) (fun c_8 => ?_) (fun c_8 => ?_)
  · skip
    refine lv_aload_n hx hb dX14_signed_15 rfl (lv_at hl 1 rfl) ?_
    refine lv_iconst (v := 0) hx hb dX14_signed_16 (by decide) ?_
    refine lv_ldcw hx hb hown (tb_use hT tw_1730) dX14_signed_17 ?_
    refine va_calli (va_runV (As := [.int 0, .int 999999]) (rest := []) ⟨hx, hb, hml, hown, (fun _ h9 => absurd h9 List.not_mem_nil : ∀ w ∈ ([] : List Cond), w.before _ s = true)⟩ (c_M_number l D cy A X hst hXT G o Ar Iv F L ft sx fr en bo q 0 999999 0 999999 hM hQ rfl rfl (by decide) (by decide)) (tb_cw (C := RX14) 2 hT tw_1721 tw_109 tw_1718 tw_1720 tw_74 rfl rfl hq_X14_number ⟨Nat.le_of_ble_eq_true rfl, Nat.le_of_ble_eq_true rfl⟩) (mk_preC hst hG hK hA hX hS vc_15 hM.1) rfl rfl hl.1 rfl (lv_room (Nat.le_of_ble_eq_true rfl)) dX14_signed_20 ⟨Nat.le_of_ble_eq_true rfl, Nat.le_of_ble_eq_true rfl⟩) hS (fun q _ h => h) (fun q h => h) (fun r3 G4 t H locs ht hvm hw hB hz1 hk1 hS => ?_)
    have hG : mm D vwCl A G4 H := by rw [← ht]; exact hB
    clear hB hz1 hk1 hvm ht
    obtain ⟨hr3, I5, F6, hM2, hF2, hQ2, hI2, hX2⟩ := hw
    replace hF := hF.tr hF2
    replace hM := hM2; clear hM2 hF2
    have hQ := hQ2; clear hQ2
    have hIX := hI2; have hFX := hX2; clear hI2 hX2
    refine lv_istore_n (lv' := [(2, .int r3), (1, .int r1), (0, .ref o)]) hx hb dX14_signed_23 rfl hl (by decide) rfl (fun ls hl => ?_)
    refine lv_iload_n hx hb dX14_signed_24 rfl (lv_at hl 1 rfl) ?_
    refine lv_if_eq (tgt := 33) hx hb dX14_signed_25 (by decide) (fun c_25 => ?_) (fun c_25 => ?_)
    · skip
      refine lv_iload_n hx hb dX14_signed_33 rfl (lv_at hl 0 rfl) ?_
      have hqe : q_val (tkK ft en) (tkS ft en) (tkV ft en) q = q_num (tkK ft en) (tkS ft en) (tkV ft en) 0 999999 q := by rw [q_val, if_neg (by rw [b2i_f (by rw [← er1]; exact c_8 : b2i (se (tkK ft en) q.1 q.2 10) = 0)]; exact Bool.false_ne_true)]
      exact W.iret (v := r3) hx hb hr (fun t ht hW => ⟨⟨_, _, rfl, ⟨(by rw [hqe]; exact hr3), _, _, hM, hF, (by rw [hqe]; exact hQ), hIX, hFX⟩, mk_end hG ht⟩, hS.F ht⟩) hS.2.2 dX14_signed_34
    · skip
      exact absurd c_8 c_25
  · skip
    have hs1 := se_t (b2i_t (by rw [← er1]; exact c_8 : ¬ b2i (se (tkK ft en) q.1 q.2 10) = 0))
    refine lv_aload_n hx hb dX14_signed_11 rfl (lv_at hl 1 rfl) ?_
    refine va_callv (va_runV (As := []) (rest := []) ⟨hx, hb, hml, hown, (fun _ h9 => absurd h9 List.not_mem_nil : ∀ w ∈ ([] : List Cond), w.before _ s = true)⟩ (c_M_nextq l D cy A X hst hXT G o Ar Iv F L ft sx fr en bo q hM hQ hs1.1 (by rw [hs1.2]; decide) (by rw [hs1.2]; decide)) (tb_cw (C := RX14) 0 hT tw_1640 tw_109 tw_1637 tw_1639 tw_62 rfl rfl hq_X14_next ⟨Nat.le_of_ble_eq_true rfl, Nat.le_of_ble_eq_true rfl⟩) (mk_preC hst hG hK hA hX hS vc_15 hM.1) rfl rfl hl.1 rfl (lv_room (Nat.le_of_ble_eq_true rfl)) dX14_signed_12 ⟨Nat.le_of_ble_eq_true rfl, Nat.le_of_ble_eq_true rfl⟩) hS (fun q _ h => h) (fun q h => h) (fun  G7 t H locs ht hvm hw hB hz1 hk1 hS => ?_)
    have hG : mm D vwCl A G7 H := by rw [← ht]; exact hB
    clear hB hz1 hk1 hvm ht
    obtain ⟨I8, F9, hM2, hF2, hQ2, hI2, hX2⟩ := hw
    replace hF := hF.tr hF2
    replace hM := hM2; clear hM2 hF2
    have hQ := hQ2; clear hQ2
    have hIX := hI2; have hFX := hX2; clear hI2 hX2
    refine lv_aload_n hx hb dX14_signed_15 rfl (lv_at hl 1 rfl) ?_
    refine lv_iconst (v := 0) hx hb dX14_signed_16 (by decide) ?_
    refine lv_ldcw hx hb hown (tb_use hT tw_1730) dX14_signed_17 ?_
    refine va_calli (va_runV (As := [.int 0, .int 999999]) (rest := []) ⟨hx, hb, hml, hown, (fun _ h9 => absurd h9 List.not_mem_nil : ∀ w ∈ ([] : List Cond), w.before _ s = true)⟩ (c_M_number l D cy A X hst hXT G7 o Ar I8 F9 L ft sx fr en bo (q.1 + 1, q.2) 0 999999 0 999999 hM hQ rfl rfl (by decide) (by decide)) (tb_cw (C := RX14) 2 hT tw_1721 tw_109 tw_1718 tw_1720 tw_74 rfl rfl hq_X14_number ⟨Nat.le_of_ble_eq_true rfl, Nat.le_of_ble_eq_true rfl⟩) (mk_preC hst hG hK hA hX hS vc_15 hM.1) rfl rfl hl.1 rfl (lv_room (Nat.le_of_ble_eq_true rfl)) dX14_signed_20 ⟨Nat.le_of_ble_eq_true rfl, Nat.le_of_ble_eq_true rfl⟩) hS (fun q _ h => h) (fun q h => h) (fun r10 G11 t H locs ht hvm hw hB hz1 hk1 hS => ?_)
    have hG : mm D vwCl A G11 H := by rw [← ht]; exact hB
    clear hB hz1 hk1 hvm ht
    obtain ⟨hr10, I12, F13, hM2, hF2, hQ2, hI2, hX2⟩ := hw
    replace hF := hF.tr hF2
    replace hM := hM2; clear hM2 hF2
    have hQ := hQ2; clear hQ2
    have hIX := hI2.trans hIX; have hFX := hX2.trans hFX; clear hI2 hX2
    refine lv_istore_n (lv' := [(2, .int r10), (1, .int r1), (0, .ref o)]) hx hb dX14_signed_23 rfl hl (by decide) rfl (fun ls hl => ?_)
    refine lv_iload_n hx hb dX14_signed_24 rfl (lv_at hl 1 rfl) ?_
    refine lv_if_eq (tgt := 33) hx hb dX14_signed_25 (by decide) (fun c_25 => ?_) (fun c_25 => ?_)
    · skip
      exact absurd c_25 c_8
    · skip
      refine lv_iload_n hx hb dX14_signed_28 rfl (lv_at hl 0 rfl) ?_
      refine lv_ineg hx hb dX14_signed_29 ?_
      refine lv_goto (tgt := 34) hx hb dX14_signed_30 (by decide) ?_
      have hqe : q_val (tkK ft en) (tkS ft en) (tkV ft en) q = (-(q_num (tkK ft en) (tkS ft en) (tkV ft en) 0 999999 (q.1 + 1, q.2)).1, (q_num (tkK ft en) (tkS ft en) (tkV ft en) 0 999999 (q.1 + 1, q.2)).2) := by rw [q_val, if_pos (b2i_t (by rw [← er1]; exact c_8))]
      exact W.iret (v := (-r10)) hx hb hr (fun t ht hW => ⟨⟨_, _, rfl, ⟨(by rw [hqe]; intro z; rw [hr10 z]), _, _, hM, hF, (by rw [hqe]; exact hQ), hIX, hFX⟩, mk_end hG ht⟩, hS.F ht⟩) hS.2.2 dX14_signed_34
