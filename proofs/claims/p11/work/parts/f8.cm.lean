theorem cutA_st {f : Nat → Int32} {a k : Nat} : ∀ {n j : Nat}, cutA f a n j = some k → k = j + n ∨ aln (f (a + k)) = false := by
  intro n
  induction n with
  | zero => intro j h; injection h with h; exact Or.inl (by omega)
  | succ n ih =>
    intro j h
    rw [cutA] at h
    split at h
    · split at h
      · cases h
      · rcases ih h with y | y
        · exact Or.inl (by omega)
        · exact Or.inr y
    · rename_i hc
      injection h with h
      rw [← h]
      exact Or.inr (by unfold aln; cases hq : (isLe (f (a + j)) || isDi (f (a + j))) with | false => rfl | true => exact absurd hq hc)
theorem c1R_0 {f : Nat → Int32} {a en : Nat} (ha : a < en) (h : (c1R f a en).1.1 = 0) : isLe (f a) = true ∧ ((c1R f a en).2 = en ∨ aln (f (c1R f a en).2) = false) := by
  unfold c1R at h ⊢
  split at h
  · rename_i hL
    rw [if_pos hL]
    refine ⟨hL, ?_⟩
    unfold nmR at h ⊢
    split at h
    · exact absurd h (by show ¬ (3 : Nat) = 0; decide)
    · rename_i j hc
      rcases cutA_st hc with y | y
      · exact Or.inl (by show a + j = en; omega)
      · exact Or.inr y
  · split at h
    · unfold cnR at h
      split at h
      · exact absurd h (by show ¬ (3 : Nat) = 0; decide)
      · split at h
        · exact absurd h (by show ¬ (3 : Nat) = 0; decide)
        · exact absurd h (by show ¬ (1 : Nat) = 0; decide)
    · split at h
      · exact absurd h (by show ¬ (3 : Nat) = 0; decide)
      · rename_i i hi
        rw [stF_1] at hi
        exact absurd h (sgK_4 hi)
theorem PA.nt {f : Nat → Int32} {en : Nat} (hen : en ≤ 2000) : ∀ {d p i : Nat}, en - p ≤ d → PA f en p i → (ntL (tkK f en) (tkV f en) (tkN f en)).1 ≤ 1000 := by
  have hfin : ∀ {p i : Nat}, en ≤ p → PA f en p i → (ntL (tkK f en) (tkV f en) (tkN f en)).1 ≤ 1000 := by
    intro p i hp h
    obtain ⟨a1, a2, -, -⟩ := h.1.fin hp
    rw [a1, ntL_ne (by rw [a2]; decide)]
    have y := h.2.1
    rcases h.2.2.2 with z | ⟨z, -⟩ <;> omega
  intro d
  induction d with
  | zero => intro p i hd h; exact hfin (by omega) h
  | succ d ih =>
    intro p i hd h
    by_cases hp : en ≤ p
    · exact hfin hp h
    · cases hb : isBl (f p) with
      | true => exact ih (by omega) (h.blank (by omega) hb)
      | false =>
        obtain ⟨m, c1, c2, c3, c4, -⟩ := @c1R_b f p en (by omega)
        have hc0 := @c1R_0 f p en (by omega)
        obtain ⟨⟨⟨k, st, v⟩, e⟩, hc⟩ : ∃ y, c1R f p en = y := ⟨_, rfl⟩
        rw [hc] at c3 c4 hc0
        dsimp only at c3 c4 hc0
        obtain ⟨t1, t2, -, -⟩ := h.1.tok (by omega) hb hc (by omega)
        refine ih (p := e) (i := i + 1) (by omega) ⟨t1, c4, by have := h.2.2.1; omega, ?_⟩
        by_cases hk : k = 0
        · obtain ⟨e1, e2⟩ := hc0 hk
          have m1 := h.m (by omega) (le_al e1)
          have m2 := @ntL_1 (tkK f en) (tkV f en) i
          rcases Nat.lt_or_ge e (2 * (ntL (tkK f en) (tkV f en) (i + 1)).1) with h5 | h5
          · refine Or.inr ⟨by omega, fun h6 => ?_⟩
            rcases e2 with e2 | e2
            · omega
            · exact e2
          · exact Or.inl h5
        · rw [ntL_ne (by rw [t2]; exact hk)]
          refine Or.inl ?_
          rcases h.2.2.2 with z | ⟨z, -⟩ <;> omega
theorem nt1000 {f : Nat → Int32} {en n : Nat} (hen : en ≤ 2000) (hn : n ≤ tkN f en) : (ntL (tkK f en) (tkV f en) n).1 ≤ 1000 := Nat.le_trans (ntL_pre hn).1 (PA.nt hen (Nat.le_refl _) PA.zero)
theorem NMt.nb {K : Nat → Nat} {V : Nat → Int64} {n : Nat} {r : Int32} {x : Int64} (h : NMt K V n r x) (hn : (ntL K V n).1 ≤ 1000) : ∃ a, a ≤ 1000 ∧ r = nI a ∧ a ≤ (ntL K V n).1 := by
  rcases h with ⟨h1, -⟩ | ⟨-, j, h1, h2, -⟩
  · exact ⟨0, by decide, h1, Nat.zero_le _⟩
  · exact ⟨j + 1, by omega, h2, h1⟩
/-- the names of a book have at most 12 signs -/
def NLb (F : Nat → Nat → Int32) (d m : Nat) : Prop := ∀ a, 1 ≤ a → a ≤ m → ∃ ln, ln ≤ 12 ∧ F 7 (1001 * d + a) = nI ln
theorem NTb.nl {F : Nat → Nat → Int32} {d m : Nat} {nv : Nat → Int64} (h : NTb F d m nv) : NLb F d m := fun a h1 h2 => by
  obtain ⟨ln, -, a2, a3, -⟩ := h.2 (a - 1) (by omega)
  rw [show a - 1 + 1 = a by omega] at a3
  exact ⟨ln, a2, a3⟩
theorem nI_md (b s j : Nat) : nI 12012 * nI b + nI 12 * nI s + nI j = nI (12012 * b + 12 * s + j) := by
  rw [show nI 12012 * nI b = nI (12012 * b) from (Int32.ofNat_mul 12012 b).symm, show nI 12 * nI s = nI (12 * s) from (Int32.ofNat_mul 12 s).symm, nI_add, nI_add]

set_option maxHeartbeats 4000000 in
set_option maxRecDepth 100000 in
theorem c_M_isNamed (l : Launch) (D : va_G) (cy : Nat → ClassId) (A : Nat → Prop) (X : State → Prop) (hst : mk_St A X) (hXT : ∀ U : State, X U → TB U) (G : Nat → Option va_E) (o : Nat) (Ar : Nat → Nat) (Iv : Nat → Int32) (F : Nat → Nat → Int32) (L : Nat → Nat → Int64) (b9 d9 a9 c9 m9 : Nat) (hM : MD cy G o Ar Iv F L) (hb9 : b9 < 2) (hd9 : d9 < 2) (hbk : Iv 42 = nI b9) (h41 : Iv 41 = nI d9) (ha : a9 ≤ 1000) (hc : c9 ≤ 1000) (hcm : c9 ≤ m9) (hNL : NLb F d9 m9) : Met l yX14_isNamed [.code yX14_isNamed cX14_isNamed 5 (some .boolean)] ({ frames := 0, cells := 0, slots := 0, locals := 0 }) (mk_Pre D vwCl (tyL cy) A X G [.ref o, .int (nI a9), .int (nI c9)]) (va_Qi (fun (r : Int32) (G2 : Nat → Option va_E) => (r = 0 ∨ r = 1) ∧ G2 = G) (mk_B D vwCl A) A) 0 0 A := by
  refine Met.ofW (cc := cX14_isNamed) (maxL := 5) (ret := (some .boolean)) (by decide) rfl ?_
  intro p e s m args below meth c s₁ B hml hv
  obtain ⟨rfl, hG, hK, hA, hX⟩ := hv
  have hx := B.exec
  have hb := B.bytes
  have hr := B.returns
  have hlocks := B.notSynchronized
  have hT := hXT s hX
  have hown : s.vm.findClass RX14 = some m.cls := findClass_of_methodNamed B.named
  have hf_X14 : ∀ w ∈ u_ws RX14 TX14 76, w.before ([.ref o, .int (nI a9), .int (nI c9)] : List Value).toArray s = true := tb_list hT fX14
  have hS : va_S A s.heap s.heap [] := va_S.rf
  have hl := lv_entry ([.ref o, .int (nI a9), .int (nI c9)]) (n := 5) (Nat.le_of_ble_eq_true rfl)
  rw [lg_entry_eq]
  generalize (lg_sl ([.ref o, .int (nI a9), .int (nI c9)]) ++ List.replicate (5 - (lg_sl ([.ref o, .int (nI a9), .int (nI c9)])).length) Slot.unset).toArray = ls at hl ⊢
  have hl : lv_has ls 5 [(0, .ref o), (1, .int (nI a9)), (2, .int (nI c9))] := hl
  have hln_ : ∀ (n : Nat) (j9 : Nat) (xh : Int32), (n + j9 = 12) → (xh = 0 ∨ xh = 1) → (¬ xh = 0 → ∃ ln, ln ≤ 12 ∧ F 7 (1001 * b9 + a9) = nI ln) → ∀ (Gv : Nat → Option va_E), (MD cy Gv o Ar Iv F L) → (Gv = G) → ∀ (H : Heap) (locs : List Loc), mm D vwCl A Gv H → va_S A s.heap H locs → ∀ ls : Array Slot, lv_has ls 5 [(0, .ref o), (1, .int (nI a9)), (2, .int (nI c9)), (3, .int xh), (4, .int (nI j9))] → W p l e (headSpec [.code yX14_isNamed cX14_isNamed 5 (some .boolean)] ({ frames := 0, cells := 0, slots := 0, locals := 0 })).room s m ([.ref o, .int (nI a9), .int (nI c9)] : List Value).toArray below meth c H locs 0 0 (MQ below (va_Qi (fun (r : Int32) (G2 : Nat → Option va_E) => (r = 0 ∨ r = 1) ∧ G2 = G) (mk_B D vwCl A) A) ([.ref o, .int (nI a9), .int (nI c9)] : List Value).toArray s 0 0 A) (F0 m 61 ls []) := by
    intro n
    induction n with
    | zero =>
      intro j9 xh hjn hxh hsm Gv hM hGe H locs hG hS ls hl
      refine lv_iload hx hb dX14_isNamed_61 (lv_at hl 4 rfl) ?_
      refine lv_aload_n hx hb dX14_isNamed_63 rfl (lv_at hl 0 rfl) ?_
      refine mm_get (v := .ref (Ar 7)) hx hb hf_X14 (fun _ h9 => h9) hown hK hG hM.1 rfl 7 (by decide) (tb_use hT tw_1398) (fun _ h9 => h9) (mfs_g7 _ _) dX14_isNamed_64 ?_
      refine lv_sipush (v := 1001) hx hb dX14_isNamed_67 (by decide) ?_
      refine lv_aload_n hx hb dX14_isNamed_70 rfl (lv_at hl 0 rfl) ?_
      refine mm_get (v := .int (Iv 42)) hx hb hf_X14 (fun _ h9 => h9) hown hK hG hM.1 rfl 42 (by decide) (tb_use hT tw_1433) (fun _ h9 => h9) (mfs_g42 _ _) dX14_isNamed_71 ?_
      rw [show (Iv 42) = nI b9 from hbk]
      refine lv_imul hx hb dX14_isNamed_74 ?_
      refine lv_iload_n hx hb dX14_isNamed_75 rfl (lv_at hl 1 rfl) ?_
      refine lv_iadd hx hb dX14_isNamed_76 ?_
      refine mm_iald (n := 2002) (f := F 7) hx hb hK hG 1 (hM.2.1 7 rfl) rfl (by rw [show (1001 : Int32) * nI b9 + nI a9 = nI (1001 * b9 + a9) from nI_ma 1001 b9 a9]; exact nI_in (N := 2002) (by omega) (by decide)) dX14_isNamed_77 ?_
      refine lv_topi (fun x1 ex1 => ?_)
      refine lv_icmp_ge (tgt := 142) hx hb dX14_isNamed_78 (by decide) (fun c_78 => ?_) (fun c_78 => ?_)
      · skip
        refine lv_iload_n hx hb dX14_isNamed_142 rfl (lv_at hl 3 rfl) ?_
        exact W.zret (v := xh) hx hb hr (by rcases hxh with z | z <;> rw [z] <;> rfl) (fun t ht hW => ⟨⟨_, _, rfl, ⟨hxh, hGe⟩, mk_end hG ht⟩, hS.F ht⟩) hS.2.2 dX14_isNamed_143
      · skip
        refine lv_iload_n hx hb dX14_isNamed_81 rfl (lv_at hl 3 rfl) ?_
        refine lv_if_eq (tgt := 142) hx hb dX14_isNamed_82 (by decide) (fun c_82 => ?_) (fun c_82 => ?_)
        · skip
          refine lv_iload_n hx hb dX14_isNamed_142 rfl (lv_at hl 3 rfl) ?_
          exact W.zret (v := xh) hx hb hr (by rcases hxh with z | z <;> rw [z] <;> rfl) (fun t ht hW => ⟨⟨_, _, rfl, ⟨hxh, hGe⟩, mk_end hG ht⟩, hS.F ht⟩) hS.2.2 dX14_isNamed_143
        · skip
          exact Exists.elim (hsm c_82) (fun ln9 hln9 => absurd (nI_lt_of (a := j9) (b := ln9) (by omega) (by have y := hln9.1; omega) (by have z := c_78; rw [ex1, show (1001 : Int32) * nI b9 + nI a9 = nI (1001 * b9 + a9) from nI_ma 1001 b9 a9, nI_clamp (by omega), hln9.2] at z; exact z)) (by have y := hln9.1; omega))
    | succ n ih =>
      intro j9 xh hjn hxh hsm Gv hM hGe H locs hG hS ls hl
      refine lv_iload hx hb dX14_isNamed_61 (lv_at hl 4 rfl) ?_
      refine lv_aload_n hx hb dX14_isNamed_63 rfl (lv_at hl 0 rfl) ?_
      refine mm_get (v := .ref (Ar 7)) hx hb hf_X14 (fun _ h9 => h9) hown hK hG hM.1 rfl 7 (by decide) (tb_use hT tw_1398) (fun _ h9 => h9) (mfs_g7 _ _) dX14_isNamed_64 ?_
      refine lv_sipush (v := 1001) hx hb dX14_isNamed_67 (by decide) ?_
      refine lv_aload_n hx hb dX14_isNamed_70 rfl (lv_at hl 0 rfl) ?_
      refine mm_get (v := .int (Iv 42)) hx hb hf_X14 (fun _ h9 => h9) hown hK hG hM.1 rfl 42 (by decide) (tb_use hT tw_1433) (fun _ h9 => h9) (mfs_g42 _ _) dX14_isNamed_71 ?_
      rw [show (Iv 42) = nI b9 from hbk]
      refine lv_imul hx hb dX14_isNamed_74 ?_
      refine lv_iload_n hx hb dX14_isNamed_75 rfl (lv_at hl 1 rfl) ?_
      refine lv_iadd hx hb dX14_isNamed_76 ?_
      refine mm_iald (n := 2002) (f := F 7) hx hb hK hG 1 (hM.2.1 7 rfl) rfl (by rw [show (1001 : Int32) * nI b9 + nI a9 = nI (1001 * b9 + a9) from nI_ma 1001 b9 a9]; exact nI_in (N := 2002) (by omega) (by decide)) dX14_isNamed_77 ?_
      refine lv_topi (fun x2 ex2 => ?_)
      refine lv_icmp_ge (tgt := 142) hx hb dX14_isNamed_78 (by decide) (fun c_78 => ?_) (fun c_78 => ?_)
      · skip
        refine lv_iload_n hx hb dX14_isNamed_142 rfl (lv_at hl 3 rfl) ?_
        exact W.zret (v := xh) hx hb hr (by rcases hxh with z | z <;> rw [z] <;> rfl) (fun t ht hW => ⟨⟨_, _, rfl, ⟨hxh, hGe⟩, mk_end hG ht⟩, hS.F ht⟩) hS.2.2 dX14_isNamed_143
      · skip
        refine lv_iload_n hx hb dX14_isNamed_81 rfl (lv_at hl 3 rfl) ?_
        refine lv_if_eq (tgt := 142) hx hb dX14_isNamed_82 (by decide) (fun c_82 => ?_) (fun c_82 => ?_)
        · skip
          refine lv_iload_n hx hb dX14_isNamed_142 rfl (lv_at hl 3 rfl) ?_
          exact W.zret (v := xh) hx hb hr (by rcases hxh with z | z <;> rw [z] <;> rfl) (fun t ht hW => ⟨⟨_, _, rfl, ⟨hxh, hGe⟩, mk_end hG ht⟩, hS.F ht⟩) hS.2.2 dX14_isNamed_143
        · skip
          obtain ⟨ln9, hl12, hlb⟩ := hsm c_82
          have hjl : j9 < ln9 := nI_lt_of (by omega) (by omega) (by have z := c_78; rw [ex2, show (1001 : Int32) * nI b9 + nI a9 = nI (1001 * b9 + a9) from nI_ma 1001 b9 a9, nI_clamp (by omega), hlb] at z; exact z)
          refine lv_aload_n hx hb dX14_isNamed_85 rfl (lv_at hl 0 rfl) ?_
          refine mm_get (v := .ref (Ar 8)) hx hb hf_X14 (fun _ h9 => h9) hown hK hG hM.1 rfl 8 (by decide) (tb_use hT tw_1399) (fun _ h9 => h9) (mfs_g8 _ _) dX14_isNamed_86 ?_
          refine lv_sipush (v := 12012) hx hb dX14_isNamed_89 (by decide) ?_
          refine lv_aload_n hx hb dX14_isNamed_92 rfl (lv_at hl 0 rfl) ?_
          refine mm_get (v := .int (Iv 42)) hx hb hf_X14 (fun _ h9 => h9) hown hK hG hM.1 rfl 42 (by decide) (tb_use hT tw_1433) (fun _ h9 => h9) (mfs_g42 _ _) dX14_isNamed_93 ?_
          rw [show (Iv 42) = nI b9 from hbk]
          refine lv_imul hx hb dX14_isNamed_96 ?_
          refine lv_bipush (v := 12) hx hb dX14_isNamed_97 (by decide) ?_
          refine lv_iload_n hx hb dX14_isNamed_99 rfl (lv_at hl 1 rfl) ?_
          refine lv_imul hx hb dX14_isNamed_100 ?_
          refine lv_iadd hx hb dX14_isNamed_101 ?_
          refine lv_iload hx hb dX14_isNamed_102 (lv_at hl 4 rfl) ?_
          refine lv_iadd hx hb dX14_isNamed_104 ?_
          refine mm_iald (n := 24024) (f := F 8) hx hb hK hG 1 (hM.2.1 8 rfl) rfl (by rw [show (12012 : Int32) * nI b9 + (12 : Int32) * nI a9 + nI j9 = nI (12012 * b9 + 12 * a9 + j9) from nI_md b9 a9 j9]; exact nI_in (N := 24024) (by omega) (by decide)) dX14_isNamed_105 ?_
          refine lv_topi (fun x3 ex3 => ?_)
          refine lv_aload_n hx hb dX14_isNamed_106 rfl (lv_at hl 0 rfl) ?_
          refine mm_get (v := .ref (Ar 8)) hx hb hf_X14 (fun _ h9 => h9) hown hK hG hM.1 rfl 8 (by decide) (tb_use hT tw_1399) (fun _ h9 => h9) (mfs_g8 _ _) dX14_isNamed_107 ?_
          refine lv_sipush (v := 12012) hx hb dX14_isNamed_110 (by decide) ?_
          refine lv_aload_n hx hb dX14_isNamed_113 rfl (lv_at hl 0 rfl) ?_
          refine mm_get (v := .int (Iv 41)) hx hb hf_X14 (fun _ h9 => h9) hown hK hG hM.1 rfl 41 (by decide) (tb_use hT tw_1432) (fun _ h9 => h9) (mfs_g41 _ _) dX14_isNamed_114 ?_
          rw [show (Iv 41) = nI d9 from h41]
          refine lv_imul hx hb dX14_isNamed_117 ?_
          refine lv_bipush (v := 12) hx hb dX14_isNamed_118 (by decide) ?_
          refine lv_iload_n hx hb dX14_isNamed_120 rfl (lv_at hl 2 rfl) ?_
          refine lv_imul hx hb dX14_isNamed_121 ?_
          refine lv_iadd hx hb dX14_isNamed_122 ?_
          refine lv_iload hx hb dX14_isNamed_123 (lv_at hl 4 rfl) ?_
          refine lv_iadd hx hb dX14_isNamed_125 ?_
          refine mm_iald (n := 24024) (f := F 8) hx hb hK hG 1 (hM.2.1 8 rfl) rfl (by rw [show (12012 : Int32) * nI d9 + (12 : Int32) * nI c9 + nI j9 = nI (12012 * d9 + 12 * c9 + j9) from nI_md d9 c9 j9]; exact nI_in (N := 24024) (by omega) (by decide)) dX14_isNamed_126 ?_
          refine lv_topi (fun x4 ex4 => ?_)
          refine lv_icmp_ne (tgt := 134) hx hb dX14_isNamed_127 (by decide) (fun c_127 => ?_) (fun c_127 => ?_)
          · skip
            refine lv_iconst (v := 0) hx hb dX14_isNamed_134 (by decide) ?_
            refine lv_istore_n (lv' := [(3, .int 0), (0, .ref o), (1, .int (nI a9)), (2, .int (nI c9)), (4, .int (nI j9))]) hx hb dX14_isNamed_135 rfl hl (by decide) rfl (fun ls hl => ?_)
            obtain ⟨x5, ex5⟩ : ∃ y : Int32, y = (nI j9) + 1 := ⟨_, rfl⟩
            refine lv_iinc (v := x5) (lv' := [(4, .int x5), (3, .int 0), (0, .ref o), (1, .int (nI a9)), (2, .int (nI c9))]) hx hb dX14_isNamed_136 hl (k := 4) rfl (by rw [ex5]; rfl) (by decide) rfl (fun ls hl => ?_)
            refine lv_goto (tgt := 61) hx hb dX14_isNamed_139 (by decide) ?_
            rw [show x5 = nI (j9 + 1) by rw [ex5]; exact (nI_succ j9).symm] at hl
            exact ih (j9 + 1) 0 (by omega) (Or.inl rfl) (fun _ => ⟨ln9, hl12, hlb⟩) Gv hM hGe _ _ hG hS ls (lv_sub hl [2, 3, 4, 1, 0] rfl)
          · skip
            refine lv_iconst (v := 1) hx hb dX14_isNamed_130 (by decide) ?_
            refine lv_goto (tgt := 135) hx hb dX14_isNamed_131 (by decide) ?_
            refine lv_istore_n (lv' := [(3, .int 1), (0, .ref o), (1, .int (nI a9)), (2, .int (nI c9)), (4, .int (nI j9))]) hx hb dX14_isNamed_135 rfl hl (by decide) rfl (fun ls hl => ?_)
            obtain ⟨x6, ex6⟩ : ∃ y : Int32, y = (nI j9) + 1 := ⟨_, rfl⟩
            refine lv_iinc (v := x6) (lv' := [(4, .int x6), (3, .int 1), (0, .ref o), (1, .int (nI a9)), (2, .int (nI c9))]) hx hb dX14_isNamed_136 hl (k := 4) rfl (by rw [ex6]; rfl) (by decide) rfl (fun ls hl => ?_)
            refine lv_goto (tgt := 61) hx hb dX14_isNamed_139 (by decide) ?_
            rw [show x6 = nI (j9 + 1) by rw [ex6]; exact (nI_succ j9).symm] at hl
            exact ih (j9 + 1) 1 (by omega) (Or.inr rfl) (fun _ => ⟨ln9, hl12, hlb⟩) Gv hM hGe _ _ hG hS ls (lv_sub hl [2, 3, 4, 1, 0] rfl)
  refine lv_iload_n hx hb dX14_isNamed_0 rfl (lv_at hl 1 rfl) ?_
  refine lv_if_eq (tgt := 8) hx hb dX14_isNamed_1 (by decide) (fun c_1 => ?_) (fun c_1 => ?_)
  · skip
    refine lv_iload_n hx hb dX14_isNamed_8 rfl (lv_at hl 1 rfl) ?_
    refine lv_iload_n hx hb dX14_isNamed_9 rfl (lv_at hl 2 rfl) ?_
    refine lv_icmp_ne (tgt := 17) hx hb dX14_isNamed_10 (by decide) (fun c_10 => ?_) (fun c_10 => ?_)
    · skip
      refine lv_iconst (v := 0) hx hb dX14_isNamed_17 (by decide) ?_
      exact W.zret (v := 0) hx hb hr rfl (fun t ht hW => ⟨⟨_, _, rfl, ⟨(Or.inl rfl), rfl⟩, mk_end hG ht⟩, hS.F ht⟩) hS.2.2 dX14_isNamed_18
    · skip
      refine lv_iconst (v := 1) hx hb dX14_isNamed_13 (by decide) ?_
      refine lv_goto (tgt := 18) hx hb dX14_isNamed_14 (by decide) ?_
      exact W.zret (v := 1) hx hb hr rfl (fun t ht hW => ⟨⟨_, _, rfl, ⟨(Or.inr rfl), rfl⟩, mk_end hG ht⟩, hS.F ht⟩) hS.2.2 dX14_isNamed_18
  · skip
    refine lv_iload_n hx hb dX14_isNamed_4 rfl (lv_at hl 2 rfl) ?_
    refine lv_if_ne (tgt := 19) hx hb dX14_isNamed_5 (by decide) (fun c_5 => ?_) (fun c_5 => ?_)
    · skip
      refine lv_aload_n hx hb dX14_isNamed_19 rfl (lv_at hl 0 rfl) ?_
      refine mm_get (v := .ref (Ar 7)) hx hb hf_X14 (fun _ h9 => h9) hown hK hG hM.1 rfl 7 (by decide) (tb_use hT tw_1398) (fun _ h9 => h9) (mfs_g7 _ _) dX14_isNamed_20 ?_
      refine lv_sipush (v := 1001) hx hb dX14_isNamed_23 (by decide) ?_
      refine lv_aload_n hx hb dX14_isNamed_26 rfl (lv_at hl 0 rfl) ?_
      refine mm_get (v := .int (Iv 42)) hx hb hf_X14 (fun _ h9 => h9) hown hK hG hM.1 rfl 42 (by decide) (tb_use hT tw_1433) (fun _ h9 => h9) (mfs_g42 _ _) dX14_isNamed_27 ?_
      rw [show (Iv 42) = nI b9 from hbk]
      refine lv_imul hx hb dX14_isNamed_30 ?_
      refine lv_iload_n hx hb dX14_isNamed_31 rfl (lv_at hl 1 rfl) ?_
      refine lv_iadd hx hb dX14_isNamed_32 ?_
      refine mm_iald (n := 2002) (f := F 7) hx hb hK hG 1 (hM.2.1 7 rfl) rfl (by rw [show (1001 : Int32) * nI b9 + nI a9 = nI (1001 * b9 + a9) from nI_ma 1001 b9 a9]; exact nI_in (N := 2002) (by omega) (by decide)) dX14_isNamed_33 ?_
      refine lv_topi (fun x7 ex7 => ?_)
      refine lv_aload_n hx hb dX14_isNamed_34 rfl (lv_at hl 0 rfl) ?_
      refine mm_get (v := .ref (Ar 7)) hx hb hf_X14 (fun _ h9 => h9) hown hK hG hM.1 rfl 7 (by decide) (tb_use hT tw_1398) (fun _ h9 => h9) (mfs_g7 _ _) dX14_isNamed_35 ?_
      refine lv_sipush (v := 1001) hx hb dX14_isNamed_38 (by decide) ?_
      refine lv_aload_n hx hb dX14_isNamed_41 rfl (lv_at hl 0 rfl) ?_
      refine mm_get (v := .int (Iv 41)) hx hb hf_X14 (fun _ h9 => h9) hown hK hG hM.1 rfl 41 (by decide) (tb_use hT tw_1432) (fun _ h9 => h9) (mfs_g41 _ _) dX14_isNamed_42 ?_
      rw [show (Iv 41) = nI d9 from h41]
      refine lv_imul hx hb dX14_isNamed_45 ?_
      refine lv_iload_n hx hb dX14_isNamed_46 rfl (lv_at hl 2 rfl) ?_
      refine lv_iadd hx hb dX14_isNamed_47 ?_
      refine mm_iald (n := 2002) (f := F 7) hx hb hK hG 1 (hM.2.1 7 rfl) rfl (by rw [show (1001 : Int32) * nI d9 + nI c9 = nI (1001 * d9 + c9) from nI_ma 1001 d9 c9]; exact nI_in (N := 2002) (by omega) (by decide)) dX14_isNamed_48 ?_
      refine lv_topi (fun x8 ex8 => ?_)
      refine lv_icmp_ne (tgt := 56) hx hb dX14_isNamed_49 (by decide) (fun c_49 => ?_) (fun c_49 => ?_)
      · skip
        refine lv_iconst (v := 0) hx hb dX14_isNamed_56 (by decide) ?_
        refine lv_istore_n (lv' := [(3, .int 0), (0, .ref o), (1, .int (nI a9)), (2, .int (nI c9))]) hx hb dX14_isNamed_57 rfl hl (by decide) rfl (fun ls hl => ?_)
        refine lv_iconst (v := 0) hx hb dX14_isNamed_58 (by decide) ?_
        refine lv_istore (lv' := [(4, .int 0), (3, .int 0), (0, .ref o), (1, .int (nI a9)), (2, .int (nI c9))]) hx hb dX14_isNamed_59 hl (by decide) rfl (fun ls hl => ?_)
        exact hln_ 12 0 0 (by omega) (Or.inl rfl) (fun z => absurd rfl z) G hM rfl _ _ hG hS ls (lv_sub hl [2, 3, 4, 1, 0] rfl)
      · skip
        refine lv_iconst (v := 1) hx hb dX14_isNamed_52 (by decide) ?_
        refine lv_goto (tgt := 57) hx hb dX14_isNamed_53 (by decide) ?_
        refine lv_istore_n (lv' := [(3, .int 1), (0, .ref o), (1, .int (nI a9)), (2, .int (nI c9))]) hx hb dX14_isNamed_57 rfl hl (by decide) rfl (fun ls hl => ?_)
        refine lv_iconst (v := 0) hx hb dX14_isNamed_58 (by decide) ?_
        refine lv_istore (lv' := [(4, .int 0), (3, .int 1), (0, .ref o), (1, .int (nI a9)), (2, .int (nI c9))]) hx hb dX14_isNamed_59 hl (by decide) rfl (fun ls hl => ?_)
        obtain ⟨ln9, hl12, hln9⟩ := hNL c9 (Nat.pos_of_ne_zero (fun y => c_5 (by rw [y]; rfl))) hcm
        have hlb : F 7 (1001 * b9 + a9) = nI ln9 := by have z := c_49; rw [ex7, ex8, show (1001 : Int32) * nI b9 + nI a9 = nI (1001 * b9 + a9) from nI_ma 1001 b9 a9, show (1001 : Int32) * nI d9 + nI c9 = nI (1001 * d9 + c9) from nI_ma 1001 d9 c9, nI_clamp (by omega), nI_clamp (by omega)] at z; exact z.trans hln9
        exact hln_ 12 0 1 (by omega) (Or.inr rfl) (fun _ => ⟨ln9, hl12, hlb⟩) G hM rfl _ _ hG hS ls (lv_sub hl [2, 3, 4, 1, 0] rfl)
    · skip
      refine lv_iload_n hx hb dX14_isNamed_8 rfl (lv_at hl 1 rfl) ?_
      refine lv_iload_n hx hb dX14_isNamed_9 rfl (lv_at hl 2 rfl) ?_
      refine lv_icmp_ne (tgt := 17) hx hb dX14_isNamed_10 (by decide) (fun c_10 => ?_) (fun c_10 => ?_)
      · skip
        refine lv_iconst (v := 0) hx hb dX14_isNamed_17 (by decide) ?_
        exact W.zret (v := 0) hx hb hr rfl (fun t ht hW => ⟨⟨_, _, rfl, ⟨(Or.inl rfl), rfl⟩, mk_end hG ht⟩, hS.F ht⟩) hS.2.2 dX14_isNamed_18
      · skip
        refine lv_iconst (v := 1) hx hb dX14_isNamed_13 (by decide) ?_
        refine lv_goto (tgt := 18) hx hb dX14_isNamed_14 (by decide) ?_
        exact W.zret (v := 1) hx hb hr rfl (fun t ht hW => ⟨⟨_, _, rfl, ⟨(Or.inr rfl), rfl⟩, mk_end hG ht⟩, hS.F ht⟩) hS.2.2 dX14_isNamed_18

set_option maxHeartbeats 4000000 in
set_option maxRecDepth 100000 in
theorem c_M_isCodingLike (l : Launch) (D : va_G) (cy : Nat → ClassId) (A : Nat → Prop) (X : State → Prop) (hst : mk_St A X) (hXT : ∀ U : State, X U → TB U) (G : Nat → Option va_E) (o : Nat) (Ar : Nat → Nat) (Iv : Nat → Int32) (F : Nat → Nat → Int32) (L : Nat → Nat → Int64) (b9 d9 n9 n8 : Nat) (K9 K8 : Nat → Nat) (V9 V8 : Nat → Int64) (v9 u9 : EdV) (a9 c9 : Nat) (hM : MD cy G o Ar Iv F L) (hb9 : b9 < 2) (hd9 : d9 < 2) (hbk : Iv 42 = nI b9) (h41 : Iv 41 = nI d9) (hB : BK K9 V9 n9 F b9 v9) (hD : BK K8 V8 n8 F d9 u9) (hn9 : (ntL K9 V9 n9).1 ≤ 1000) (hn8 : (ntL K8 V8 n8).1 ≤ 1000) (hm9 : n9 < 2 ^ 30) (hm8 : n8 < 2 ^ 30) (hNL : NLb F d9 (ntL K8 V8 n8).1) (ha : a9 < v9.nC) (hc : c9 < u9.nC) : Met l yX14_isCodingLike [.code yX14_isCodingLike cX14_isCodingLike 5 (some .boolean)] ({ frames := 1, cells := 0, slots := 0, locals := 30 }) (mk_Pre D vwCl (tyL cy) A X G [.ref o, .int (nI a9), .int (nI c9)]) (va_Qi (fun (r : Int32) (G2 : Nat → Option va_E) => (r = 0 ∨ r = 1) ∧ G2 = G) (mk_B D vwCl A) A) 0 0 A := by
  refine Met.ofW (cc := cX14_isCodingLike) (maxL := 5) (ret := (some .boolean)) (by decide) rfl ?_
  intro p e s m args below meth c s₁ B hml hv
  obtain ⟨rfl, hG, hK, hA, hX⟩ := hv
  have hx := B.exec
  have hb := B.bytes
  have hr := B.returns
  have hlocks := B.notSynchronized
  have hT := hXT s hX
  have hown : s.vm.findClass RX14 = some m.cls := findClass_of_methodNamed B.named
  have hf_X14 : ∀ w ∈ u_ws RX14 TX14 76, w.before ([.ref o, .int (nI a9), .int (nI c9)] : List Value).toArray s = true := tb_list hT fX14
  have hS : va_S A s.heap s.heap [] := va_S.rf
  have hl := lv_entry ([.ref o, .int (nI a9), .int (nI c9)]) (n := 5) (Nat.le_of_ble_eq_true rfl)
  rw [lg_entry_eq]
  generalize (lg_sl ([.ref o, .int (nI a9), .int (nI c9)]) ++ List.replicate (5 - (lg_sl ([.ref o, .int (nI a9), .int (nI c9)])).length) Slot.unset).toArray = ls at hl ⊢
  have hl : lv_has ls 5 [(0, .ref o), (1, .int (nI a9)), (2, .int (nI c9))] := hl
  have ha12 := hB.1.2.1
  have hc12 := hD.1.2.1
  have hca := hB.1.2.2 a9 ha
  have hcc := hD.1.2.2 c9 hc
  have ha8 := hca.2.2.1
  have hc8 := hcc.2.2.1
  have hra := hca.2.2.2
  have hrc := hcc.2.2.2
  have hlc : ∀ (n : Nat) (j9 : Nat) (xh : Int32), (n + j9 = 8) → (xh = 0 ∨ xh = 1) → (¬ xh = 0 → v9.nR a9 = u9.nR c9) → ∀ (Gv : Nat → Option va_E), (MD cy Gv o Ar Iv F L) → (Gv = G) → ∀ (H : Heap) (locs : List Loc), mm D vwCl A Gv H → va_S A s.heap H locs → ∀ ls : Array Slot, lv_has ls 5 [(0, .ref o), (1, .int (nI a9)), (2, .int (nI c9)), (3, .int xh), (4, .int (nI j9))] → W p l e (headSpec [.code yX14_isCodingLike cX14_isCodingLike 5 (some .boolean)] ({ frames := 1, cells := 0, slots := 0, locals := 30 })).room s m ([.ref o, .int (nI a9), .int (nI c9)] : List Value).toArray below meth c H locs 0 0 (MQ below (va_Qi (fun (r : Int32) (G2 : Nat → Option va_E) => (r = 0 ∨ r = 1) ∧ G2 = G) (mk_B D vwCl A) A) ([.ref o, .int (nI a9), .int (nI c9)] : List Value).toArray s 0 0 A) (F0 m 195 ls []) := by
    intro n
    induction n with
    | zero =>
      intro j9 xh hjn hxh hsm Gv hM hGe H locs hG hS ls hl
      refine lv_iload hx hb dX14_isCodingLike_195 (lv_at hl 4 rfl) ?_
      refine lv_aload_n hx hb dX14_isCodingLike_197 rfl (lv_at hl 0 rfl) ?_
      refine mm_get (v := .ref (Ar 15)) hx hb hf_X14 (fun _ h9 => h9) hown hK hG hM.1 rfl 15 (by decide) (tb_use hT tw_1406) (fun _ h9 => h9) (mfs_g15 _ _) dX14_isCodingLike_198 ?_
      refine lv_bipush (v := 12) hx hb dX14_isCodingLike_201 (by decide) ?_
      refine lv_aload_n hx hb dX14_isCodingLike_203 rfl (lv_at hl 0 rfl) ?_
      refine mm_get (v := .int (Iv 42)) hx hb hf_X14 (fun _ h9 => h9) hown hK hG hM.1 rfl 42 (by decide) (tb_use hT tw_1433) (fun _ h9 => h9) (mfs_g42 _ _) dX14_isCodingLike_204 ?_
      rw [show (Iv 42) = nI b9 from hbk]
      refine lv_imul hx hb dX14_isCodingLike_207 ?_
      refine lv_iload_n hx hb dX14_isCodingLike_208 rfl (lv_at hl 1 rfl) ?_
      refine lv_iadd hx hb dX14_isCodingLike_209 ?_
      refine mm_iald (n := 24) (f := F 15) hx hb hK hG 1 (hM.2.1 15 rfl) rfl (by rw [show (12 : Int32) * nI b9 + nI a9 = nI (12 * b9 + a9) from nI_ma 12 b9 a9]; exact nI_in (N := 24) (by omega) (by decide)) dX14_isCodingLike_210 ?_
      refine lv_topi (fun x1 ex1 => ?_)
      refine lv_icmp_ge (tgt := 320) hx hb dX14_isCodingLike_211 (by decide) (fun c_211 => ?_) (fun c_211 => ?_)
      · skip
        refine lv_iload_n hx hb dX14_isCodingLike_320 rfl (lv_at hl 3 rfl) ?_
        exact W.zret (v := xh) hx hb hr (by rcases hxh with z | z <;> rw [z] <;> rfl) (fun t ht hW => ⟨⟨_, _, rfl, ⟨hxh, hGe⟩, mk_end hG ht⟩, hS.F ht⟩) hS.2.2 dX14_isCodingLike_321
      · skip
        exact absurd (nI_lt_of (a := j9) (b := v9.nR a9) (by omega) (by omega) (by have z := c_211; rw [ex1, show (12 : Int32) * nI b9 + nI a9 = nI (12 * b9 + a9) from nI_ma 12 b9 a9, nI_clamp (by omega), hca.2.1] at z; exact z)) (by omega)
    | succ n ih =>
      intro j9 xh hjn hxh hsm Gv hM hGe H locs hG hS ls hl
      refine lv_iload hx hb dX14_isCodingLike_195 (lv_at hl 4 rfl) ?_
      refine lv_aload_n hx hb dX14_isCodingLike_197 rfl (lv_at hl 0 rfl) ?_
      refine mm_get (v := .ref (Ar 15)) hx hb hf_X14 (fun _ h9 => h9) hown hK hG hM.1 rfl 15 (by decide) (tb_use hT tw_1406) (fun _ h9 => h9) (mfs_g15 _ _) dX14_isCodingLike_198 ?_
      refine lv_bipush (v := 12) hx hb dX14_isCodingLike_201 (by decide) ?_
      refine lv_aload_n hx hb dX14_isCodingLike_203 rfl (lv_at hl 0 rfl) ?_
      refine mm_get (v := .int (Iv 42)) hx hb hf_X14 (fun _ h9 => h9) hown hK hG hM.1 rfl 42 (by decide) (tb_use hT tw_1433) (fun _ h9 => h9) (mfs_g42 _ _) dX14_isCodingLike_204 ?_
      rw [show (Iv 42) = nI b9 from hbk]
      refine lv_imul hx hb dX14_isCodingLike_207 ?_
      refine lv_iload_n hx hb dX14_isCodingLike_208 rfl (lv_at hl 1 rfl) ?_
      refine lv_iadd hx hb dX14_isCodingLike_209 ?_
      refine mm_iald (n := 24) (f := F 15) hx hb hK hG 1 (hM.2.1 15 rfl) rfl (by rw [show (12 : Int32) * nI b9 + nI a9 = nI (12 * b9 + a9) from nI_ma 12 b9 a9]; exact nI_in (N := 24) (by omega) (by decide)) dX14_isCodingLike_210 ?_
      refine lv_topi (fun x2 ex2 => ?_)
      refine lv_icmp_ge (tgt := 320) hx hb dX14_isCodingLike_211 (by decide) (fun c_211 => ?_) (fun c_211 => ?_)
      · skip
        refine lv_iload_n hx hb dX14_isCodingLike_320 rfl (lv_at hl 3 rfl) ?_
        exact W.zret (v := xh) hx hb hr (by rcases hxh with z | z <;> rw [z] <;> rfl) (fun t ht hW => ⟨⟨_, _, rfl, ⟨hxh, hGe⟩, mk_end hG ht⟩, hS.F ht⟩) hS.2.2 dX14_isCodingLike_321
      · skip
        refine lv_iload_n hx hb dX14_isCodingLike_214 rfl (lv_at hl 3 rfl) ?_
        refine lv_if_eq (tgt := 320) hx hb dX14_isCodingLike_215 (by decide) (fun c_215 => ?_) (fun c_215 => ?_)
        · skip
          refine lv_iload_n hx hb dX14_isCodingLike_320 rfl (lv_at hl 3 rfl) ?_
          exact W.zret (v := xh) hx hb hr (by rcases hxh with z | z <;> rw [z] <;> rfl) (fun t ht hW => ⟨⟨_, _, rfl, ⟨hxh, hGe⟩, mk_end hG ht⟩, hS.F ht⟩) hS.2.2 dX14_isCodingLike_321
        · skip
          have hja : j9 < v9.nR a9 := nI_lt_of (by omega) (by omega) (by have z := c_211; rw [ex2, show (12 : Int32) * nI b9 + nI a9 = nI (12 * b9 + a9) from nI_ma 12 b9 a9, nI_clamp (by omega), hca.2.1] at z; exact z)
          have hjc : j9 < u9.nR c9 := by rw [← hsm c_215]; exact hja
          refine lv_aload_n hx hb dX14_isCodingLike_218 rfl (lv_at hl 0 rfl) ?_
          refine mm_get (v := .ref (Ar 16)) hx hb hf_X14 (fun _ h9 => h9) hown hK hG hM.1 rfl 16 (by decide) (tb_use hT tw_1407) (fun _ h9 => h9) (mfs_g16 _ _) dX14_isCodingLike_219 ?_
          refine lv_bipush (v := 96) hx hb dX14_isCodingLike_222 (by decide) ?_
          refine lv_aload_n hx hb dX14_isCodingLike_224 rfl (lv_at hl 0 rfl) ?_
          refine mm_get (v := .int (Iv 42)) hx hb hf_X14 (fun _ h9 => h9) hown hK hG hM.1 rfl 42 (by decide) (tb_use hT tw_1433) (fun _ h9 => h9) (mfs_g42 _ _) dX14_isCodingLike_225 ?_
          rw [show (Iv 42) = nI b9 from hbk]
          refine lv_imul hx hb dX14_isCodingLike_228 ?_
          refine lv_bipush (v := 8) hx hb dX14_isCodingLike_229 (by decide) ?_
          refine lv_iload_n hx hb dX14_isCodingLike_231 rfl (lv_at hl 1 rfl) ?_
          refine lv_imul hx hb dX14_isCodingLike_232 ?_
          refine lv_iadd hx hb dX14_isCodingLike_233 ?_
          refine lv_iload hx hb dX14_isCodingLike_234 (lv_at hl 4 rfl) ?_
          refine lv_iadd hx hb dX14_isCodingLike_236 ?_
          refine mm_iald (n := 192) (f := F 16) hx hb hK hG 1 (hM.2.1 16 rfl) rfl (by rw [show (96 : Int32) * nI b9 + (8 : Int32) * nI a9 + nI j9 = nI (96 * b9 + 8 * a9 + j9) from nI_mc b9 a9 j9]; exact nI_in (N := 192) (by omega) (by decide)) dX14_isCodingLike_237 ?_
          refine lv_topi (fun x3 ex3 => ?_)
          refine lv_aload_n hx hb dX14_isCodingLike_238 rfl (lv_at hl 0 rfl) ?_
          refine mm_get (v := .ref (Ar 16)) hx hb hf_X14 (fun _ h9 => h9) hown hK hG hM.1 rfl 16 (by decide) (tb_use hT tw_1407) (fun _ h9 => h9) (mfs_g16 _ _) dX14_isCodingLike_239 ?_
          refine lv_bipush (v := 96) hx hb dX14_isCodingLike_242 (by decide) ?_
          refine lv_aload_n hx hb dX14_isCodingLike_244 rfl (lv_at hl 0 rfl) ?_
          refine mm_get (v := .int (Iv 41)) hx hb hf_X14 (fun _ h9 => h9) hown hK hG hM.1 rfl 41 (by decide) (tb_use hT tw_1432) (fun _ h9 => h9) (mfs_g41 _ _) dX14_isCodingLike_245 ?_
          rw [show (Iv 41) = nI d9 from h41]
          refine lv_imul hx hb dX14_isCodingLike_248 ?_
          refine lv_bipush (v := 8) hx hb dX14_isCodingLike_249 (by decide) ?_
          refine lv_iload_n hx hb dX14_isCodingLike_251 rfl (lv_at hl 2 rfl) ?_
          refine lv_imul hx hb dX14_isCodingLike_252 ?_
          refine lv_iadd hx hb dX14_isCodingLike_253 ?_
          refine lv_iload hx hb dX14_isCodingLike_254 (lv_at hl 4 rfl) ?_
          refine lv_iadd hx hb dX14_isCodingLike_256 ?_
          refine mm_iald (n := 192) (f := F 16) hx hb hK hG 1 (hM.2.1 16 rfl) rfl (by rw [show (96 : Int32) * nI d9 + (8 : Int32) * nI c9 + nI j9 = nI (96 * d9 + 8 * c9 + j9) from nI_mc d9 c9 j9]; exact nI_in (N := 192) (by omega) (by decide)) dX14_isCodingLike_257 ?_
          refine lv_topi (fun x4 ex4 => ?_)
          refine lv_icmp_ne (tgt := 312) hx hb dX14_isCodingLike_258 (by decide) (fun c_258 => ?_) (fun c_258 => ?_)
          · skip
            refine lv_iconst (v := 0) hx hb dX14_isCodingLike_312 (by decide) ?_
            refine lv_istore_n (lv' := [(3, .int 0), (0, .ref o), (1, .int (nI a9)), (2, .int (nI c9)), (4, .int (nI j9))]) hx hb dX14_isCodingLike_313 rfl hl (by decide) rfl (fun ls hl => ?_)
            obtain ⟨x5, ex5⟩ : ∃ y : Int32, y = (nI j9) + 1 := ⟨_, rfl⟩
            refine lv_iinc (v := x5) (lv' := [(4, .int x5), (3, .int 0), (0, .ref o), (1, .int (nI a9)), (2, .int (nI c9))]) hx hb dX14_isCodingLike_314 hl (k := 4) rfl (by rw [ex5]; rfl) (by decide) rfl (fun ls hl => ?_)
            refine lv_goto (tgt := 195) hx hb dX14_isCodingLike_317 (by decide) ?_
            rw [show x5 = nI (j9 + 1) by rw [ex5]; exact (nI_succ j9).symm] at hl
            exact ih (j9 + 1) 0 (by omega) (Or.inl rfl) (fun _ => hsm c_215) Gv hM hGe _ _ hG hS ls (lv_sub hl [2, 3, 4, 1, 0] rfl)
          · skip
            refine lv_aload_n hx hb dX14_isCodingLike_261 rfl (lv_at hl 0 rfl) ?_
            refine lv_aload_n hx hb dX14_isCodingLike_262 rfl (lv_at hl 0 rfl) ?_
            refine mm_get (v := .ref (Ar 17)) hx hb hf_X14 (fun _ h9 => h9) hown hK hG hM.1 rfl 17 (by decide) (tb_use hT tw_1408) (fun _ h9 => h9) (mfs_g17 _ _) dX14_isCodingLike_263 ?_
            refine lv_bipush (v := 96) hx hb dX14_isCodingLike_266 (by decide) ?_
            refine lv_aload_n hx hb dX14_isCodingLike_268 rfl (lv_at hl 0 rfl) ?_
            refine mm_get (v := .int (Iv 42)) hx hb hf_X14 (fun _ h9 => h9) hown hK hG hM.1 rfl 42 (by decide) (tb_use hT tw_1433) (fun _ h9 => h9) (mfs_g42 _ _) dX14_isCodingLike_269 ?_
            rw [show (Iv 42) = nI b9 from hbk]
            refine lv_imul hx hb dX14_isCodingLike_272 ?_
            refine lv_bipush (v := 8) hx hb dX14_isCodingLike_273 (by decide) ?_
            refine lv_iload_n hx hb dX14_isCodingLike_275 rfl (lv_at hl 1 rfl) ?_
            refine lv_imul hx hb dX14_isCodingLike_276 ?_
            refine lv_iadd hx hb dX14_isCodingLike_277 ?_
            refine lv_iload hx hb dX14_isCodingLike_278 (lv_at hl 4 rfl) ?_
            refine lv_iadd hx hb dX14_isCodingLike_280 ?_
            refine mm_iald (n := 192) (f := F 17) hx hb hK hG 1 (hM.2.1 17 rfl) rfl (by rw [show (96 : Int32) * nI b9 + (8 : Int32) * nI a9 + nI j9 = nI (96 * b9 + 8 * a9 + j9) from nI_mc b9 a9 j9]; exact nI_in (N := 192) (by omega) (by decide)) dX14_isCodingLike_281 ?_
            refine lv_topi (fun x6 ex6 => ?_)
            refine lv_aload_n hx hb dX14_isCodingLike_282 rfl (lv_at hl 0 rfl) ?_
            refine mm_get (v := .ref (Ar 17)) hx hb hf_X14 (fun _ h9 => h9) hown hK hG hM.1 rfl 17 (by decide) (tb_use hT tw_1408) (fun _ h9 => h9) (mfs_g17 _ _) dX14_isCodingLike_283 ?_
            refine lv_bipush (v := 96) hx hb dX14_isCodingLike_286 (by decide) ?_
            refine lv_aload_n hx hb dX14_isCodingLike_288 rfl (lv_at hl 0 rfl) ?_
            refine mm_get (v := .int (Iv 41)) hx hb hf_X14 (fun _ h9 => h9) hown hK hG hM.1 rfl 41 (by decide) (tb_use hT tw_1432) (fun _ h9 => h9) (mfs_g41 _ _) dX14_isCodingLike_289 ?_
            rw [show (Iv 41) = nI d9 from h41]
            refine lv_imul hx hb dX14_isCodingLike_292 ?_
            refine lv_bipush (v := 8) hx hb dX14_isCodingLike_293 (by decide) ?_
            refine lv_iload_n hx hb dX14_isCodingLike_295 rfl (lv_at hl 2 rfl) ?_
            refine lv_imul hx hb dX14_isCodingLike_296 ?_
            refine lv_iadd hx hb dX14_isCodingLike_297 ?_
            refine lv_iload hx hb dX14_isCodingLike_298 (lv_at hl 4 rfl) ?_
            refine lv_iadd hx hb dX14_isCodingLike_300 ?_
            refine mm_iald (n := 192) (f := F 17) hx hb hK hG 1 (hM.2.1 17 rfl) rfl (by rw [show (96 : Int32) * nI d9 + (8 : Int32) * nI c9 + nI j9 = nI (96 * d9 + 8 * c9 + j9) from nI_mc d9 c9 j9]; exact nI_in (N := 192) (by omega) (by decide)) dX14_isCodingLike_301 ?_
            refine lv_topi (fun x7 ex7 => ?_)
            obtain ⟨p9, hp1, hp2, -⟩ := NMt.nb (hra j9 hja).2 hn9
            obtain ⟨q9, hq1, hq2, hq3⟩ := NMt.nb (hrc j9 hjc).2 hn8
            rw [show x6 = nI p9 by rw [ex6, show (96 : Int32) * nI b9 + (8 : Int32) * nI a9 + nI j9 = nI (96 * b9 + 8 * a9 + j9) from nI_mc b9 a9 j9, nI_clamp (by omega), Nat.add_assoc]; exact hp2, show x7 = nI q9 by rw [ex7, show (96 : Int32) * nI d9 + (8 : Int32) * nI c9 + nI j9 = nI (96 * d9 + 8 * c9 + j9) from nI_mc d9 c9 j9, nI_clamp (by omega), Nat.add_assoc]; exact hq2]
            refine va_calli (va_runV (As := [.int (nI p9), .int (nI q9)]) (rest := []) ⟨hx, hb, hml, hown, (fun _ h9 => absurd h9 List.not_mem_nil : ∀ w ∈ ([] : List Cond), w.before _ s = true)⟩ (c_M_isNamed l D cy A X hst hXT Gv o Ar Iv F L b9 d9 p9 q9 (ntL K8 V8 n8).1 hM hb9 hd9 hbk h41 hp1 hq1 hq3 hNL) (tb_cw (C := RX14) 2 hT tw_1886 tw_109 tw_1883 tw_1885 tw_102 rfl rfl hq_X14_isNamed ⟨Nat.le_of_ble_eq_true rfl, Nat.le_of_ble_eq_true rfl⟩) (mk_preC hst hG hK hA hX hS vc_15 hM.1) rfl rfl hl.1 rfl (lv_room (Nat.le_of_ble_eq_true rfl)) dX14_isCodingLike_302 ⟨Nat.le_of_ble_eq_true rfl, Nat.le_of_ble_eq_true rfl⟩) hS (fun q _ h => h) (fun q h => h) (fun r8 G9 t H locs ht hvm hw hB hz1 hk1 hS => ?_)
            have hG : mm D vwCl A G9 H := by rw [← ht]; exact hB
            clear hB hz1 hk1 hvm ht
            obtain ⟨h_r8, hw⟩ := hw
            rw [hw] at hG
            refine lv_if_eq (tgt := 312) hx hb dX14_isCodingLike_305 (by decide) (fun c_305 => ?_) (fun c_305 => ?_)
            · skip
              refine lv_iconst (v := 0) hx hb dX14_isCodingLike_312 (by decide) ?_
              refine lv_istore_n (lv' := [(3, .int 0), (0, .ref o), (1, .int (nI a9)), (2, .int (nI c9)), (4, .int (nI j9))]) hx hb dX14_isCodingLike_313 rfl hl (by decide) rfl (fun ls hl => ?_)
              obtain ⟨x10, ex10⟩ : ∃ y : Int32, y = (nI j9) + 1 := ⟨_, rfl⟩
              refine lv_iinc (v := x10) (lv' := [(4, .int x10), (3, .int 0), (0, .ref o), (1, .int (nI a9)), (2, .int (nI c9))]) hx hb dX14_isCodingLike_314 hl (k := 4) rfl (by rw [ex10]; rfl) (by decide) rfl (fun ls hl => ?_)
              refine lv_goto (tgt := 195) hx hb dX14_isCodingLike_317 (by decide) ?_
              rw [show x10 = nI (j9 + 1) by rw [ex10]; exact (nI_succ j9).symm] at hl
              exact ih (j9 + 1) 0 (by omega) (Or.inl rfl) (fun _ => hsm c_215) Gv hM hGe _ _ hG hS ls (lv_sub hl [2, 3, 4, 1, 0] rfl)
            · skip
              refine lv_iconst (v := 1) hx hb dX14_isCodingLike_308 (by decide) ?_
              refine lv_goto (tgt := 313) hx hb dX14_isCodingLike_309 (by decide) ?_
              refine lv_istore_n (lv' := [(3, .int 1), (0, .ref o), (1, .int (nI a9)), (2, .int (nI c9)), (4, .int (nI j9))]) hx hb dX14_isCodingLike_313 rfl hl (by decide) rfl (fun ls hl => ?_)
              obtain ⟨x11, ex11⟩ : ∃ y : Int32, y = (nI j9) + 1 := ⟨_, rfl⟩
              refine lv_iinc (v := x11) (lv' := [(4, .int x11), (3, .int 1), (0, .ref o), (1, .int (nI a9)), (2, .int (nI c9))]) hx hb dX14_isCodingLike_314 hl (k := 4) rfl (by rw [ex11]; rfl) (by decide) rfl (fun ls hl => ?_)
              refine lv_goto (tgt := 195) hx hb dX14_isCodingLike_317 (by decide) ?_
              rw [show x11 = nI (j9 + 1) by rw [ex11]; exact (nI_succ j9).symm] at hl
              exact ih (j9 + 1) 1 (by omega) (Or.inr rfl) (fun _ => hsm c_215) Gv hM hGe _ _ hG hS ls (lv_sub hl [2, 3, 4, 1, 0] rfl)
  refine lv_aload_n hx hb dX14_isCodingLike_0 rfl (lv_at hl 0 rfl) ?_
  refine mm_get (v := .ref (Ar 10)) hx hb hf_X14 (fun _ h9 => h9) hown hK hG hM.1 rfl 10 (by decide) (tb_use hT tw_1401) (fun _ h9 => h9) (mfs_g10 _ _) dX14_isCodingLike_1 ?_
  refine lv_bipush (v := 12) hx hb dX14_isCodingLike_4 (by decide) ?_
  refine lv_aload_n hx hb dX14_isCodingLike_6 rfl (lv_at hl 0 rfl) ?_
  refine mm_get (v := .int (Iv 42)) hx hb hf_X14 (fun _ h9 => h9) hown hK hG hM.1 rfl 42 (by decide) (tb_use hT tw_1433) (fun _ h9 => h9) (mfs_g42 _ _) dX14_isCodingLike_7 ?_
  rw [show (Iv 42) = nI b9 from hbk]
  refine lv_imul hx hb dX14_isCodingLike_10 ?_
  refine lv_iload_n hx hb dX14_isCodingLike_11 rfl (lv_at hl 1 rfl) ?_
  refine lv_iadd hx hb dX14_isCodingLike_12 ?_
  refine mm_iald (n := 24) (f := F 10) hx hb hK hG 1 (hM.2.1 10 rfl) rfl (by rw [show (12 : Int32) * nI b9 + nI a9 = nI (12 * b9 + a9) from nI_ma 12 b9 a9]; exact nI_in (N := 24) (by omega) (by decide)) dX14_isCodingLike_13 ?_
  refine lv_topi (fun x12 ex12 => ?_)
  refine lv_aload_n hx hb dX14_isCodingLike_14 rfl (lv_at hl 0 rfl) ?_
  refine mm_get (v := .ref (Ar 10)) hx hb hf_X14 (fun _ h9 => h9) hown hK hG hM.1 rfl 10 (by decide) (tb_use hT tw_1401) (fun _ h9 => h9) (mfs_g10 _ _) dX14_isCodingLike_15 ?_
  refine lv_bipush (v := 12) hx hb dX14_isCodingLike_18 (by decide) ?_
  refine lv_aload_n hx hb dX14_isCodingLike_20 rfl (lv_at hl 0 rfl) ?_
  refine mm_get (v := .int (Iv 41)) hx hb hf_X14 (fun _ h9 => h9) hown hK hG hM.1 rfl 41 (by decide) (tb_use hT tw_1432) (fun _ h9 => h9) (mfs_g41 _ _) dX14_isCodingLike_21 ?_
  rw [show (Iv 41) = nI d9 from h41]
  refine lv_imul hx hb dX14_isCodingLike_24 ?_
  refine lv_iload_n hx hb dX14_isCodingLike_25 rfl (lv_at hl 2 rfl) ?_
  refine lv_iadd hx hb dX14_isCodingLike_26 ?_
  refine mm_iald (n := 24) (f := F 10) hx hb hK hG 1 (hM.2.1 10 rfl) rfl (by rw [show (12 : Int32) * nI d9 + nI c9 = nI (12 * d9 + c9) from nI_ma 12 d9 c9]; exact nI_in (N := 24) (by omega) (by decide)) dX14_isCodingLike_27 ?_
  refine lv_topi (fun x13 ex13 => ?_)
  refine lv_icmp_ne (tgt := 190) hx hb dX14_isCodingLike_28 (by decide) (fun c_28 => ?_) (fun c_28 => ?_)
  · skip
    refine lv_iconst (v := 0) hx hb dX14_isCodingLike_190 (by decide) ?_
    refine lv_istore_n (lv' := [(3, .int 0), (0, .ref o), (1, .int (nI a9)), (2, .int (nI c9))]) hx hb dX14_isCodingLike_191 rfl hl (by decide) rfl (fun ls hl => ?_)
    refine lv_iconst (v := 0) hx hb dX14_isCodingLike_192 (by decide) ?_
    refine lv_istore (lv' := [(4, .int 0), (3, .int 0), (0, .ref o), (1, .int (nI a9)), (2, .int (nI c9))]) hx hb dX14_isCodingLike_193 hl (by decide) rfl (fun ls hl => ?_)
    exact hlc 8 0 0 (by omega) (Or.inl rfl) (fun z => absurd rfl z) G hM rfl _ _ hG hS ls (lv_sub hl [2, 3, 4, 1, 0] rfl)
  · skip
    refine lv_aload_n hx hb dX14_isCodingLike_31 rfl (lv_at hl 0 rfl) ?_
    refine mm_get (v := .ref (Ar 11)) hx hb hf_X14 (fun _ h9 => h9) hown hK hG hM.1 rfl 11 (by decide) (tb_use hT tw_1402) (fun _ h9 => h9) (mfs_g11 _ _) dX14_isCodingLike_32 ?_
    refine lv_bipush (v := 12) hx hb dX14_isCodingLike_35 (by decide) ?_
    refine lv_aload_n hx hb dX14_isCodingLike_37 rfl (lv_at hl 0 rfl) ?_
    refine mm_get (v := .int (Iv 42)) hx hb hf_X14 (fun _ h9 => h9) hown hK hG hM.1 rfl 42 (by decide) (tb_use hT tw_1433) (fun _ h9 => h9) (mfs_g42 _ _) dX14_isCodingLike_38 ?_
    rw [show (Iv 42) = nI b9 from hbk]
    refine lv_imul hx hb dX14_isCodingLike_41 ?_
    refine lv_iload_n hx hb dX14_isCodingLike_42 rfl (lv_at hl 1 rfl) ?_
    refine lv_iadd hx hb dX14_isCodingLike_43 ?_
    refine mm_iald (n := 24) (f := F 11) hx hb hK hG 1 (hM.2.1 11 rfl) rfl (by rw [show (12 : Int32) * nI b9 + nI a9 = nI (12 * b9 + a9) from nI_ma 12 b9 a9]; exact nI_in (N := 24) (by omega) (by decide)) dX14_isCodingLike_44 ?_
    refine lv_topi (fun x14 ex14 => ?_)
    refine lv_aload_n hx hb dX14_isCodingLike_45 rfl (lv_at hl 0 rfl) ?_
    refine mm_get (v := .ref (Ar 11)) hx hb hf_X14 (fun _ h9 => h9) hown hK hG hM.1 rfl 11 (by decide) (tb_use hT tw_1402) (fun _ h9 => h9) (mfs_g11 _ _) dX14_isCodingLike_46 ?_
    refine lv_bipush (v := 12) hx hb dX14_isCodingLike_49 (by decide) ?_
    refine lv_aload_n hx hb dX14_isCodingLike_51 rfl (lv_at hl 0 rfl) ?_
    refine mm_get (v := .int (Iv 41)) hx hb hf_X14 (fun _ h9 => h9) hown hK hG hM.1 rfl 41 (by decide) (tb_use hT tw_1432) (fun _ h9 => h9) (mfs_g41 _ _) dX14_isCodingLike_52 ?_
    rw [show (Iv 41) = nI d9 from h41]
    refine lv_imul hx hb dX14_isCodingLike_55 ?_
    refine lv_iload_n hx hb dX14_isCodingLike_56 rfl (lv_at hl 2 rfl) ?_
    refine lv_iadd hx hb dX14_isCodingLike_57 ?_
    refine mm_iald (n := 24) (f := F 11) hx hb hK hG 1 (hM.2.1 11 rfl) rfl (by rw [show (12 : Int32) * nI d9 + nI c9 = nI (12 * d9 + c9) from nI_ma 12 d9 c9]; exact nI_in (N := 24) (by omega) (by decide)) dX14_isCodingLike_58 ?_
    refine lv_topi (fun x15 ex15 => ?_)
    refine lv_icmp_ne (tgt := 190) hx hb dX14_isCodingLike_59 (by decide) (fun c_59 => ?_) (fun c_59 => ?_)
    · skip
      refine lv_iconst (v := 0) hx hb dX14_isCodingLike_190 (by decide) ?_
      refine lv_istore_n (lv' := [(3, .int 0), (0, .ref o), (1, .int (nI a9)), (2, .int (nI c9))]) hx hb dX14_isCodingLike_191 rfl hl (by decide) rfl (fun ls hl => ?_)
      refine lv_iconst (v := 0) hx hb dX14_isCodingLike_192 (by decide) ?_
      refine lv_istore (lv' := [(4, .int 0), (3, .int 0), (0, .ref o), (1, .int (nI a9)), (2, .int (nI c9))]) hx hb dX14_isCodingLike_193 hl (by decide) rfl (fun ls hl => ?_)
      exact hlc 8 0 0 (by omega) (Or.inl rfl) (fun z => absurd rfl z) G hM rfl _ _ hG hS ls (lv_sub hl [2, 3, 4, 1, 0] rfl)
    · skip
      refine lv_aload_n hx hb dX14_isCodingLike_62 rfl (lv_at hl 0 rfl) ?_
      refine mm_get (v := .ref (Ar 12)) hx hb hf_X14 (fun _ h9 => h9) hown hK hG hM.1 rfl 12 (by decide) (tb_use hT tw_1403) (fun _ h9 => h9) (mfs_g12 _ _) dX14_isCodingLike_63 ?_
      refine lv_bipush (v := 12) hx hb dX14_isCodingLike_66 (by decide) ?_
      refine lv_aload_n hx hb dX14_isCodingLike_68 rfl (lv_at hl 0 rfl) ?_
      refine mm_get (v := .int (Iv 42)) hx hb hf_X14 (fun _ h9 => h9) hown hK hG hM.1 rfl 42 (by decide) (tb_use hT tw_1433) (fun _ h9 => h9) (mfs_g42 _ _) dX14_isCodingLike_69 ?_
      rw [show (Iv 42) = nI b9 from hbk]
      refine lv_imul hx hb dX14_isCodingLike_72 ?_
      refine lv_iload_n hx hb dX14_isCodingLike_73 rfl (lv_at hl 1 rfl) ?_
      refine lv_iadd hx hb dX14_isCodingLike_74 ?_
      refine mm_iald (n := 24) (f := F 12) hx hb hK hG 1 (hM.2.1 12 rfl) rfl (by rw [show (12 : Int32) * nI b9 + nI a9 = nI (12 * b9 + a9) from nI_ma 12 b9 a9]; exact nI_in (N := 24) (by omega) (by decide)) dX14_isCodingLike_75 ?_
      refine lv_topi (fun x16 ex16 => ?_)
      refine lv_aload_n hx hb dX14_isCodingLike_76 rfl (lv_at hl 0 rfl) ?_
      refine mm_get (v := .ref (Ar 12)) hx hb hf_X14 (fun _ h9 => h9) hown hK hG hM.1 rfl 12 (by decide) (tb_use hT tw_1403) (fun _ h9 => h9) (mfs_g12 _ _) dX14_isCodingLike_77 ?_
      refine lv_bipush (v := 12) hx hb dX14_isCodingLike_80 (by decide) ?_
      refine lv_aload_n hx hb dX14_isCodingLike_82 rfl (lv_at hl 0 rfl) ?_
      refine mm_get (v := .int (Iv 41)) hx hb hf_X14 (fun _ h9 => h9) hown hK hG hM.1 rfl 41 (by decide) (tb_use hT tw_1432) (fun _ h9 => h9) (mfs_g41 _ _) dX14_isCodingLike_83 ?_
      rw [show (Iv 41) = nI d9 from h41]
      refine lv_imul hx hb dX14_isCodingLike_86 ?_
      refine lv_iload_n hx hb dX14_isCodingLike_87 rfl (lv_at hl 2 rfl) ?_
      refine lv_iadd hx hb dX14_isCodingLike_88 ?_
      refine mm_iald (n := 24) (f := F 12) hx hb hK hG 1 (hM.2.1 12 rfl) rfl (by rw [show (12 : Int32) * nI d9 + nI c9 = nI (12 * d9 + c9) from nI_ma 12 d9 c9]; exact nI_in (N := 24) (by omega) (by decide)) dX14_isCodingLike_89 ?_
      refine lv_topi (fun x17 ex17 => ?_)
      refine lv_icmp_ne (tgt := 190) hx hb dX14_isCodingLike_90 (by decide) (fun c_90 => ?_) (fun c_90 => ?_)
      · skip
        refine lv_iconst (v := 0) hx hb dX14_isCodingLike_190 (by decide) ?_
        refine lv_istore_n (lv' := [(3, .int 0), (0, .ref o), (1, .int (nI a9)), (2, .int (nI c9))]) hx hb dX14_isCodingLike_191 rfl hl (by decide) rfl (fun ls hl => ?_)
        refine lv_iconst (v := 0) hx hb dX14_isCodingLike_192 (by decide) ?_
        refine lv_istore (lv' := [(4, .int 0), (3, .int 0), (0, .ref o), (1, .int (nI a9)), (2, .int (nI c9))]) hx hb dX14_isCodingLike_193 hl (by decide) rfl (fun ls hl => ?_)
        exact hlc 8 0 0 (by omega) (Or.inl rfl) (fun z => absurd rfl z) G hM rfl _ _ hG hS ls (lv_sub hl [2, 3, 4, 1, 0] rfl)
      · skip
        refine lv_aload_n hx hb dX14_isCodingLike_93 rfl (lv_at hl 0 rfl) ?_
        refine mm_get (v := .ref (Ar 13)) hx hb hf_X14 (fun _ h9 => h9) hown hK hG hM.1 rfl 13 (by decide) (tb_use hT tw_1404) (fun _ h9 => h9) (mfs_g13 _ _) dX14_isCodingLike_94 ?_
        refine lv_bipush (v := 12) hx hb dX14_isCodingLike_97 (by decide) ?_
        refine lv_aload_n hx hb dX14_isCodingLike_99 rfl (lv_at hl 0 rfl) ?_
        refine mm_get (v := .int (Iv 42)) hx hb hf_X14 (fun _ h9 => h9) hown hK hG hM.1 rfl 42 (by decide) (tb_use hT tw_1433) (fun _ h9 => h9) (mfs_g42 _ _) dX14_isCodingLike_100 ?_
        rw [show (Iv 42) = nI b9 from hbk]
        refine lv_imul hx hb dX14_isCodingLike_103 ?_
        refine lv_iload_n hx hb dX14_isCodingLike_104 rfl (lv_at hl 1 rfl) ?_
        refine lv_iadd hx hb dX14_isCodingLike_105 ?_
        refine mm_iald (n := 24) (f := F 13) hx hb hK hG 1 (hM.2.1 13 rfl) rfl (by rw [show (12 : Int32) * nI b9 + nI a9 = nI (12 * b9 + a9) from nI_ma 12 b9 a9]; exact nI_in (N := 24) (by omega) (by decide)) dX14_isCodingLike_106 ?_
        refine lv_topi (fun x18 ex18 => ?_)
        refine lv_aload_n hx hb dX14_isCodingLike_107 rfl (lv_at hl 0 rfl) ?_
        refine mm_get (v := .ref (Ar 13)) hx hb hf_X14 (fun _ h9 => h9) hown hK hG hM.1 rfl 13 (by decide) (tb_use hT tw_1404) (fun _ h9 => h9) (mfs_g13 _ _) dX14_isCodingLike_108 ?_
        refine lv_bipush (v := 12) hx hb dX14_isCodingLike_111 (by decide) ?_
        refine lv_aload_n hx hb dX14_isCodingLike_113 rfl (lv_at hl 0 rfl) ?_
        refine mm_get (v := .int (Iv 41)) hx hb hf_X14 (fun _ h9 => h9) hown hK hG hM.1 rfl 41 (by decide) (tb_use hT tw_1432) (fun _ h9 => h9) (mfs_g41 _ _) dX14_isCodingLike_114 ?_
        rw [show (Iv 41) = nI d9 from h41]
        refine lv_imul hx hb dX14_isCodingLike_117 ?_
        refine lv_iload_n hx hb dX14_isCodingLike_118 rfl (lv_at hl 2 rfl) ?_
        refine lv_iadd hx hb dX14_isCodingLike_119 ?_
        refine mm_iald (n := 24) (f := F 13) hx hb hK hG 1 (hM.2.1 13 rfl) rfl (by rw [show (12 : Int32) * nI d9 + nI c9 = nI (12 * d9 + c9) from nI_ma 12 d9 c9]; exact nI_in (N := 24) (by omega) (by decide)) dX14_isCodingLike_120 ?_
        refine lv_topi (fun x19 ex19 => ?_)
        refine lv_icmp_ne (tgt := 190) hx hb dX14_isCodingLike_121 (by decide) (fun c_121 => ?_) (fun c_121 => ?_)
        · skip
          refine lv_iconst (v := 0) hx hb dX14_isCodingLike_190 (by decide) ?_
          refine lv_istore_n (lv' := [(3, .int 0), (0, .ref o), (1, .int (nI a9)), (2, .int (nI c9))]) hx hb dX14_isCodingLike_191 rfl hl (by decide) rfl (fun ls hl => ?_)
          refine lv_iconst (v := 0) hx hb dX14_isCodingLike_192 (by decide) ?_
          refine lv_istore (lv' := [(4, .int 0), (3, .int 0), (0, .ref o), (1, .int (nI a9)), (2, .int (nI c9))]) hx hb dX14_isCodingLike_193 hl (by decide) rfl (fun ls hl => ?_)
          exact hlc 8 0 0 (by omega) (Or.inl rfl) (fun z => absurd rfl z) G hM rfl _ _ hG hS ls (lv_sub hl [2, 3, 4, 1, 0] rfl)
        · skip
          refine lv_aload_n hx hb dX14_isCodingLike_124 rfl (lv_at hl 0 rfl) ?_
          refine mm_get (v := .ref (Ar 14)) hx hb hf_X14 (fun _ h9 => h9) hown hK hG hM.1 rfl 14 (by decide) (tb_use hT tw_1405) (fun _ h9 => h9) (mfs_g14 _ _) dX14_isCodingLike_125 ?_
          refine lv_bipush (v := 12) hx hb dX14_isCodingLike_128 (by decide) ?_
          refine lv_aload_n hx hb dX14_isCodingLike_130 rfl (lv_at hl 0 rfl) ?_
          refine mm_get (v := .int (Iv 42)) hx hb hf_X14 (fun _ h9 => h9) hown hK hG hM.1 rfl 42 (by decide) (tb_use hT tw_1433) (fun _ h9 => h9) (mfs_g42 _ _) dX14_isCodingLike_131 ?_
          rw [show (Iv 42) = nI b9 from hbk]
          refine lv_imul hx hb dX14_isCodingLike_134 ?_
          refine lv_iload_n hx hb dX14_isCodingLike_135 rfl (lv_at hl 1 rfl) ?_
          refine lv_iadd hx hb dX14_isCodingLike_136 ?_
          refine mm_iald (n := 24) (f := F 14) hx hb hK hG 1 (hM.2.1 14 rfl) rfl (by rw [show (12 : Int32) * nI b9 + nI a9 = nI (12 * b9 + a9) from nI_ma 12 b9 a9]; exact nI_in (N := 24) (by omega) (by decide)) dX14_isCodingLike_137 ?_
          refine lv_topi (fun x20 ex20 => ?_)
          refine lv_aload_n hx hb dX14_isCodingLike_138 rfl (lv_at hl 0 rfl) ?_
          refine mm_get (v := .ref (Ar 14)) hx hb hf_X14 (fun _ h9 => h9) hown hK hG hM.1 rfl 14 (by decide) (tb_use hT tw_1405) (fun _ h9 => h9) (mfs_g14 _ _) dX14_isCodingLike_139 ?_
          refine lv_bipush (v := 12) hx hb dX14_isCodingLike_142 (by decide) ?_
          refine lv_aload_n hx hb dX14_isCodingLike_144 rfl (lv_at hl 0 rfl) ?_
          refine mm_get (v := .int (Iv 41)) hx hb hf_X14 (fun _ h9 => h9) hown hK hG hM.1 rfl 41 (by decide) (tb_use hT tw_1432) (fun _ h9 => h9) (mfs_g41 _ _) dX14_isCodingLike_145 ?_
          rw [show (Iv 41) = nI d9 from h41]
          refine lv_imul hx hb dX14_isCodingLike_148 ?_
          refine lv_iload_n hx hb dX14_isCodingLike_149 rfl (lv_at hl 2 rfl) ?_
          refine lv_iadd hx hb dX14_isCodingLike_150 ?_
          refine mm_iald (n := 24) (f := F 14) hx hb hK hG 1 (hM.2.1 14 rfl) rfl (by rw [show (12 : Int32) * nI d9 + nI c9 = nI (12 * d9 + c9) from nI_ma 12 d9 c9]; exact nI_in (N := 24) (by omega) (by decide)) dX14_isCodingLike_151 ?_
          refine lv_topi (fun x21 ex21 => ?_)
          refine lv_icmp_ne (tgt := 190) hx hb dX14_isCodingLike_152 (by decide) (fun c_152 => ?_) (fun c_152 => ?_)
          · skip
            refine lv_iconst (v := 0) hx hb dX14_isCodingLike_190 (by decide) ?_
            refine lv_istore_n (lv' := [(3, .int 0), (0, .ref o), (1, .int (nI a9)), (2, .int (nI c9))]) hx hb dX14_isCodingLike_191 rfl hl (by decide) rfl (fun ls hl => ?_)
            refine lv_iconst (v := 0) hx hb dX14_isCodingLike_192 (by decide) ?_
            refine lv_istore (lv' := [(4, .int 0), (3, .int 0), (0, .ref o), (1, .int (nI a9)), (2, .int (nI c9))]) hx hb dX14_isCodingLike_193 hl (by decide) rfl (fun ls hl => ?_)
            exact hlc 8 0 0 (by omega) (Or.inl rfl) (fun z => absurd rfl z) G hM rfl _ _ hG hS ls (lv_sub hl [2, 3, 4, 1, 0] rfl)
          · skip
            refine lv_aload_n hx hb dX14_isCodingLike_155 rfl (lv_at hl 0 rfl) ?_
            refine mm_get (v := .ref (Ar 15)) hx hb hf_X14 (fun _ h9 => h9) hown hK hG hM.1 rfl 15 (by decide) (tb_use hT tw_1406) (fun _ h9 => h9) (mfs_g15 _ _) dX14_isCodingLike_156 ?_
            refine lv_bipush (v := 12) hx hb dX14_isCodingLike_159 (by decide) ?_
            refine lv_aload_n hx hb dX14_isCodingLike_161 rfl (lv_at hl 0 rfl) ?_
            refine mm_get (v := .int (Iv 42)) hx hb hf_X14 (fun _ h9 => h9) hown hK hG hM.1 rfl 42 (by decide) (tb_use hT tw_1433) (fun _ h9 => h9) (mfs_g42 _ _) dX14_isCodingLike_162 ?_
            rw [show (Iv 42) = nI b9 from hbk]
            refine lv_imul hx hb dX14_isCodingLike_165 ?_
            refine lv_iload_n hx hb dX14_isCodingLike_166 rfl (lv_at hl 1 rfl) ?_
            refine lv_iadd hx hb dX14_isCodingLike_167 ?_
            refine mm_iald (n := 24) (f := F 15) hx hb hK hG 1 (hM.2.1 15 rfl) rfl (by rw [show (12 : Int32) * nI b9 + nI a9 = nI (12 * b9 + a9) from nI_ma 12 b9 a9]; exact nI_in (N := 24) (by omega) (by decide)) dX14_isCodingLike_168 ?_
            refine lv_topi (fun x22 ex22 => ?_)
            refine lv_aload_n hx hb dX14_isCodingLike_169 rfl (lv_at hl 0 rfl) ?_
            refine mm_get (v := .ref (Ar 15)) hx hb hf_X14 (fun _ h9 => h9) hown hK hG hM.1 rfl 15 (by decide) (tb_use hT tw_1406) (fun _ h9 => h9) (mfs_g15 _ _) dX14_isCodingLike_170 ?_
            refine lv_bipush (v := 12) hx hb dX14_isCodingLike_173 (by decide) ?_
            refine lv_aload_n hx hb dX14_isCodingLike_175 rfl (lv_at hl 0 rfl) ?_
            refine mm_get (v := .int (Iv 41)) hx hb hf_X14 (fun _ h9 => h9) hown hK hG hM.1 rfl 41 (by decide) (tb_use hT tw_1432) (fun _ h9 => h9) (mfs_g41 _ _) dX14_isCodingLike_176 ?_
            rw [show (Iv 41) = nI d9 from h41]
            refine lv_imul hx hb dX14_isCodingLike_179 ?_
            refine lv_iload_n hx hb dX14_isCodingLike_180 rfl (lv_at hl 2 rfl) ?_
            refine lv_iadd hx hb dX14_isCodingLike_181 ?_
            refine mm_iald (n := 24) (f := F 15) hx hb hK hG 1 (hM.2.1 15 rfl) rfl (by rw [show (12 : Int32) * nI d9 + nI c9 = nI (12 * d9 + c9) from nI_ma 12 d9 c9]; exact nI_in (N := 24) (by omega) (by decide)) dX14_isCodingLike_182 ?_
            refine lv_topi (fun x23 ex23 => ?_)
            refine lv_icmp_ne (tgt := 190) hx hb dX14_isCodingLike_183 (by decide) (fun c_183 => ?_) (fun c_183 => ?_)
            · skip
              refine lv_iconst (v := 0) hx hb dX14_isCodingLike_190 (by decide) ?_
              refine lv_istore_n (lv' := [(3, .int 0), (0, .ref o), (1, .int (nI a9)), (2, .int (nI c9))]) hx hb dX14_isCodingLike_191 rfl hl (by decide) rfl (fun ls hl => ?_)
              refine lv_iconst (v := 0) hx hb dX14_isCodingLike_192 (by decide) ?_
              refine lv_istore (lv' := [(4, .int 0), (3, .int 0), (0, .ref o), (1, .int (nI a9)), (2, .int (nI c9))]) hx hb dX14_isCodingLike_193 hl (by decide) rfl (fun ls hl => ?_)
              exact hlc 8 0 0 (by omega) (Or.inl rfl) (fun z => absurd rfl z) G hM rfl _ _ hG hS ls (lv_sub hl [2, 3, 4, 1, 0] rfl)
            · skip
              refine lv_iconst (v := 1) hx hb dX14_isCodingLike_186 (by decide) ?_
              refine lv_goto (tgt := 191) hx hb dX14_isCodingLike_187 (by decide) ?_
              refine lv_istore_n (lv' := [(3, .int 1), (0, .ref o), (1, .int (nI a9)), (2, .int (nI c9))]) hx hb dX14_isCodingLike_191 rfl hl (by decide) rfl (fun ls hl => ?_)
              refine lv_iconst (v := 0) hx hb dX14_isCodingLike_192 (by decide) ?_
              refine lv_istore (lv' := [(4, .int 0), (3, .int 1), (0, .ref o), (1, .int (nI a9)), (2, .int (nI c9))]) hx hb dX14_isCodingLike_193 hl (by decide) rfl (fun ls hl => ?_)
              have hnn : v9.nR a9 = u9.nR c9 := nI_inj (by omega) (by omega) (by have z := c_183; rw [ex22, ex23, show (12 : Int32) * nI b9 + nI a9 = nI (12 * b9 + a9) from nI_ma 12 b9 a9, show (12 : Int32) * nI d9 + nI c9 = nI (12 * d9 + c9) from nI_ma 12 d9 c9, nI_clamp (by omega), nI_clamp (by omega), hca.2.1, hcc.2.1] at z; exact z)
              exact hlc 8 0 1 (by omega) (Or.inr rfl) (fun _ => hnn) G hM rfl _ _ hG hS ls (lv_sub hl [2, 3, 4, 1, 0] rfl)
