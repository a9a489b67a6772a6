/-- some of the first n is so -/
def anyF (p : Nat → Bool) : Nat → Bool
  | 0 => false
  | n + 1 => anyF p n || p n
theorem anyF_cg {p q : Nat → Bool} : ∀ {n : Nat}, (∀ k, k < n → p k = q k) → anyF p n = anyF q n := by
  intro n
  induction n with
  | zero => intro _; rfl
  | succ n ih => intro h; rw [anyF, anyF, ih (fun k hk => h k (by omega)), h n (Nat.lt_succ_self n)]
theorem anyF_f {p : Nat → Bool} : ∀ {n : Nat}, anyF p n = false → ∀ k, k < n → p k = false := by
  intro n
  induction n with
  | zero => intro _ k hk; omega
  | succ n ih =>
    intro h k hk
    rw [anyF, Bool.or_eq_false_iff] at h
    by_cases e : k = n
    · rw [e]; exact h.2
    · exact ih h.1 k (by omega)
theorem anyF_t {p : Nat → Bool} : ∀ {n : Nat}, anyF p n = true → ∃ k, k < n ∧ p k = true := by
  intro n
  induction n with
  | zero => intro h; cases h
  | succ n ih =>
    intro h
    rw [anyF, Bool.or_eq_true] at h
    rcases h with h | h
    · obtain ⟨k, h1, h2⟩ := ih h; exact ⟨k, by omega, h2⟩
    · exact ⟨n, Nat.lt_succ_self n, h⟩
theorem once_any {p : Nat → Bool} {n a : Nat} (h : a < n) (hp : p a = true) : decide (fndF p n 0 ≠ some a) = anyF p a := by
  cases hq : anyF p a with
  | false => exact decide_eq_false (fun z => z (fnd_is (Nat.zero_le a) (by omega) hp (fun k _ hk => anyF_f hq k hk)))
  | true =>
    obtain ⟨k, h1, h2⟩ := anyF_t hq
    obtain ⟨i, h3, h4⟩ := fnd_lt (Nat.lt_trans h1 h) h2
    exact decide_eq_true (fun z => by rw [h3] at z; injection z with z; omega)

theorem nI_mc (b s j : Nat) : nI 96 * nI b + nI 8 * nI s + nI j = nI (96 * b + 8 * s + j) := by
  rw [show nI 96 * nI b = nI (96 * b) from (Int32.ofNat_mul 96 b).symm, show nI 8 * nI s = nI (8 * s) from (Int32.ofNat_mul 8 s).symm, nI_add, nI_add]

set_option maxHeartbeats 4000000 in
set_option maxRecDepth 100000 in
theorem c_M_isW3 (l : Launch) (D : va_G) (cy : Nat → ClassId) (A : Nat → Prop) (X : State → Prop) (hst : mk_St A X) (hXT : ∀ U : State, X U → TB U) (G : Nat → Option va_E) (o : Nat) (Ar : Nat → Nat) (Iv : Nat → Int32) (F : Nat → Nat → Int32) (L : Nat → Nat → Int64) (ft : Nat → Int32) (en bo n9 c9 : Nat) (xc : Int32) (v9 : EdV) (hM : MD cy G o Ar Iv F L) (hbJ : bkJ (tkK ft en) (tkV ft en) n9 F bo v9) (hn30 : n9 < 2 ^ 30) (hbl : bo < 2) (h41 : Iv 41 = nI bo) (hc9 : c9 < v9.nJ) : Met l yX14_isWrong [.code yX14_isWrong cX14_isWrong 11 (some .boolean)] ({ frames := 1, cells := 0, slots := 0, locals := 30 }) (mk_Pre D vwCl (tyL cy) A X G [.ref o, .int 3, .int (nI c9), .int xc]) (va_Qi (fun (r : Int32) (G2 : Nat → Option va_E) => r = b2i (decide (jbN v9 (v9.J c9).2 ≠ some c9)) ∧ G2 = G) (mk_B D vwCl A) A) 0 0 A := by
  refine Met.ofW (cc := cX14_isWrong) (maxL := 11) (ret := (some .boolean)) (by decide) rfl ?_
  intro p e s m args below meth c s₁ B hml hv
  obtain ⟨rfl, hG, hK, hA, hX⟩ := hv
  have hx := B.exec
  have hb := B.bytes
  have hr := B.returns
  have hlocks := B.notSynchronized
  have hT := hXT s hX
  have hown : s.vm.findClass RX14 = some m.cls := findClass_of_methodNamed B.named
  have hf_X14 : ∀ w ∈ u_ws RX14 TX14 76, w.before ([.ref o, .int 3, .int (nI c9), .int xc] : List Value).toArray s = true := tb_list hT fX14
  have hS : va_S A s.heap s.heap [] := va_S.rf
  have hl := lv_entry ([.ref o, .int 3, .int (nI c9), .int xc]) (n := 11) (Nat.le_of_ble_eq_true rfl)
  rw [lg_entry_eq]
  generalize (lg_sl ([.ref o, .int 3, .int (nI c9), .int xc]) ++ List.replicate (11 - (lg_sl ([.ref o, .int 3, .int (nI c9), .int xc])).length) Slot.unset).toArray = ls at hl ⊢
  have hl : lv_has ls 11 [(0, .ref o), (1, .int 3), (2, .int (nI c9)), (3, .int xc)] := hl
  have hj4 := hbJ.2.1
  refine lv_aload_n hx hb dX14_isWrong_0 rfl (lv_at hl 0 rfl) ?_
  refine mm_get (v := .int (Iv 41)) hx hb hf_X14 (fun _ h9 => h9) hown hK hG hM.1 rfl 41 (by decide) (tb_use hT tw_1432) (fun _ h9 => h9) (mfs_g41 _ _) dX14_isWrong_1 ?_
  rw [h41]
  refine lv_istore (lv' := [(4, .int (nI bo)), (0, .ref o), (1, .int 3), (2, .int (nI c9)), (3, .int xc)]) hx hb dX14_isWrong_4 hl (by decide) rfl (fun ls hl => ?_)
  refine lv_iload_n hx hb dX14_isWrong_6 rfl (lv_at hl 2 rfl) ?_
  refine lv_tableIn (tgt := 128) hx hb dX14_isWrong_7 (by decide) (by decide) (off := 121) rfl (by decide) ?_
  refine lv_iconst (v := 0) hx hb dX14_isWrong_128 (by decide) ?_
  refine lv_istore (lv' := [(5, .int 0), (4, .int (nI bo)), (0, .ref o), (1, .int 3), (2, .int (nI c9)), (3, .int xc)]) hx hb dX14_isWrong_129 hl (by decide) rfl (fun ls hl => ?_)
  have hlp : ∀ (n : Nat) (j9 : Nat) (xh : Int32), (n + j9 = c9) → (xh = b2i (anyF (fun j => decide (F 33 (4 * bo + j) = F 33 (4 * bo + c9))) j9)) → ∀ (Gv : Nat → Option va_E), (MD cy Gv o Ar Iv F L) → (Gv = G) → ∀ (H : Heap) (locs : List Loc), mm D vwCl A Gv H → va_S A s.heap H locs → ∀ ls : Array Slot, lv_has ls 11 [(0, .ref o), (2, .int (nI c9)), (4, .int (nI bo)), (5, .int xh), (6, .int (nI j9))] → W p l e (headSpec [.code yX14_isWrong cX14_isWrong 11 (some .boolean)] ({ frames := 1, cells := 0, slots := 0, locals := 30 })).room s m ([.ref o, .int 3, .int (nI c9), .int xc] : List Value).toArray below meth c H locs 0 0 (MQ below (va_Qi (fun (r : Int32) (G2 : Nat → Option va_E) => r = b2i (decide (jbN v9 (v9.J c9).2 ≠ some c9)) ∧ G2 = G) (mk_B D vwCl A) A) ([.ref o, .int 3, .int (nI c9), .int xc] : List Value).toArray s 0 0 A) (F0 m 134 ls []) := by
    intro n
    induction n with
    | zero =>
      intro j9 xh hjn hxh Gv hM hGe H locs hG hS ls hl
      refine lv_iload hx hb dX14_isWrong_134 (lv_at hl 4 rfl) ?_
      refine lv_iload_n hx hb dX14_isWrong_136 rfl (lv_at hl 1 rfl) ?_
      refine lv_icmp_ge (tgt := 184) hx hb dX14_isWrong_137 (by decide) (fun c_137 => ?_) (fun c_137 => ?_)
      · skip
        refine lv_iload hx hb dX14_isWrong_184 (lv_at hl 3 rfl) ?_
        have hjc : j9 = c9 := by omega
        have hfin : xh = b2i (decide (jbN v9 (v9.J c9).2 ≠ some c9)) := by
          rw [show decide (jbN v9 (v9.J c9).2 ≠ some c9) = anyF (fun j => decide (F 33 (4 * bo + j) = F 33 (4 * bo + c9))) c9 from by unfold jbN; rw [once_any hc9 (decide_eq_true rfl)]; exact anyF_cg (fun k hk => by rw [decide_eq_decide]; exact ((hbJ.2.2 k (by omega)).1.inj hn30 (hbJ.2.2 c9 hc9).1).symm)]
          rw [hxh, hjc]
        exact W.zret (v := xh) hx hb hr (by rw [hxh]; cases anyF (fun j => decide (F 33 (4 * bo + j) = F 33 (4 * bo + c9))) j9 <;> rfl) (fun t ht hW => ⟨⟨_, _, rfl, ⟨hfin, hGe⟩, mk_end hG ht⟩, hS.F ht⟩) hS.2.2 dX14_isWrong_186
      · skip
        exact absurd (by rw [show j9 = c9 by omega]; exact Int32.le_refl _) c_137
    | succ n ih =>
      intro j9 xh hjn hxh Gv hM hGe H locs hG hS ls hl
      refine lv_iload hx hb dX14_isWrong_134 (lv_at hl 4 rfl) ?_
      refine lv_iload_n hx hb dX14_isWrong_136 rfl (lv_at hl 1 rfl) ?_
      refine lv_icmp_ge (tgt := 184) hx hb dX14_isWrong_137 (by decide) (fun c_137 => ?_) (fun c_137 => ?_)
      · skip
        exact absurd c_137 (nI_ge (a := j9) (b := c9) (by omega) (by omega))
      · skip
        refine lv_iload hx hb dX14_isWrong_140 (lv_at hl 3 rfl) ?_
        refine lv_if_ne (tgt := 171) hx hb dX14_isWrong_142 (by decide) (fun c_142 => ?_) (fun c_142 => ?_)
        · skip
          refine lv_iconst (v := 1) hx hb dX14_isWrong_171 (by decide) ?_
          refine lv_goto (tgt := 176) hx hb dX14_isWrong_172 (by decide) ?_
          refine lv_istore (lv' := [(5, .int 1), (0, .ref o), (2, .int (nI c9)), (4, .int (nI bo)), (6, .int (nI j9))]) hx hb dX14_isWrong_176 hl (by decide) rfl (fun ls hl => ?_)
          obtain ⟨x1, ex1⟩ : ∃ y : Int32, y = (nI j9) + 1 := ⟨_, rfl⟩
          refine lv_iinc (v := x1) (lv' := [(6, .int x1), (5, .int 1), (0, .ref o), (2, .int (nI c9)), (4, .int (nI bo))]) hx hb dX14_isWrong_178 hl (k := 4) rfl (by rw [ex1]; rfl) (by decide) rfl (fun ls hl => ?_)
          refine lv_goto (tgt := 134) hx hb dX14_isWrong_181 (by decide) ?_
          rw [show x1 = nI (j9 + 1) by rw [ex1]; exact (nI_succ j9).symm] at hl
          have hv2 : (1 : Int32) = b2i (anyF (fun j => decide (F 33 (4 * bo + j) = F 33 (4 * bo + c9))) (j9 + 1)) := by rw [anyF, show anyF (fun j => decide (F 33 (4 * bo + j) = F 33 (4 * bo + c9))) j9 = true from b2i_t (by rw [← hxh]; exact c_142)]; rfl
          exact ih (j9 + 1) 1 (by omega) hv2 Gv hM hGe _ _ hG hS ls (lv_sub hl [2, 3, 4, 1, 0] rfl)
        · skip
          refine lv_aload_n hx hb dX14_isWrong_145 rfl (lv_at hl 0 rfl) ?_
          refine mm_get (v := .ref (Ar 33)) hx hb hf_X14 (fun _ h9 => h9) hown hK hG hM.1 rfl 33 (by decide) (tb_use hT tw_1424) (fun _ h9 => h9) (mfs_g33 _ _) dX14_isWrong_146 ?_
          refine lv_iconst (v := 4) hx hb dX14_isWrong_149 (by decide) ?_
          refine lv_iload hx hb dX14_isWrong_150 (lv_at hl 2 rfl) ?_
          refine lv_imul hx hb dX14_isWrong_152 ?_
          refine lv_iload hx hb dX14_isWrong_153 (lv_at hl 4 rfl) ?_
          refine lv_iadd hx hb dX14_isWrong_155 ?_
          refine mm_iald (n := 8) (f := F 33) hx hb hK hG 1 (hM.2.1 33 rfl) rfl (by rw [show (4 : Int32) * nI bo + nI j9 = nI (4 * bo + j9) from nI_ma 4 bo j9]; exact nI_in (N := 8) (by omega) (by decide)) dX14_isWrong_156 ?_
          refine lv_topi (fun x2 ex2 => ?_)
          refine lv_aload_n hx hb dX14_isWrong_157 rfl (lv_at hl 0 rfl) ?_
          refine mm_get (v := .ref (Ar 33)) hx hb hf_X14 (fun _ h9 => h9) hown hK hG hM.1 rfl 33 (by decide) (tb_use hT tw_1424) (fun _ h9 => h9) (mfs_g33 _ _) dX14_isWrong_158 ?_
          refine lv_iconst (v := 4) hx hb dX14_isWrong_161 (by decide) ?_
          refine lv_iload hx hb dX14_isWrong_162 (lv_at hl 2 rfl) ?_
          refine lv_imul hx hb dX14_isWrong_164 ?_
          refine lv_iload_n hx hb dX14_isWrong_165 rfl (lv_at hl 1 rfl) ?_
          refine lv_iadd hx hb dX14_isWrong_166 ?_
          refine mm_iald (n := 8) (f := F 33) hx hb hK hG 1 (hM.2.1 33 rfl) rfl (by rw [show (4 : Int32) * nI bo + nI c9 = nI (4 * bo + c9) from nI_ma 4 bo c9]; exact nI_in (N := 8) (by omega) (by decide)) dX14_isWrong_167 ?_
          refine lv_topi (fun x3 ex3 => ?_)
          refine lv_icmp_ne (tgt := 175) hx hb dX14_isWrong_168 (by decide) (fun c_168 => ?_) (fun c_168 => ?_)
          · skip
            refine lv_iconst (v := 0) hx hb dX14_isWrong_175 (by decide) ?_
            refine lv_istore (lv' := [(5, .int 0), (0, .ref o), (2, .int (nI c9)), (4, .int (nI bo)), (6, .int (nI j9))]) hx hb dX14_isWrong_176 hl (by decide) rfl (fun ls hl => ?_)
            obtain ⟨x4, ex4⟩ : ∃ y : Int32, y = (nI j9) + 1 := ⟨_, rfl⟩
            refine lv_iinc (v := x4) (lv' := [(6, .int x4), (5, .int 0), (0, .ref o), (2, .int (nI c9)), (4, .int (nI bo))]) hx hb dX14_isWrong_178 hl (k := 4) rfl (by rw [ex4]; rfl) (by decide) rfl (fun ls hl => ?_)
            refine lv_goto (tgt := 134) hx hb dX14_isWrong_181 (by decide) ?_
            rw [show x4 = nI (j9 + 1) by rw [ex4]; exact (nI_succ j9).symm] at hl
            have hnh : anyF (fun j => decide (F 33 (4 * bo + j) = F 33 (4 * bo + c9))) j9 = false := b2i_f (by rw [← hxh]; exact c_142)
            have hv2 : (0 : Int32) = b2i (anyF (fun j => decide (F 33 (4 * bo + j) = F 33 (4 * bo + c9))) (j9 + 1)) := by rw [anyF, hnh, decide_eq_false (fun z => c_168 (by rw [ex2, ex3, show (4 : Int32) * nI bo + nI j9 = nI (4 * bo + j9) from nI_ma 4 bo j9, show (4 : Int32) * nI bo + nI c9 = nI (4 * bo + c9) from nI_ma 4 bo c9, nI_clamp (by omega), nI_clamp (by omega)]; exact z))]; rfl
            exact ih (j9 + 1) 0 (by omega) hv2 Gv hM hGe _ _ hG hS ls (lv_sub hl [2, 3, 4, 1, 0] rfl)
          · skip
            refine lv_iconst (v := 1) hx hb dX14_isWrong_171 (by decide) ?_
            refine lv_goto (tgt := 176) hx hb dX14_isWrong_172 (by decide) ?_
            refine lv_istore (lv' := [(5, .int 1), (0, .ref o), (2, .int (nI c9)), (4, .int (nI bo)), (6, .int (nI j9))]) hx hb dX14_isWrong_176 hl (by decide) rfl (fun ls hl => ?_)
            obtain ⟨x5, ex5⟩ : ∃ y : Int32, y = (nI j9) + 1 := ⟨_, rfl⟩
            refine lv_iinc (v := x5) (lv' := [(6, .int x5), (5, .int 1), (0, .ref o), (2, .int (nI c9)), (4, .int (nI bo))]) hx hb dX14_isWrong_178 hl (k := 4) rfl (by rw [ex5]; rfl) (by decide) rfl (fun ls hl => ?_)
            refine lv_goto (tgt := 134) hx hb dX14_isWrong_181 (by decide) ?_
            rw [show x5 = nI (j9 + 1) by rw [ex5]; exact (nI_succ j9).symm] at hl
            have hnh : anyF (fun j => decide (F 33 (4 * bo + j) = F 33 (4 * bo + c9))) j9 = false := b2i_f (by rw [← hxh]; exact c_142)
            have hv2 : (1 : Int32) = b2i (anyF (fun j => decide (F 33 (4 * bo + j) = F 33 (4 * bo + c9))) (j9 + 1)) := by rw [anyF, hnh, decide_eq_true (by have z := c_168; rw [ex2, ex3, show (4 : Int32) * nI bo + nI j9 = nI (4 * bo + j9) from nI_ma 4 bo j9, show (4 : Int32) * nI bo + nI c9 = nI (4 * bo + c9) from nI_ma 4 bo c9, nI_clamp (by omega), nI_clamp (by omega)] at z; exact z)]; rfl
            exact ih (j9 + 1) 1 (by omega) hv2 Gv hM hGe _ _ hG hS ls (lv_sub hl [2, 3, 4, 1, 0] rfl)
  refine lv_iconst (v := 0) hx hb dX14_isWrong_131 (by decide) ?_
  refine lv_istore (lv' := [(6, .int 0), (5, .int 0), (4, .int (nI bo)), (0, .ref o), (1, .int 3), (2, .int (nI c9)), (3, .int xc)]) hx hb dX14_isWrong_132 hl (by decide) rfl (fun ls hl => ?_)
  exact hlp c9 0 0 (by omega) rfl G hM rfl _ _ hG hS ls (lv_sub hl [3, 5, 2, 1, 0] rfl)

set_option maxHeartbeats 4000000 in
set_option maxRecDepth 100000 in
theorem c_M_isW6 (l : Launch) (D : va_G) (cy : Nat → ClassId) (A : Nat → Prop) (X : State → Prop) (hst : mk_St A X) (hXT : ∀ U : State, X U → TB U) (G : Nat → Option va_E) (o : Nat) (Ar : Nat → Nat) (Iv : Nat → Int32) (F : Nat → Nat → Int32) (L : Nat → Nat → Int64) (ft : Nat → Int32) (en bo n9 a9 c9 : Nat) (v9 : EdV) (hM : MD cy G o Ar Iv F L) (hb1 : bkC (tkK ft en) (tkV ft en) n9 F bo v9) (ha9 : a9 < v9.nC) (hn30 : n9 < 2 ^ 30) (hbl : bo < 2) (h41 : Iv 41 = nI bo) (hc9 : c9 < v9.nR a9) : Met l yX14_isWrong [.code yX14_isWrong cX14_isWrong 11 (some .boolean)] ({ frames := 1, cells := 0, slots := 0, locals := 30 }) (mk_Pre D vwCl (tyL cy) A X G [.ref o, .int 6, .int (nI a9), .int (nI c9)]) (va_Qi (fun (r : Int32) (G2 : Nat → Option va_E) => r = b2i (decide (fndF (fun j => decide ((v9.R a9 j).1 = (v9.R a9 c9).1)) (v9.nR a9) 0 ≠ some c9)) ∧ G2 = G) (mk_B D vwCl A) A) 0 0 A := by
  refine Met.ofW (cc := cX14_isWrong) (maxL := 11) (ret := (some .boolean)) (by decide) rfl ?_
  intro p e s m args below meth c s₁ B hml hv
  obtain ⟨rfl, hG, hK, hA, hX⟩ := hv
  have hx := B.exec
  have hb := B.bytes
  have hr := B.returns
  have hlocks := B.notSynchronized
  have hT := hXT s hX
  have hown : s.vm.findClass RX14 = some m.cls := findClass_of_methodNamed B.named
  have hf_X14 : ∀ w ∈ u_ws RX14 TX14 76, w.before ([.ref o, .int 6, .int (nI a9), .int (nI c9)] : List Value).toArray s = true := tb_list hT fX14
  have hS : va_S A s.heap s.heap [] := va_S.rf
  have hl := lv_entry ([.ref o, .int 6, .int (nI a9), .int (nI c9)]) (n := 11) (Nat.le_of_ble_eq_true rfl)
  rw [lg_entry_eq]
  generalize (lg_sl ([.ref o, .int 6, .int (nI a9), .int (nI c9)]) ++ List.replicate (11 - (lg_sl ([.ref o, .int 6, .int (nI a9), .int (nI c9)])).length) Slot.unset).toArray = ls at hl ⊢
  have hl : lv_has ls 11 [(0, .ref o), (1, .int 6), (2, .int (nI a9)), (3, .int (nI c9))] := hl
  have hbn := hb1.2.1
  have hr8 := (hb1.2.2 a9 ha9).2.2.1
  have hrw := (hb1.2.2 a9 ha9).2.2.2
  refine lv_aload_n hx hb dX14_isWrong_0 rfl (lv_at hl 0 rfl) ?_
  refine mm_get (v := .int (Iv 41)) hx hb hf_X14 (fun _ h9 => h9) hown hK hG hM.1 rfl 41 (by decide) (tb_use hT tw_1432) (fun _ h9 => h9) (mfs_g41 _ _) dX14_isWrong_1 ?_
  rw [h41]
  refine lv_istore (lv' := [(4, .int (nI bo)), (0, .ref o), (1, .int 6), (2, .int (nI a9)), (3, .int (nI c9))]) hx hb dX14_isWrong_4 hl (by decide) rfl (fun ls hl => ?_)
  refine lv_iload_n hx hb dX14_isWrong_6 rfl (lv_at hl 2 rfl) ?_
  refine lv_tableIn (tgt := 262) hx hb dX14_isWrong_7 (by decide) (by decide) (off := 255) rfl (by decide) ?_
  refine lv_iconst (v := 0) hx hb dX14_isWrong_262 (by decide) ?_
  refine lv_istore (lv' := [(6, .int 0), (4, .int (nI bo)), (0, .ref o), (1, .int 6), (2, .int (nI a9)), (3, .int (nI c9))]) hx hb dX14_isWrong_263 hl (by decide) rfl (fun ls hl => ?_)
  have hlp : ∀ (n : Nat) (j9 : Nat) (xh : Int32), (n + j9 = c9) → (xh = b2i (anyF (fun j => decide (F 16 (96 * bo + 8 * a9 + j) = F 16 (96 * bo + 8 * a9 + c9))) j9)) → ∀ (Gv : Nat → Option va_E), (MD cy Gv o Ar Iv F L) → (Gv = G) → ∀ (H : Heap) (locs : List Loc), mm D vwCl A Gv H → va_S A s.heap H locs → ∀ ls : Array Slot, lv_has ls 11 [(0, .ref o), (2, .int (nI a9)), (3, .int (nI c9)), (4, .int (nI bo)), (6, .int xh), (7, .int (nI j9))] → W p l e (headSpec [.code yX14_isWrong cX14_isWrong 11 (some .boolean)] ({ frames := 1, cells := 0, slots := 0, locals := 30 })).room s m ([.ref o, .int 6, .int (nI a9), .int (nI c9)] : List Value).toArray below meth c H locs 0 0 (MQ below (va_Qi (fun (r : Int32) (G2 : Nat → Option va_E) => r = b2i (decide (fndF (fun j => decide ((v9.R a9 j).1 = (v9.R a9 c9).1)) (v9.nR a9) 0 ≠ some c9)) ∧ G2 = G) (mk_B D vwCl A) A) ([.ref o, .int 6, .int (nI a9), .int (nI c9)] : List Value).toArray s 0 0 A) (F0 m 268 ls []) := by
    intro n
    induction n with
    | zero =>
      intro j9 xh hjn hxh Gv hM hGe H locs hG hS ls hl
      refine lv_iload hx hb dX14_isWrong_268 (lv_at hl 5 rfl) ?_
      refine lv_iload_n hx hb dX14_isWrong_270 rfl (lv_at hl 2 rfl) ?_
      refine lv_icmp_ge (tgt := 330) hx hb dX14_isWrong_271 (by decide) (fun c_271 => ?_) (fun c_271 => ?_)
      · skip
        refine lv_iload hx hb dX14_isWrong_330 (lv_at hl 4 rfl) ?_
        have hjc : j9 = c9 := by omega
        have hfin : xh = b2i (decide (fndF (fun j => decide ((v9.R a9 j).1 = (v9.R a9 c9).1)) (v9.nR a9) 0 ≠ some c9)) := by
          rw [show decide (fndF (fun j => decide ((v9.R a9 j).1 = (v9.R a9 c9).1)) (v9.nR a9) 0 ≠ some c9) = anyF (fun j => decide (F 16 (96 * bo + 8 * a9 + j) = F 16 (96 * bo + 8 * a9 + c9))) c9 from by rw [once_any hc9 (decide_eq_true rfl)]; exact anyF_cg (fun k hk => by rw [show 96 * bo + 8 * a9 + k = 96 * bo + (8 * a9 + k) by omega, show 96 * bo + 8 * a9 + c9 = 96 * bo + (8 * a9 + c9) by omega, (hrw k (by omega)).1, (hrw c9 hc9).1])]
          rw [hxh, hjc]
        exact W.zret (v := xh) hx hb hr (by rw [hxh]; cases anyF (fun j => decide (F 16 (96 * bo + 8 * a9 + j) = F 16 (96 * bo + 8 * a9 + c9))) j9 <;> rfl) (fun t ht hW => ⟨⟨_, _, rfl, ⟨hfin, hGe⟩, mk_end hG ht⟩, hS.F ht⟩) hS.2.2 dX14_isWrong_332
      · skip
        exact absurd (by rw [show j9 = c9 by omega]; exact Int32.le_refl _) c_271
    | succ n ih =>
      intro j9 xh hjn hxh Gv hM hGe H locs hG hS ls hl
      refine lv_iload hx hb dX14_isWrong_268 (lv_at hl 5 rfl) ?_
      refine lv_iload_n hx hb dX14_isWrong_270 rfl (lv_at hl 2 rfl) ?_
      refine lv_icmp_ge (tgt := 330) hx hb dX14_isWrong_271 (by decide) (fun c_271 => ?_) (fun c_271 => ?_)
      · skip
        exact absurd c_271 (nI_ge (a := j9) (b := c9) (by omega) (by omega))
      · skip
        refine lv_iload hx hb dX14_isWrong_274 (lv_at hl 4 rfl) ?_
        refine lv_if_ne (tgt := 317) hx hb dX14_isWrong_276 (by decide) (fun c_276 => ?_) (fun c_276 => ?_)
        · skip
          refine lv_iconst (v := 1) hx hb dX14_isWrong_317 (by decide) ?_
          refine lv_goto (tgt := 322) hx hb dX14_isWrong_318 (by decide) ?_
          refine lv_istore (lv' := [(6, .int 1), (0, .ref o), (2, .int (nI a9)), (3, .int (nI c9)), (4, .int (nI bo)), (7, .int (nI j9))]) hx hb dX14_isWrong_322 hl (by decide) rfl (fun ls hl => ?_)
          obtain ⟨x1, ex1⟩ : ∃ y : Int32, y = (nI j9) + 1 := ⟨_, rfl⟩
          refine lv_iinc (v := x1) (lv' := [(7, .int x1), (6, .int 1), (0, .ref o), (2, .int (nI a9)), (3, .int (nI c9)), (4, .int (nI bo))]) hx hb dX14_isWrong_324 hl (k := 5) rfl (by rw [ex1]; rfl) (by decide) rfl (fun ls hl => ?_)
          refine lv_goto (tgt := 268) hx hb dX14_isWrong_327 (by decide) ?_
          rw [show x1 = nI (j9 + 1) by rw [ex1]; exact (nI_succ j9).symm] at hl
          have hv2 : (1 : Int32) = b2i (anyF (fun j => decide (F 16 (96 * bo + 8 * a9 + j) = F 16 (96 * bo + 8 * a9 + c9))) (j9 + 1)) := by rw [anyF, show anyF (fun j => decide (F 16 (96 * bo + 8 * a9 + j) = F 16 (96 * bo + 8 * a9 + c9))) j9 = true from b2i_t (by rw [← hxh]; exact c_276)]; rfl
          exact ih (j9 + 1) 1 (by omega) hv2 Gv hM hGe _ _ hG hS ls (lv_sub hl [2, 3, 4, 5, 1, 0] rfl)
        · skip
          refine lv_aload_n hx hb dX14_isWrong_279 rfl (lv_at hl 0 rfl) ?_
          refine mm_get (v := .ref (Ar 16)) hx hb hf_X14 (fun _ h9 => h9) hown hK hG hM.1 rfl 16 (by decide) (tb_use hT tw_1407) (fun _ h9 => h9) (mfs_g16 _ _) dX14_isWrong_280 ?_
          refine lv_bipush (v := 96) hx hb dX14_isWrong_283 (by decide) ?_
          refine lv_iload hx hb dX14_isWrong_285 (lv_at hl 3 rfl) ?_
          refine lv_imul hx hb dX14_isWrong_287 ?_
          refine lv_bipush (v := 8) hx hb dX14_isWrong_288 (by decide) ?_
          refine lv_iload_n hx hb dX14_isWrong_290 rfl (lv_at hl 1 rfl) ?_
          refine lv_imul hx hb dX14_isWrong_291 ?_
          refine lv_iadd hx hb dX14_isWrong_292 ?_
          refine lv_iload hx hb dX14_isWrong_293 (lv_at hl 5 rfl) ?_
          refine lv_iadd hx hb dX14_isWrong_295 ?_
          refine mm_iald (n := 192) (f := F 16) hx hb hK hG 1 (hM.2.1 16 rfl) rfl (by rw [show (96 : Int32) * nI bo + (8 : Int32) * nI a9 + nI j9 = nI (96 * bo + 8 * a9 + j9) from nI_mc bo a9 j9]; exact nI_in (N := 192) (by omega) (by decide)) dX14_isWrong_296 ?_
          refine lv_topi (fun x2 ex2 => ?_)
          refine lv_aload_n hx hb dX14_isWrong_297 rfl (lv_at hl 0 rfl) ?_
          refine mm_get (v := .ref (Ar 16)) hx hb hf_X14 (fun _ h9 => h9) hown hK hG hM.1 rfl 16 (by decide) (tb_use hT tw_1407) (fun _ h9 => h9) (mfs_g16 _ _) dX14_isWrong_298 ?_
          refine lv_bipush (v := 96) hx hb dX14_isWrong_301 (by decide) ?_
          refine lv_iload hx hb dX14_isWrong_303 (lv_at hl 3 rfl) ?_
          refine lv_imul hx hb dX14_isWrong_305 ?_
          refine lv_bipush (v := 8) hx hb dX14_isWrong_306 (by decide) ?_
          refine lv_iload_n hx hb dX14_isWrong_308 rfl (lv_at hl 1 rfl) ?_
          refine lv_imul hx hb dX14_isWrong_309 ?_
          refine lv_iadd hx hb dX14_isWrong_310 ?_
          refine lv_iload_n hx hb dX14_isWrong_311 rfl (lv_at hl 2 rfl) ?_
          refine lv_iadd hx hb dX14_isWrong_312 ?_
          refine mm_iald (n := 192) (f := F 16) hx hb hK hG 1 (hM.2.1 16 rfl) rfl (by rw [show (96 : Int32) * nI bo + (8 : Int32) * nI a9 + nI c9 = nI (96 * bo + 8 * a9 + c9) from nI_mc bo a9 c9]; exact nI_in (N := 192) (by omega) (by decide)) dX14_isWrong_313 ?_
          refine lv_topi (fun x3 ex3 => ?_)
          refine lv_icmp_ne (tgt := 321) hx hb dX14_isWrong_314 (by decide) (fun c_314 => ?_) (fun c_314 => ?_)
          · skip
            refine lv_iconst (v := 0) hx hb dX14_isWrong_321 (by decide) ?_
            refine lv_istore (lv' := [(6, .int 0), (0, .ref o), (2, .int (nI a9)), (3, .int (nI c9)), (4, .int (nI bo)), (7, .int (nI j9))]) hx hb dX14_isWrong_322 hl (by decide) rfl (fun ls hl => ?_)
            obtain ⟨x4, ex4⟩ : ∃ y : Int32, y = (nI j9) + 1 := ⟨_, rfl⟩
            refine lv_iinc (v := x4) (lv' := [(7, .int x4), (6, .int 0), (0, .ref o), (2, .int (nI a9)), (3, .int (nI c9)), (4, .int (nI bo))]) hx hb dX14_isWrong_324 hl (k := 5) rfl (by rw [ex4]; rfl) (by decide) rfl (fun ls hl => ?_)
            refine lv_goto (tgt := 268) hx hb dX14_isWrong_327 (by decide) ?_
            rw [show x4 = nI (j9 + 1) by rw [ex4]; exact (nI_succ j9).symm] at hl
            have hnh : anyF (fun j => decide (F 16 (96 * bo + 8 * a9 + j) = F 16 (96 * bo + 8 * a9 + c9))) j9 = false := b2i_f (by rw [← hxh]; exact c_276)
            have hv2 : (0 : Int32) = b2i (anyF (fun j => decide (F 16 (96 * bo + 8 * a9 + j) = F 16 (96 * bo + 8 * a9 + c9))) (j9 + 1)) := by rw [anyF, hnh, decide_eq_false (fun z => c_314 (by rw [ex2, ex3, show (96 : Int32) * nI bo + (8 : Int32) * nI a9 + nI j9 = nI (96 * bo + 8 * a9 + j9) from nI_mc bo a9 j9, show (96 : Int32) * nI bo + (8 : Int32) * nI a9 + nI c9 = nI (96 * bo + 8 * a9 + c9) from nI_mc bo a9 c9, nI_clamp (by omega), nI_clamp (by omega)]; exact z))]; rfl
            exact ih (j9 + 1) 0 (by omega) hv2 Gv hM hGe _ _ hG hS ls (lv_sub hl [2, 3, 4, 5, 1, 0] rfl)
          · skip
            refine lv_iconst (v := 1) hx hb dX14_isWrong_317 (by decide) ?_
            refine lv_goto (tgt := 322) hx hb dX14_isWrong_318 (by decide) ?_
            refine lv_istore (lv' := [(6, .int 1), (0, .ref o), (2, .int (nI a9)), (3, .int (nI c9)), (4, .int (nI bo)), (7, .int (nI j9))]) hx hb dX14_isWrong_322 hl (by decide) rfl (fun ls hl => ?_)
            obtain ⟨x5, ex5⟩ : ∃ y : Int32, y = (nI j9) + 1 := ⟨_, rfl⟩
            refine lv_iinc (v := x5) (lv' := [(7, .int x5), (6, .int 1), (0, .ref o), (2, .int (nI a9)), (3, .int (nI c9)), (4, .int (nI bo))]) hx hb dX14_isWrong_324 hl (k := 5) rfl (by rw [ex5]; rfl) (by decide) rfl (fun ls hl => ?_)
            refine lv_goto (tgt := 268) hx hb dX14_isWrong_327 (by decide) ?_
            rw [show x5 = nI (j9 + 1) by rw [ex5]; exact (nI_succ j9).symm] at hl
            have hnh : anyF (fun j => decide (F 16 (96 * bo + 8 * a9 + j) = F 16 (96 * bo + 8 * a9 + c9))) j9 = false := b2i_f (by rw [← hxh]; exact c_276)
            have hv2 : (1 : Int32) = b2i (anyF (fun j => decide (F 16 (96 * bo + 8 * a9 + j) = F 16 (96 * bo + 8 * a9 + c9))) (j9 + 1)) := by rw [anyF, hnh, decide_eq_true (by have z := c_314; rw [ex2, ex3, show (96 : Int32) * nI bo + (8 : Int32) * nI a9 + nI j9 = nI (96 * bo + 8 * a9 + j9) from nI_mc bo a9 j9, show (96 : Int32) * nI bo + (8 : Int32) * nI a9 + nI c9 = nI (96 * bo + 8 * a9 + c9) from nI_mc bo a9 c9, nI_clamp (by omega), nI_clamp (by omega)] at z; exact z)]; rfl
            exact ih (j9 + 1) 1 (by omega) hv2 Gv hM hGe _ _ hG hS ls (lv_sub hl [2, 3, 4, 5, 1, 0] rfl)
  refine lv_iconst (v := 0) hx hb dX14_isWrong_265 (by decide) ?_
  refine lv_istore (lv' := [(7, .int 0), (6, .int 0), (4, .int (nI bo)), (0, .ref o), (1, .int 6), (2, .int (nI a9)), (3, .int (nI c9))]) hx hb dX14_isWrong_266 hl (by decide) rfl (fun ls hl => ?_)
  exact hlp c9 0 0 (by omega) rfl G hM rfl _ _ hG hS ls (lv_sub hl [3, 5, 6, 2, 1, 0] rfl)

set_option maxHeartbeats 4000000 in
set_option maxRecDepth 100000 in
theorem c_M_isW7 (l : Launch) (D : va_G) (cy : Nat → ClassId) (A : Nat → Prop) (X : State → Prop) (hst : mk_St A X) (hXT : ∀ U : State, X U → TB U) (G : Nat → Option va_E) (o : Nat) (Ar : Nat → Nat) (Iv : Nat → Int32) (F : Nat → Nat → Int32) (L : Nat → Nat → Int64) (ft : Nat → Int32) (en bo n9 c9 : Nat) (xc : Int32) (v9 : EdV) (hM : MD cy G o Ar Iv F L) (hbE : bkE (tkK ft en) (tkV ft en) n9 F bo v9) (hn30 : n9 < 2 ^ 30) (hbl : bo < 2) (h41 : Iv 41 = nI bo) (hc9 : c9 < v9.nE) : Met l yX14_isWrong [.code yX14_isWrong cX14_isWrong 11 (some .boolean)] ({ frames := 1, cells := 0, slots := 0, locals := 30 }) (mk_Pre D vwCl (tyL cy) A X G [.ref o, .int 7, .int (nI c9), .int xc]) (va_Qi (fun (r : Int32) (G2 : Nat → Option va_E) => r = b2i (decide (fndF (fun j => decide ((v9.E j).1 = (v9.E c9).1)) v9.nE 0 ≠ some c9)) ∧ G2 = G) (mk_B D vwCl A) A) 0 0 A := by
  refine Met.ofW (cc := cX14_isWrong) (maxL := 11) (ret := (some .boolean)) (by decide) rfl ?_
  intro p e s m args below meth c s₁ B hml hv
  obtain ⟨rfl, hG, hK, hA, hX⟩ := hv
  have hx := B.exec
  have hb := B.bytes
  have hr := B.returns
  have hlocks := B.notSynchronized
  have hT := hXT s hX
  have hown : s.vm.findClass RX14 = some m.cls := findClass_of_methodNamed B.named
  have hf_X14 : ∀ w ∈ u_ws RX14 TX14 76, w.before ([.ref o, .int 7, .int (nI c9), .int xc] : List Value).toArray s = true := tb_list hT fX14
  have hS : va_S A s.heap s.heap [] := va_S.rf
  have hl := lv_entry ([.ref o, .int 7, .int (nI c9), .int xc]) (n := 11) (Nat.le_of_ble_eq_true rfl)
  rw [lg_entry_eq]
  generalize (lg_sl ([.ref o, .int 7, .int (nI c9), .int xc]) ++ List.replicate (11 - (lg_sl ([.ref o, .int 7, .int (nI c9), .int xc])).length) Slot.unset).toArray = ls at hl ⊢
  have hl : lv_has ls 11 [(0, .ref o), (1, .int 7), (2, .int (nI c9)), (3, .int xc)] := hl
  have he12 := hbE.2.1
  refine lv_aload_n hx hb dX14_isWrong_0 rfl (lv_at hl 0 rfl) ?_
  refine mm_get (v := .int (Iv 41)) hx hb hf_X14 (fun _ h9 => h9) hown hK hG hM.1 rfl 41 (by decide) (tb_use hT tw_1432) (fun _ h9 => h9) (mfs_g41 _ _) dX14_isWrong_1 ?_
  rw [h41]
  refine lv_istore (lv' := [(4, .int (nI bo)), (0, .ref o), (1, .int 7), (2, .int (nI c9)), (3, .int xc)]) hx hb dX14_isWrong_4 hl (by decide) rfl (fun ls hl => ?_)
  refine lv_iload_n hx hb dX14_isWrong_6 rfl (lv_at hl 2 rfl) ?_
  refine lv_tableIn (tgt := 333) hx hb dX14_isWrong_7 (by decide) (by decide) (off := 326) rfl (by decide) ?_
  refine lv_iconst (v := 0) hx hb dX14_isWrong_333 (by decide) ?_
  refine lv_istore (lv' := [(7, .int 0), (4, .int (nI bo)), (0, .ref o), (1, .int 7), (2, .int (nI c9)), (3, .int xc)]) hx hb dX14_isWrong_334 hl (by decide) rfl (fun ls hl => ?_)
  have hlp : ∀ (n : Nat) (j9 : Nat) (xh : Int32), (n + j9 = c9) → (xh = b2i (anyF (fun j => decide (F 29 (12 * bo + j) = F 29 (12 * bo + c9))) j9)) → ∀ (Gv : Nat → Option va_E), (MD cy Gv o Ar Iv F L) → (Gv = G) → ∀ (H : Heap) (locs : List Loc), mm D vwCl A Gv H → va_S A s.heap H locs → ∀ ls : Array Slot, lv_has ls 11 [(0, .ref o), (2, .int (nI c9)), (4, .int (nI bo)), (7, .int xh), (8, .int (nI j9))] → W p l e (headSpec [.code yX14_isWrong cX14_isWrong 11 (some .boolean)] ({ frames := 1, cells := 0, slots := 0, locals := 30 })).room s m ([.ref o, .int 7, .int (nI c9), .int xc] : List Value).toArray below meth c H locs 0 0 (MQ below (va_Qi (fun (r : Int32) (G2 : Nat → Option va_E) => r = b2i (decide (fndF (fun j => decide ((v9.E j).1 = (v9.E c9).1)) v9.nE 0 ≠ some c9)) ∧ G2 = G) (mk_B D vwCl A) A) ([.ref o, .int 7, .int (nI c9), .int xc] : List Value).toArray s 0 0 A) (F0 m 339 ls []) := by
    intro n
    induction n with
    | zero =>
      intro j9 xh hjn hxh Gv hM hGe H locs hG hS ls hl
      refine lv_iload hx hb dX14_isWrong_339 (lv_at hl 4 rfl) ?_
      refine lv_iload_n hx hb dX14_isWrong_341 rfl (lv_at hl 1 rfl) ?_
      refine lv_icmp_ge (tgt := 391) hx hb dX14_isWrong_342 (by decide) (fun c_342 => ?_) (fun c_342 => ?_)
      · skip
        refine lv_iload hx hb dX14_isWrong_391 (lv_at hl 3 rfl) ?_
        have hjc : j9 = c9 := by omega
        have hfin : xh = b2i (decide (fndF (fun j => decide ((v9.E j).1 = (v9.E c9).1)) v9.nE 0 ≠ some c9)) := by
          rw [show decide (fndF (fun j => decide ((v9.E j).1 = (v9.E c9).1)) v9.nE 0 ≠ some c9) = anyF (fun j => decide (F 29 (12 * bo + j) = F 29 (12 * bo + c9))) c9 from by rw [once_any hc9 (decide_eq_true rfl)]; exact anyF_cg (fun k hk => by rw [(hbE.2.2 k (by omega)).1, (hbE.2.2 c9 hc9).1])]
          rw [hxh, hjc]
        exact W.zret (v := xh) hx hb hr (by rw [hxh]; cases anyF (fun j => decide (F 29 (12 * bo + j) = F 29 (12 * bo + c9))) j9 <;> rfl) (fun t ht hW => ⟨⟨_, _, rfl, ⟨hfin, hGe⟩, mk_end hG ht⟩, hS.F ht⟩) hS.2.2 dX14_isWrong_393
      · skip
        exact absurd (by rw [show j9 = c9 by omega]; exact Int32.le_refl _) c_342
    | succ n ih =>
      intro j9 xh hjn hxh Gv hM hGe H locs hG hS ls hl
      refine lv_iload hx hb dX14_isWrong_339 (lv_at hl 4 rfl) ?_
      refine lv_iload_n hx hb dX14_isWrong_341 rfl (lv_at hl 1 rfl) ?_
      refine lv_icmp_ge (tgt := 391) hx hb dX14_isWrong_342 (by decide) (fun c_342 => ?_) (fun c_342 => ?_)
      · skip
        exact absurd c_342 (nI_ge (a := j9) (b := c9) (by omega) (by omega))
      · skip
        refine lv_iload hx hb dX14_isWrong_345 (lv_at hl 3 rfl) ?_
        refine lv_if_ne (tgt := 378) hx hb dX14_isWrong_347 (by decide) (fun c_347 => ?_) (fun c_347 => ?_)
        · skip
          refine lv_iconst (v := 1) hx hb dX14_isWrong_378 (by decide) ?_
          refine lv_goto (tgt := 383) hx hb dX14_isWrong_379 (by decide) ?_
          refine lv_istore (lv' := [(7, .int 1), (0, .ref o), (2, .int (nI c9)), (4, .int (nI bo)), (8, .int (nI j9))]) hx hb dX14_isWrong_383 hl (by decide) rfl (fun ls hl => ?_)
          obtain ⟨x1, ex1⟩ : ∃ y : Int32, y = (nI j9) + 1 := ⟨_, rfl⟩
          refine lv_iinc (v := x1) (lv' := [(8, .int x1), (7, .int 1), (0, .ref o), (2, .int (nI c9)), (4, .int (nI bo))]) hx hb dX14_isWrong_385 hl (k := 4) rfl (by rw [ex1]; rfl) (by decide) rfl (fun ls hl => ?_)
          refine lv_goto (tgt := 339) hx hb dX14_isWrong_388 (by decide) ?_
          rw [show x1 = nI (j9 + 1) by rw [ex1]; exact (nI_succ j9).symm] at hl
          have hv2 : (1 : Int32) = b2i (anyF (fun j => decide (F 29 (12 * bo + j) = F 29 (12 * bo + c9))) (j9 + 1)) := by rw [anyF, show anyF (fun j => decide (F 29 (12 * bo + j) = F 29 (12 * bo + c9))) j9 = true from b2i_t (by rw [← hxh]; exact c_347)]; rfl
          exact ih (j9 + 1) 1 (by omega) hv2 Gv hM hGe _ _ hG hS ls (lv_sub hl [2, 3, 4, 1, 0] rfl)
        · skip
          refine lv_aload_n hx hb dX14_isWrong_350 rfl (lv_at hl 0 rfl) ?_
          refine mm_get (v := .ref (Ar 29)) hx hb hf_X14 (fun _ h9 => h9) hown hK hG hM.1 rfl 29 (by decide) (tb_use hT tw_1420) (fun _ h9 => h9) (mfs_g29 _ _) dX14_isWrong_351 ?_
          refine lv_bipush (v := 12) hx hb dX14_isWrong_354 (by decide) ?_
          refine lv_iload hx hb dX14_isWrong_356 (lv_at hl 2 rfl) ?_
          refine lv_imul hx hb dX14_isWrong_358 ?_
          refine lv_iload hx hb dX14_isWrong_359 (lv_at hl 4 rfl) ?_
          refine lv_iadd hx hb dX14_isWrong_361 ?_
          refine mm_iald (n := 24) (f := F 29) hx hb hK hG 1 (hM.2.1 29 rfl) rfl (by rw [show (12 : Int32) * nI bo + nI j9 = nI (12 * bo + j9) from nI_ma 12 bo j9]; exact nI_in (N := 24) (by omega) (by decide)) dX14_isWrong_362 ?_
          refine lv_topi (fun x2 ex2 => ?_)
          refine lv_aload_n hx hb dX14_isWrong_363 rfl (lv_at hl 0 rfl) ?_
          refine mm_get (v := .ref (Ar 29)) hx hb hf_X14 (fun _ h9 => h9) hown hK hG hM.1 rfl 29 (by decide) (tb_use hT tw_1420) (fun _ h9 => h9) (mfs_g29 _ _) dX14_isWrong_364 ?_
          refine lv_bipush (v := 12) hx hb dX14_isWrong_367 (by decide) ?_
          refine lv_iload hx hb dX14_isWrong_369 (lv_at hl 2 rfl) ?_
          refine lv_imul hx hb dX14_isWrong_371 ?_
          refine lv_iload_n hx hb dX14_isWrong_372 rfl (lv_at hl 1 rfl) ?_
          refine lv_iadd hx hb dX14_isWrong_373 ?_
          refine mm_iald (n := 24) (f := F 29) hx hb hK hG 1 (hM.2.1 29 rfl) rfl (by rw [show (12 : Int32) * nI bo + nI c9 = nI (12 * bo + c9) from nI_ma 12 bo c9]; exact nI_in (N := 24) (by omega) (by decide)) dX14_isWrong_374 ?_
          refine lv_topi (fun x3 ex3 => ?_)
          refine lv_icmp_ne (tgt := 382) hx hb dX14_isWrong_375 (by decide) (fun c_375 => ?_) (fun c_375 => ?_)
          · skip
            refine lv_iconst (v := 0) hx hb dX14_isWrong_382 (by decide) ?_
            refine lv_istore (lv' := [(7, .int 0), (0, .ref o), (2, .int (nI c9)), (4, .int (nI bo)), (8, .int (nI j9))]) hx hb dX14_isWrong_383 hl (by decide) rfl (fun ls hl => ?_)
            obtain ⟨x4, ex4⟩ : ∃ y : Int32, y = (nI j9) + 1 := ⟨_, rfl⟩
            refine lv_iinc (v := x4) (lv' := [(8, .int x4), (7, .int 0), (0, .ref o), (2, .int (nI c9)), (4, .int (nI bo))]) hx hb dX14_isWrong_385 hl (k := 4) rfl (by rw [ex4]; rfl) (by decide) rfl (fun ls hl => ?_)
            refine lv_goto (tgt := 339) hx hb dX14_isWrong_388 (by decide) ?_
            rw [show x4 = nI (j9 + 1) by rw [ex4]; exact (nI_succ j9).symm] at hl
            have hnh : anyF (fun j => decide (F 29 (12 * bo + j) = F 29 (12 * bo + c9))) j9 = false := b2i_f (by rw [← hxh]; exact c_347)
            have hv2 : (0 : Int32) = b2i (anyF (fun j => decide (F 29 (12 * bo + j) = F 29 (12 * bo + c9))) (j9 + 1)) := by rw [anyF, hnh, decide_eq_false (fun z => c_375 (by rw [ex2, ex3, show (12 : Int32) * nI bo + nI j9 = nI (12 * bo + j9) from nI_ma 12 bo j9, show (12 : Int32) * nI bo + nI c9 = nI (12 * bo + c9) from nI_ma 12 bo c9, nI_clamp (by omega), nI_clamp (by omega)]; exact z))]; rfl
            exact ih (j9 + 1) 0 (by omega) hv2 Gv hM hGe _ _ hG hS ls (lv_sub hl [2, 3, 4, 1, 0] rfl)
          · skip
            refine lv_iconst (v := 1) hx hb dX14_isWrong_378 (by decide) ?_
            refine lv_goto (tgt := 383) hx hb dX14_isWrong_379 (by decide) ?_
            refine lv_istore (lv' := [(7, .int 1), (0, .ref o), (2, .int (nI c9)), (4, .int (nI bo)), (8, .int (nI j9))]) hx hb dX14_isWrong_383 hl (by decide) rfl (fun ls hl => ?_)
            obtain ⟨x5, ex5⟩ : ∃ y : Int32, y = (nI j9) + 1 := ⟨_, rfl⟩
            refine lv_iinc (v := x5) (lv' := [(8, .int x5), (7, .int 1), (0, .ref o), (2, .int (nI c9)), (4, .int (nI bo))]) hx hb dX14_isWrong_385 hl (k := 4) rfl (by rw [ex5]; rfl) (by decide) rfl (fun ls hl => ?_)
            refine lv_goto (tgt := 339) hx hb dX14_isWrong_388 (by decide) ?_
            rw [show x5 = nI (j9 + 1) by rw [ex5]; exact (nI_succ j9).symm] at hl
            have hnh : anyF (fun j => decide (F 29 (12 * bo + j) = F 29 (12 * bo + c9))) j9 = false := b2i_f (by rw [← hxh]; exact c_347)
            have hv2 : (1 : Int32) = b2i (anyF (fun j => decide (F 29 (12 * bo + j) = F 29 (12 * bo + c9))) (j9 + 1)) := by rw [anyF, hnh, decide_eq_true (by have z := c_375; rw [ex2, ex3, show (12 : Int32) * nI bo + nI j9 = nI (12 * bo + j9) from nI_ma 12 bo j9, show (12 : Int32) * nI bo + nI c9 = nI (12 * bo + c9) from nI_ma 12 bo c9, nI_clamp (by omega), nI_clamp (by omega)] at z; exact z)]; rfl
            exact ih (j9 + 1) 1 (by omega) hv2 Gv hM hGe _ _ hG hS ls (lv_sub hl [2, 3, 4, 1, 0] rfl)
  refine lv_iconst (v := 0) hx hb dX14_isWrong_336 (by decide) ?_
  refine lv_istore (lv' := [(8, .int 0), (7, .int 0), (4, .int (nI bo)), (0, .ref o), (1, .int 7), (2, .int (nI c9)), (3, .int xc)]) hx hb dX14_isWrong_337 hl (by decide) rfl (fun ls hl => ?_)
  exact hlp c9 0 0 (by omega) rfl G hM rfl _ _ hG hS ls (lv_sub hl [3, 5, 2, 1, 0] rfl)

set_option maxHeartbeats 4000000 in
set_option maxRecDepth 100000 in
theorem c_M_isW8 (l : Launch) (D : va_G) (cy : Nat → ClassId) (A : Nat → Prop) (X : State → Prop) (hst : mk_St A X) (hXT : ∀ U : State, X U → TB U) (G : Nat → Option va_E) (o : Nat) (Ar : Nat → Nat) (Iv : Nat → Int32) (F : Nat → Nat → Int32) (L : Nat → Nat → Int64) (ft : Nat → Int32) (en bo n9 c9 : Nat) (xc : Int32) (v9 : EdV) (hM : MD cy G o Ar Iv F L) (hbV : bkV (tkK ft en) (tkV ft en) n9 F bo v9) (hn30 : n9 < 2 ^ 30) (hbl : bo < 2) (h41 : Iv 41 = nI bo) (hc9 : c9 < v9.nV) : Met l yX14_isWrong [.code yX14_isWrong cX14_isWrong 11 (some .boolean)] ({ frames := 1, cells := 0, slots := 0, locals := 30 }) (mk_Pre D vwCl (tyL cy) A X G [.ref o, .int 8, .int (nI c9), .int xc]) (va_Qi (fun (r : Int32) (G2 : Nat → Option va_E) => r = b2i (decide (fndF (fun j => decide ((v9.V j).1 = (v9.V c9).1)) v9.nV 0 ≠ some c9)) ∧ G2 = G) (mk_B D vwCl A) A) 0 0 A := by
  refine Met.ofW (cc := cX14_isWrong) (maxL := 11) (ret := (some .boolean)) (by decide) rfl ?_
  intro p e s m args below meth c s₁ B hml hv
  obtain ⟨rfl, hG, hK, hA, hX⟩ := hv
  have hx := B.exec
  have hb := B.bytes
  have hr := B.returns
  have hlocks := B.notSynchronized
  have hT := hXT s hX
  have hown : s.vm.findClass RX14 = some m.cls := findClass_of_methodNamed B.named
  have hf_X14 : ∀ w ∈ u_ws RX14 TX14 76, w.before ([.ref o, .int 8, .int (nI c9), .int xc] : List Value).toArray s = true := tb_list hT fX14
  have hS : va_S A s.heap s.heap [] := va_S.rf
  have hl := lv_entry ([.ref o, .int 8, .int (nI c9), .int xc]) (n := 11) (Nat.le_of_ble_eq_true rfl)
  rw [lg_entry_eq]
  generalize (lg_sl ([.ref o, .int 8, .int (nI c9), .int xc]) ++ List.replicate (11 - (lg_sl ([.ref o, .int 8, .int (nI c9), .int xc])).length) Slot.unset).toArray = ls at hl ⊢
  have hl : lv_has ls 11 [(0, .ref o), (1, .int 8), (2, .int (nI c9)), (3, .int xc)] := hl
  have hv6 := hbV.2.1
  refine lv_aload_n hx hb dX14_isWrong_0 rfl (lv_at hl 0 rfl) ?_
  refine mm_get (v := .int (Iv 41)) hx hb hf_X14 (fun _ h9 => h9) hown hK hG hM.1 rfl 41 (by decide) (tb_use hT tw_1432) (fun _ h9 => h9) (mfs_g41 _ _) dX14_isWrong_1 ?_
  rw [h41]
  refine lv_istore (lv' := [(4, .int (nI bo)), (0, .ref o), (1, .int 8), (2, .int (nI c9)), (3, .int xc)]) hx hb dX14_isWrong_4 hl (by decide) rfl (fun ls hl => ?_)
  refine lv_iload_n hx hb dX14_isWrong_6 rfl (lv_at hl 2 rfl) ?_
  refine lv_tableIn (tgt := 394) hx hb dX14_isWrong_7 (by decide) (by decide) (off := 387) rfl (by decide) ?_
  refine lv_iconst (v := 0) hx hb dX14_isWrong_394 (by decide) ?_
  refine lv_istore (lv' := [(8, .int 0), (4, .int (nI bo)), (0, .ref o), (1, .int 8), (2, .int (nI c9)), (3, .int xc)]) hx hb dX14_isWrong_395 hl (by decide) rfl (fun ls hl => ?_)
  have hlp : ∀ (n : Nat) (j9 : Nat) (xh : Int32), (n + j9 = c9) → (xh = b2i (anyF (fun j => decide (F 32 (6 * bo + j) = F 32 (6 * bo + c9))) j9)) → ∀ (Gv : Nat → Option va_E), (MD cy Gv o Ar Iv F L) → (Gv = G) → ∀ (H : Heap) (locs : List Loc), mm D vwCl A Gv H → va_S A s.heap H locs → ∀ ls : Array Slot, lv_has ls 11 [(0, .ref o), (2, .int (nI c9)), (4, .int (nI bo)), (8, .int xh), (9, .int (nI j9))] → W p l e (headSpec [.code yX14_isWrong cX14_isWrong 11 (some .boolean)] ({ frames := 1, cells := 0, slots := 0, locals := 30 })).room s m ([.ref o, .int 8, .int (nI c9), .int xc] : List Value).toArray below meth c H locs 0 0 (MQ below (va_Qi (fun (r : Int32) (G2 : Nat → Option va_E) => r = b2i (decide (fndF (fun j => decide ((v9.V j).1 = (v9.V c9).1)) v9.nV 0 ≠ some c9)) ∧ G2 = G) (mk_B D vwCl A) A) ([.ref o, .int 8, .int (nI c9), .int xc] : List Value).toArray s 0 0 A) (F0 m 400 ls []) := by
    intro n
    induction n with
    | zero =>
      intro j9 xh hjn hxh Gv hM hGe H locs hG hS ls hl
      refine lv_iload hx hb dX14_isWrong_400 (lv_at hl 4 rfl) ?_
      refine lv_iload_n hx hb dX14_isWrong_402 rfl (lv_at hl 1 rfl) ?_
      refine lv_icmp_ge (tgt := 452) hx hb dX14_isWrong_403 (by decide) (fun c_403 => ?_) (fun c_403 => ?_)
      · skip
        refine lv_iload hx hb dX14_isWrong_452 (lv_at hl 3 rfl) ?_
        have hjc : j9 = c9 := by omega
        have hfin : xh = b2i (decide (fndF (fun j => decide ((v9.V j).1 = (v9.V c9).1)) v9.nV 0 ≠ some c9)) := by
          rw [show decide (fndF (fun j => decide ((v9.V j).1 = (v9.V c9).1)) v9.nV 0 ≠ some c9) = anyF (fun j => decide (F 32 (6 * bo + j) = F 32 (6 * bo + c9))) c9 from by rw [once_any hc9 (decide_eq_true rfl)]; exact anyF_cg (fun k hk => by rw [(hbV.2.2 k (by omega)).1, (hbV.2.2 c9 hc9).1])]
          rw [hxh, hjc]
        exact W.zret (v := xh) hx hb hr (by rw [hxh]; cases anyF (fun j => decide (F 32 (6 * bo + j) = F 32 (6 * bo + c9))) j9 <;> rfl) (fun t ht hW => ⟨⟨_, _, rfl, ⟨hfin, hGe⟩, mk_end hG ht⟩, hS.F ht⟩) hS.2.2 dX14_isWrong_454
      · skip
        exact absurd (by rw [show j9 = c9 by omega]; exact Int32.le_refl _) c_403
    | succ n ih =>
      intro j9 xh hjn hxh Gv hM hGe H locs hG hS ls hl
      refine lv_iload hx hb dX14_isWrong_400 (lv_at hl 4 rfl) ?_
      refine lv_iload_n hx hb dX14_isWrong_402 rfl (lv_at hl 1 rfl) ?_
      refine lv_icmp_ge (tgt := 452) hx hb dX14_isWrong_403 (by decide) (fun c_403 => ?_) (fun c_403 => ?_)
      · skip
        exact absurd c_403 (nI_ge (a := j9) (b := c9) (by omega) (by omega))
      · skip
        refine lv_iload hx hb dX14_isWrong_406 (lv_at hl 3 rfl) ?_
        refine lv_if_ne (tgt := 439) hx hb dX14_isWrong_408 (by decide) (fun c_408 => ?_) (fun c_408 => ?_)
        · skip
          refine lv_iconst (v := 1) hx hb dX14_isWrong_439 (by decide) ?_
          refine lv_goto (tgt := 444) hx hb dX14_isWrong_440 (by decide) ?_
          refine lv_istore (lv' := [(8, .int 1), (0, .ref o), (2, .int (nI c9)), (4, .int (nI bo)), (9, .int (nI j9))]) hx hb dX14_isWrong_444 hl (by decide) rfl (fun ls hl => ?_)
          obtain ⟨x1, ex1⟩ : ∃ y : Int32, y = (nI j9) + 1 := ⟨_, rfl⟩
          refine lv_iinc (v := x1) (lv' := [(9, .int x1), (8, .int 1), (0, .ref o), (2, .int (nI c9)), (4, .int (nI bo))]) hx hb dX14_isWrong_446 hl (k := 4) rfl (by rw [ex1]; rfl) (by decide) rfl (fun ls hl => ?_)
          refine lv_goto (tgt := 400) hx hb dX14_isWrong_449 (by decide) ?_
          rw [show x1 = nI (j9 + 1) by rw [ex1]; exact (nI_succ j9).symm] at hl
          have hv2 : (1 : Int32) = b2i (anyF (fun j => decide (F 32 (6 * bo + j) = F 32 (6 * bo + c9))) (j9 + 1)) := by rw [anyF, show anyF (fun j => decide (F 32 (6 * bo + j) = F 32 (6 * bo + c9))) j9 = true from b2i_t (by rw [← hxh]; exact c_408)]; rfl
          exact ih (j9 + 1) 1 (by omega) hv2 Gv hM hGe _ _ hG hS ls (lv_sub hl [2, 3, 4, 1, 0] rfl)
        · skip
          refine lv_aload_n hx hb dX14_isWrong_411 rfl (lv_at hl 0 rfl) ?_
          refine mm_get (v := .ref (Ar 32)) hx hb hf_X14 (fun _ h9 => h9) hown hK hG hM.1 rfl 32 (by decide) (tb_use hT tw_1423) (fun _ h9 => h9) (mfs_g32 _ _) dX14_isWrong_412 ?_
          refine lv_bipush (v := 6) hx hb dX14_isWrong_415 (by decide) ?_
          refine lv_iload hx hb dX14_isWrong_417 (lv_at hl 2 rfl) ?_
          refine lv_imul hx hb dX14_isWrong_419 ?_
          refine lv_iload hx hb dX14_isWrong_420 (lv_at hl 4 rfl) ?_
          refine lv_iadd hx hb dX14_isWrong_422 ?_
          refine mm_iald (n := 12) (f := F 32) hx hb hK hG 1 (hM.2.1 32 rfl) rfl (by rw [show (6 : Int32) * nI bo + nI j9 = nI (6 * bo + j9) from nI_ma 6 bo j9]; exact nI_in (N := 12) (by omega) (by decide)) dX14_isWrong_423 ?_
          refine lv_topi (fun x2 ex2 => ?_)
          refine lv_aload_n hx hb dX14_isWrong_424 rfl (lv_at hl 0 rfl) ?_
          refine mm_get (v := .ref (Ar 32)) hx hb hf_X14 (fun _ h9 => h9) hown hK hG hM.1 rfl 32 (by decide) (tb_use hT tw_1423) (fun _ h9 => h9) (mfs_g32 _ _) dX14_isWrong_425 ?_
          refine lv_bipush (v := 6) hx hb dX14_isWrong_428 (by decide) ?_
          refine lv_iload hx hb dX14_isWrong_430 (lv_at hl 2 rfl) ?_
          refine lv_imul hx hb dX14_isWrong_432 ?_
          refine lv_iload_n hx hb dX14_isWrong_433 rfl (lv_at hl 1 rfl) ?_
          refine lv_iadd hx hb dX14_isWrong_434 ?_
          refine mm_iald (n := 12) (f := F 32) hx hb hK hG 1 (hM.2.1 32 rfl) rfl (by rw [show (6 : Int32) * nI bo + nI c9 = nI (6 * bo + c9) from nI_ma 6 bo c9]; exact nI_in (N := 12) (by omega) (by decide)) dX14_isWrong_435 ?_
          refine lv_topi (fun x3 ex3 => ?_)
          refine lv_icmp_ne (tgt := 443) hx hb dX14_isWrong_436 (by decide) (fun c_436 => ?_) (fun c_436 => ?_)
          · skip
            refine lv_iconst (v := 0) hx hb dX14_isWrong_443 (by decide) ?_
            refine lv_istore (lv' := [(8, .int 0), (0, .ref o), (2, .int (nI c9)), (4, .int (nI bo)), (9, .int (nI j9))]) hx hb dX14_isWrong_444 hl (by decide) rfl (fun ls hl => ?_)
            obtain ⟨x4, ex4⟩ : ∃ y : Int32, y = (nI j9) + 1 := ⟨_, rfl⟩
            refine lv_iinc (v := x4) (lv' := [(9, .int x4), (8, .int 0), (0, .ref o), (2, .int (nI c9)), (4, .int (nI bo))]) hx hb dX14_isWrong_446 hl (k := 4) rfl (by rw [ex4]; rfl) (by decide) rfl (fun ls hl => ?_)
            refine lv_goto (tgt := 400) hx hb dX14_isWrong_449 (by decide) ?_
            rw [show x4 = nI (j9 + 1) by rw [ex4]; exact (nI_succ j9).symm] at hl
            have hnh : anyF (fun j => decide (F 32 (6 * bo + j) = F 32 (6 * bo + c9))) j9 = false := b2i_f (by rw [← hxh]; exact c_408)
            have hv2 : (0 : Int32) = b2i (anyF (fun j => decide (F 32 (6 * bo + j) = F 32 (6 * bo + c9))) (j9 + 1)) := by rw [anyF, hnh, decide_eq_false (fun z => c_436 (by rw [ex2, ex3, show (6 : Int32) * nI bo + nI j9 = nI (6 * bo + j9) from nI_ma 6 bo j9, show (6 : Int32) * nI bo + nI c9 = nI (6 * bo + c9) from nI_ma 6 bo c9, nI_clamp (by omega), nI_clamp (by omega)]; exact z))]; rfl
            exact ih (j9 + 1) 0 (by omega) hv2 Gv hM hGe _ _ hG hS ls (lv_sub hl [2, 3, 4, 1, 0] rfl)
          · skip
            refine lv_iconst (v := 1) hx hb dX14_isWrong_439 (by decide) ?_
            refine lv_goto (tgt := 444) hx hb dX14_isWrong_440 (by decide) ?_
            refine lv_istore (lv' := [(8, .int 1), (0, .ref o), (2, .int (nI c9)), (4, .int (nI bo)), (9, .int (nI j9))]) hx hb dX14_isWrong_444 hl (by decide) rfl (fun ls hl => ?_)
            obtain ⟨x5, ex5⟩ : ∃ y : Int32, y = (nI j9) + 1 := ⟨_, rfl⟩
            refine lv_iinc (v := x5) (lv' := [(9, .int x5), (8, .int 1), (0, .ref o), (2, .int (nI c9)), (4, .int (nI bo))]) hx hb dX14_isWrong_446 hl (k := 4) rfl (by rw [ex5]; rfl) (by decide) rfl (fun ls hl => ?_)
            refine lv_goto (tgt := 400) hx hb dX14_isWrong_449 (by decide) ?_
            rw [show x5 = nI (j9 + 1) by rw [ex5]; exact (nI_succ j9).symm] at hl
            have hnh : anyF (fun j => decide (F 32 (6 * bo + j) = F 32 (6 * bo + c9))) j9 = false := b2i_f (by rw [← hxh]; exact c_408)
            have hv2 : (1 : Int32) = b2i (anyF (fun j => decide (F 32 (6 * bo + j) = F 32 (6 * bo + c9))) (j9 + 1)) := by rw [anyF, hnh, decide_eq_true (by have z := c_436; rw [ex2, ex3, show (6 : Int32) * nI bo + nI j9 = nI (6 * bo + j9) from nI_ma 6 bo j9, show (6 : Int32) * nI bo + nI c9 = nI (6 * bo + c9) from nI_ma 6 bo c9, nI_clamp (by omega), nI_clamp (by omega)] at z; exact z)]; rfl
            exact ih (j9 + 1) 1 (by omega) hv2 Gv hM hGe _ _ hG hS ls (lv_sub hl [2, 3, 4, 1, 0] rfl)
  refine lv_iconst (v := 0) hx hb dX14_isWrong_397 (by decide) ?_
  refine lv_istore (lv' := [(9, .int 0), (8, .int 0), (4, .int (nI bo)), (0, .ref o), (1, .int 8), (2, .int (nI c9)), (3, .int xc)]) hx hb dX14_isWrong_398 hl (by decide) rfl (fun ls hl => ?_)
  exact hlp c9 0 0 (by omega) rfl G hM rfl _ _ hG hS ls (lv_sub hl [3, 5, 2, 1, 0] rfl)
