/-- n signs from a on, the first one lowest -/
def pk8 (f : Nat → Int32) : Nat → Nat → Int64
  | _, 0 => 0
  | a, n + 1 => pk8 f (a + 1) n <<< 8 ||| (f a).toInt64
theorem pm_of {n : Nat} (h : n < 2 ^ 31) : nI n - 1 < nI n := by
  cases n with
  | zero => decide
  | succ k => rw [nI_pred k]; exact nI_lt (Nat.lt_succ_self k) h
theorem pk8_step {f : Nat → Int32} {j b : Nat} (h : j < b) : pk8 f j (b - j) = pk8 f (j + 1) (b - (j + 1)) <<< 8 ||| (f j).toInt64 := by
  rw [show b - j = (b - (j + 1)) + 1 by omega, pk8]

set_option maxHeartbeats 4000000 in
set_option maxRecDepth 100000 in
theorem c_M_packed (l : Launch) (D : va_G) (cy : Nat → ClassId) (A : Nat → Prop) (X : State → Prop) (hst : mk_St A X) (hXT : ∀ U : State, X U → TB U) (G : Nat → Option va_E) (o : Nat) (Ar : Nat → Nat) (Iv : Nat → Int32) (F : Nat → Nat → Int32) (L : Nat → Nat → Int64) (sN : Nat) (sf : Nat → Int32) (a9 b9 : Nat) (hM : MD cy G o Ar Iv F L) (hs : G (Ar 47) = some (.inl (cy 1, sN, .inl sf))) (hsN : sN < 2 ^ 31) (hab : a9 ≤ b9) (hbN : b9 ≤ sN) : Met l yX14_packed [.code yX14_packed cX14_packed 6 (some .long)] ({ frames := 0, cells := 0, slots := 0, locals := 0 }) (mk_Pre D vwCl (tyL cy) A X G [.ref o, .int (nI a9), .int (nI b9)]) (va_Ql (fun (r : Int64) (G2 : Nat → Option va_E) => r = pk8 sf a9 (b9 - a9) ∧ G2 = G) (mk_B D vwCl A) A) 0 0 A := by
  refine Met.ofW (cc := cX14_packed) (maxL := 6) (ret := (some .long)) (by decide) rfl ?_
  intro p e s m args below meth c s₁ B hml hv
  obtain ⟨rfl, hG, hK, hA, hX⟩ := hv
  have hx := B.exec
  have hb := B.bytes
  have hr := B.returns
  have hlocks := B.notSynchronized
  have hT := hXT s hX
  have hown : s.vm.findClass RX14 = some m.cls := findClass_of_methodNamed B.named
  have hf_X14 : ∀ w ∈ u_ws RX14 TX14 76, w.before ([.ref o, .int (nI a9), .int (nI b9)] : List Value).toArray s = true := tb_list hT fX14
  have hS : va_S A s.heap s.heap [] := va_S.rf
  have hl := lv_entry ([.ref o, .int (nI a9), .int (nI b9)]) (n := 6) (Nat.le_of_ble_eq_true rfl)
  rw [lg_entry_eq]
  generalize (lg_sl ([.ref o, .int (nI a9), .int (nI b9)]) ++ List.replicate (6 - (lg_sl ([.ref o, .int (nI a9), .int (nI b9)])).length) Slot.unset).toArray = ls at hl ⊢
  have hl : lv_has ls 6 [(0, .ref o), (1, .int (nI a9)), (2, .int (nI b9))] := hl
  have hloop : ∀ (n : Nat) (j9 : Nat) (xi : Int32) (vv : Int64), (j9 = n + a9) → (j9 ≤ b9) → (xi = nI j9 - 1) → (vv = pk8 sf j9 (b9 - j9)) → ∀ (Gv : Nat → Option va_E), (Gv (Ar 47) = some (.inl (cy 1, sN, .inl sf))) → (MD cy Gv o Ar Iv F L) → (Gv = G) → ∀ (H : Heap) (locs : List Loc), mm D vwCl A Gv H → va_S A s.heap H locs → ∀ ls : Array Slot, lv_has ls 6 [(0, .ref o), (1, .int (nI a9)), (2, .int (nI b9)), (3, .long vv), (5, .int xi)] → W p l e (headSpec [.code yX14_packed cX14_packed 6 (some .long)] ({ frames := 0, cells := 0, slots := 0, locals := 0 })).room s m ([.ref o, .int (nI a9), .int (nI b9)] : List Value).toArray below meth c H locs 0 0 (MQ below (va_Ql (fun (r : Int64) (G2 : Nat → Option va_E) => r = pk8 sf a9 (b9 - a9) ∧ G2 = G) (mk_B D vwCl A) A) ([.ref o, .int (nI a9), .int (nI b9)] : List Value).toArray s 0 0 A) (F0 m 7 ls []) := by
    intro n
    induction n with
    | zero =>
      intro j9 xi vv hjn hjb hx5 hvv Gv hs hM hGe H locs hG hS ls hl
      refine lv_iload hx hb dX14_packed_7 (lv_at hl 4 rfl) ?_
      refine lv_iload_n hx hb dX14_packed_9 rfl (lv_at hl 1 rfl) ?_
      refine lv_icmp_lt (tgt := 33) hx hb dX14_packed_10 (by decide) (fun c_10 => ?_) (fun c_10 => ?_)
      · skip
        refine lv_lload_n hx hb dX14_packed_33 rfl (lv_at hl 3 rfl) ?_
        exact W.lret (v := vv) hx hb hr (fun t ht hW => ⟨⟨_, _, rfl, ⟨(by rw [hvv, show j9 = a9 by omega]), hGe⟩, mk_end hG ht⟩, hS.F ht⟩) hS.2.2 dX14_packed_34
      · skip
        exact absurd (by rw [hx5, show j9 = a9 by omega]; exact pm_of (by omega)) c_10
    | succ n ih =>
      intro j9 xi vv hjn hjb hx5 hvv Gv hs hM hGe H locs hG hS ls hl
      obtain ⟨k9, hj9⟩ : ∃ k, j9 = k + 1 := ⟨j9 - 1, by omega⟩
      have hk9 : xi = nI k9 := by rw [hx5, hj9]; exact nI_pred k9
      refine lv_iload hx hb dX14_packed_7 (lv_at hl 4 rfl) ?_
      refine lv_iload_n hx hb dX14_packed_9 rfl (lv_at hl 1 rfl) ?_
      refine lv_icmp_lt (tgt := 33) hx hb dX14_packed_10 (by decide) (fun c_10 => ?_) (fun c_10 => ?_)
      · skip
        exact absurd c_10 (by rw [hk9]; exact nI_nlt_of (by omega) (by omega) (by omega))
      · skip
        refine lv_lload_n hx hb dX14_packed_13 rfl (lv_at hl 3 rfl) ?_
        refine lv_bipush (v := 8) hx hb dX14_packed_14 (by decide) ?_
        obtain ⟨x1, ex1⟩ : ∃ y, y = (vv : Int64) <<< ((8 : Int32).toInt64 &&& 63) := ⟨_, rfl⟩
        refine lv_lshl (v := x1) hx hb dX14_packed_16 ex1.symm ?_
        refine lv_aload_n hx hb dX14_packed_17 rfl (lv_at hl 0 rfl) ?_
        refine mm_get (v := .ref (Ar 47)) hx hb hf_X14 (fun _ h9 => h9) hown hK hG hM.1 rfl 47 (by decide) (tb_use hT tw_1438) (fun _ h9 => h9) (mfs_g47 _ _) dX14_packed_18 ?_
        refine lv_iload hx hb dX14_packed_21 (lv_at hl 4 rfl) ?_
        refine mm_iald hx hb hK hG 1 hs rfl (by rw [hk9]; exact nI_in (by omega) hsN) dX14_packed_23 ?_
        refine lv_topi (fun x2 ex2 => ?_)
        obtain ⟨x3, ex3⟩ : ∃ y, y = (x2 : Int32).toInt64 := ⟨_, rfl⟩
        refine lv_i2l (v := x3) hx hb dX14_packed_24 ex3.symm ?_
        refine lv_lor hx hb dX14_packed_25 ?_
        refine lv_topl (fun x4 ex4 => ?_)
        refine lv_lstore_n (lv' := [(3, .long x4), (0, .ref o), (1, .int (nI a9)), (2, .int (nI b9)), (5, .int xi)]) hx hb dX14_packed_26 rfl hl (by decide) rfl (fun ls hl => ?_)
        obtain ⟨x5, ex5⟩ : ∃ y : Int32, y = xi + (-1) := ⟨_, rfl⟩
        refine lv_iinc (v := x5) (lv' := [(5, .int x5), (3, .long x4), (0, .ref o), (1, .int (nI a9)), (2, .int (nI b9))]) hx hb dX14_packed_27 hl (k := 4) rfl (by rw [ex5]; rfl) (by decide) rfl (fun ls hl => ?_)
        refine lv_goto (tgt := 7) hx hb dX14_packed_30 (by decide) ?_
        have hv9 : x4 = pk8 sf k9 (b9 - k9) := by rw [pk8_step (f := sf) (j := k9) (b := b9) (by omega)]; simp only [ex1, ex2, ex3, ex4]; rw [hvv, hk9, hj9, nI_clamp (by omega)]; try rfl
        exact ih k9 x5 x4 (by omega) (by omega) (by rw [ex5, hk9, Int32.sub_eq_add_neg]) hv9 Gv hs hM hGe _ _ hG hS ls (lv_sub hl [2, 3, 4, 1, 0] rfl)
  refine lv_lconst (v := 0) hx hb dX14_packed_0 (by decide) ?_
  refine lv_lstore_n (lv' := [(3, .long 0), (0, .ref o), (1, .int (nI a9)), (2, .int (nI b9))]) hx hb dX14_packed_1 rfl hl (by decide) rfl (fun ls hl => ?_)
  refine lv_iload_n hx hb dX14_packed_2 rfl (lv_at hl 3 rfl) ?_
  refine lv_iconst (v := 1) hx hb dX14_packed_3 (by decide) ?_
  refine lv_isub hx hb dX14_packed_4 ?_
  refine lv_topi (fun x6 ex6 => ?_)
  refine lv_istore (lv' := [(5, .int x6), (3, .long 0), (0, .ref o), (1, .int (nI a9)), (2, .int (nI b9))]) hx hb dX14_packed_5 hl (by decide) rfl (fun ls hl => ?_)
  exact hloop (b9 - a9) b9 x6 0 (by omega) (by omega) ex6 (by rw [Nat.sub_self]; rfl) G hs hM rfl _ _ hG hS ls (lv_sub hl [2, 3, 4, 1, 0] rfl)
