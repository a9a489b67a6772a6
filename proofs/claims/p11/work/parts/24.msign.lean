theorem upd_upd (f : Nat → Int32) (k : Nat) (x y : Int32) : upd (upd f k x) k y = upd f k y := by
  funext j
  by_cases h : j = k
  · subst h; rw [pk_us, pk_us]
  · rw [pk_un h, pk_un h, pk_un h]
/-- the reference's text: an octet more -/
def sm_1 (x : Int32) (q : Int32 × (Nat → Int32)) : Int32 × (Nat → Int32) := if x = 0 then q else if 2000 ≤ q.1 then q else (q.1 + 1, upd q.2 q.1.toNatClampNeg x)
def sm_o (cv : Int32) (k : Int32) : Int32 := (cv >>> (k &&& 31)) &&& 255
def sm_n (cv : Int32) : Nat → Int32 → Int32 × (Nat → Int32) → Int32 × (Nat → Int32)
  | 0, _, q => q
  | n + 1, k, q => sm_n cv n (k + -8) (sm_1 (sm_o cv k) q)
set_option maxHeartbeats 4000000 in
set_option maxRecDepth 100000 in
theorem c_X14_sign (l : Launch) (D : va_G) (cy : Nat → ClassId) (A : Nat → Prop) (X : State → Prop) (hst : mk_St A X) (hXT : ∀ U : State, X U → TB U) (G : Nat → Option va_E) (o : Nat) (Ar : Nat → Nat) (Iv : Nat → Int32) (F : Nat → Nat → Int32) (L : Nat → Nat → Int64) (cv L2 : Int32) (f2 : Nat → Int32) (hM : MD cy G o Ar Iv F L) (hl0 : ¬ Iv 39 < 0) (hfin : sm_n cv 4 24 (Iv 39, F 40) = (L2, f2)) : Met l yX14_sign [.code yX14_sign cX14_sign 4 none] ({ frames := 0, cells := 0, slots := 0, locals := 0 }) (mk_Pre D vwCl (tyL cy) A X G [.ref o, .int cv]) (va_Qv (fun (G2 : Nat → Option va_E) => MD cy G2 o Ar (upd (upd Iv 38 0) 39 L2) (va_up F 40 f2) L ∧ MF G G2 o Ar ∧ ¬ L2 < 0) (mk_B D vwCl A) A) 0 0 A := by
  refine Met.ofW (cc := cX14_sign) (maxL := 4) (ret := none) (by decide) rfl ?_
  intro p e s m args below meth c s₁ B hml hv
  obtain ⟨rfl, hG, hK, hA, hX⟩ := hv
  have hx := B.exec
  have hb := B.bytes
  have hr := B.returns
  have hlocks := B.notSynchronized
  have hT := hXT s hX
  have hown : s.vm.findClass RX14 = some m.cls := findClass_of_methodNamed B.named
  have hf_X14 : ∀ w ∈ u_ws RX14 TX14 76, w.before ([.ref o, .int cv] : List Value).toArray s = true := tb_list hT fX14
  have hS : va_S A s.heap s.heap [] := va_S.rf
  have hl := lv_entry ([.ref o, .int cv]) (n := 4) (Nat.le_of_ble_eq_true rfl)
  rw [lg_entry_eq]
  generalize (lg_sl ([.ref o, .int cv]) ++ List.replicate (4 - (lg_sl ([.ref o, .int cv])).length) Slot.unset).toArray = ls at hl ⊢
  have hl : lv_has ls 4 [(0, .ref o), (1, .int cv)] := hl
  have hF : MF G G o Ar := MF.rf
  have lp : ∀ (n : Nat) (k len : Int32) (f : Nat → Int32), (n ≤ 4) → (k = sg_k n) → (¬ len < 0) → (sm_n cv n k (len, f) = (L2, f2)) → ∀ (Gv : Nat → Option va_E), (MD cy Gv o Ar (upd (upd Iv 38 0) 39 len) (va_up F 40 f) L) → (MF G Gv o Ar) → ∀ (H : Heap) (locs : List Loc), mm D vwCl A Gv H → va_S A s.heap H locs → ∀ ls : Array Slot, lv_has ls 4 [(0, .ref o), (1, .int cv), (2, .int k)] → W p l e (headSpec [.code yX14_sign cX14_sign 4 none] ({ frames := 0, cells := 0, slots := 0, locals := 0 })).room s m ([.ref o, .int cv] : List Value).toArray below meth c H locs 0 0 (MQ below (va_Qv (fun (G2 : Nat → Option va_E) => MD cy G2 o Ar (upd (upd Iv 38 0) 39 L2) (va_up F 40 f2) L ∧ MF G G2 o Ar ∧ ¬ L2 < 0) (mk_B D vwCl A) A) ([.ref o, .int cv] : List Value).toArray s 0 0 A) (F0 m 8 ls []) := by
    intro n
    induction n with
    | zero =>
      intro k len f hn hk hl0 hq Gv hM hF H locs hG hS ls hl
      refine lv_iload_n hx hb dX14_sign_8 rfl (lv_at hl 2 rfl) ?_
      refine lv_if_lt (tgt := 60) hx hb dX14_sign_9 (by decide) (fun c_9 => ?_) (fun c_9 => ?_)
      · skip
        exact W.vret hx hb hr (fun t ht hW => ⟨⟨_, rfl, ⟨(by injection hq with q1 q2; subst q1; subst q2; exact hM), hF, (by injection hq with q1 q2; subst q1; exact hl0)⟩, mk_end hG ht⟩, hS.F ht⟩) hS.2.2 dX14_sign_60
      · skip
        exact absurd (by rw [hk]; exact sg_k_0) c_9
    | succ n ih =>
      intro k len f hn hk hl0 hq Gv hM hF H locs hG hS ls hl
      refine lv_iload_n hx hb dX14_sign_8 rfl (lv_at hl 2 rfl) ?_
      refine lv_if_lt (tgt := 60) hx hb dX14_sign_9 (by decide) (fun c_9 => ?_) (fun c_9 => ?_)
      · skip
        exact absurd c_9 (by rw [hk]; exact (sg_k_pos n (by omega)).1)
      · skip
        refine lv_iload_n hx hb dX14_sign_12 rfl (lv_at hl 1 rfl) ?_
        refine lv_iload_n hx hb dX14_sign_13 rfl (lv_at hl 2 rfl) ?_
        refine lv_ishr hx hb dX14_sign_14 ?_
        refine lv_sipush (v := 255) hx hb dX14_sign_15 (by decide) ?_
        refine lv_iand hx hb dX14_sign_18 ?_
        refine lv_topi (fun x1 ex1 => ?_)
        refine lv_istore_n (lv' := [(3, .int x1), (0, .ref o), (1, .int cv), (2, .int k)]) hx hb dX14_sign_19 rfl hl (by decide) rfl (fun ls hl => ?_)
        refine lv_iload_n hx hb dX14_sign_20 rfl (lv_at hl 0 rfl) ?_
        refine lv_if_eq (tgt := 54) hx hb dX14_sign_21 (by decide) (fun c_21 => ?_) (fun c_21 => ?_)
        · skip
          obtain ⟨x2, ex2⟩ : ∃ y : Int32, y = k + (-8) := ⟨_, rfl⟩
          refine lv_iinc (v := x2) (lv' := [(2, .int x2), (3, .int x1), (0, .ref o), (1, .int cv)]) hx hb dX14_sign_54 hl (k := 3) rfl (by rw [ex2]; rfl) (by decide) rfl (fun ls hl => ?_)
          refine lv_goto (tgt := 8) hx hb dX14_sign_57 (by decide) ?_
          have hq2 : sm_n cv n x2 (len, f) = (L2, f2) := by
            rw [← hq]; show _ = sm_n cv n (k + -8) (sm_1 (sm_o cv k) (len, f))
            have e1 : sm_1 (sm_o cv k) (len, f) = (len, f) := by
              unfold sm_1; rw [show sm_o cv k = x1 by unfold sm_o; rw [ex1]]
              rw [if_pos c_21]
            rw [e1, ex2]
          exact ih x2 len f (by omega) (by rw [ex2, hk]; exact (sg_k_pos n (by omega)).2) hl0 hq2 Gv hM hF _ _ hG hS ls (lv_sub hl [2, 3, 0] rfl)
        · skip
          refine lv_aload_n hx hb dX14_sign_24 rfl (lv_at hl 1 rfl) ?_
          refine mm_get (v := .int len) hx hb hf_X14 (fun _ h9 => h9) hown hK hG hM.1 rfl 39 (by decide) (tb_use hT tw_1430) (fun _ h9 => h9) (mfs_g39 _ _) dX14_sign_25 ?_
          refine lv_sipush (v := 2000) hx hb dX14_sign_28 (by decide) ?_
          refine lv_icmp_ge (tgt := 54) hx hb dX14_sign_31 (by decide) (fun c_31 => ?_) (fun c_31 => ?_)
          · skip
            obtain ⟨x3, ex3⟩ : ∃ y : Int32, y = k + (-8) := ⟨_, rfl⟩
            refine lv_iinc (v := x3) (lv' := [(2, .int x3), (3, .int x1), (0, .ref o), (1, .int cv)]) hx hb dX14_sign_54 hl (k := 3) rfl (by rw [ex3]; rfl) (by decide) rfl (fun ls hl => ?_)
            refine lv_goto (tgt := 8) hx hb dX14_sign_57 (by decide) ?_
            have hq2 : sm_n cv n x3 (len, f) = (L2, f2) := by
              rw [← hq]; show _ = sm_n cv n (k + -8) (sm_1 (sm_o cv k) (len, f))
              have e1 : sm_1 (sm_o cv k) (len, f) = (len, f) := by
                unfold sm_1; rw [show sm_o cv k = x1 by unfold sm_o; rw [ex1]]
                rw [if_neg c_21, if_pos c_31]
              rw [e1, ex3]
            exact ih x3 len f (by omega) (by rw [ex3, hk]; exact (sg_k_pos n (by omega)).2) hl0 hq2 Gv hM hF _ _ hG hS ls (lv_sub hl [2, 3, 0] rfl)
          · skip
            refine lv_aload_n hx hb dX14_sign_34 rfl (lv_at hl 1 rfl) ?_
            refine mm_get (v := .ref (Ar 40)) hx hb hf_X14 (fun _ h9 => h9) hown hK hG hM.1 rfl 40 (by decide) (tb_use hT tw_1431) (fun _ h9 => h9) (mfs_g40 _ _) dX14_sign_35 ?_
            refine lv_aload_n hx hb dX14_sign_38 rfl (lv_at hl 1 rfl) ?_
            refine mm_get (v := .int len) hx hb hf_X14 (fun _ h9 => h9) hown hK hG hM.1 rfl 39 (by decide) (tb_use hT tw_1430) (fun _ h9 => h9) (mfs_g39 _ _) dX14_sign_39 ?_
            refine lv_iload_n hx hb dX14_sign_42 rfl (lv_at hl 0 rfl) ?_
            refine mm_iast (n := mdN 40) (f := (va_up F 40 f) 40) hx hb hK hG hS 1 (hM.2.1 40 rfl) rfl (vp_in_ge hl0 c_31 rfl) dX14_sign_43 (fun H locs hG hS => ?_)
            have hM := MD.seti (k := 40) (upd ((va_up F 40 f) 40) len.toNatClampNeg x1) hM rfl
            have hF := hF.wa (k := 40) (e' := .inl (cy 1, mdN 40, .inl (upd ((va_up F 40 f) 40) len.toNatClampNeg x1))) rfl
            obtain ⟨F4, eF4⟩ : ∃ g, g = va_up (va_up F 40 f) 40 (upd ((va_up F 40 f) 40) len.toNatClampNeg x1) := ⟨_, rfl⟩
            rw [← eF4] at hM
            have hgn := gn_MD hG hM hF
            clear hG hM hF
            obtain ⟨G5, hG, hM, hF⟩ := hgn
            refine lv_aload_n hx hb dX14_sign_44 rfl (lv_at hl 1 rfl) ?_
            refine lv_dup hx hb dX14_sign_45 rfl ?_
            refine mm_get (v := .int len) hx hb hf_X14 (fun _ h9 => h9) hown hK hG hM.1 rfl 39 (by decide) (tb_use hT tw_1430) (fun _ h9 => h9) (mfs_g39 _ _) dX14_sign_46 ?_
            refine lv_iconst (v := 1) hx hb dX14_sign_49 (by decide) ?_
            refine lv_iadd hx hb dX14_sign_50 ?_
            refine lv_topi (fun x6 ex6 => ?_)
            refine mm_put (v := .int x6) (ty := .int) hx hb hf_X14 (fun _ h9 => h9) tyX14 tyX14_ok nmX14 hown hK hG hS hM.1 rfl 39 (by decide) (tb_use hT tw_1430) (fun _ h9 => h9) rfl (by decide +kernel) rfl rfl (mfs_l39 _ _) dX14_sign_51 (fun H locs hG hS => ?_)
            have hM := MD.puti (k := 39) (v := x6) hM (mfs_s39 _ _ _)
            have hF := hF.wo (e' := .inr (15, (mfs Ar (upd (upd Iv 38 0) 39 len)).set 39 (.int x6)))
            obtain ⟨I7, eI7⟩ : ∃ g, g = upd (upd (upd Iv 38 0) 39 len) 39 x6 := ⟨_, rfl⟩
            rw [← eI7] at hM
            have hgn := gn_MD hG hM hF
            clear hG hM hF
            obtain ⟨G8, hG, hM, hF⟩ := hgn
            have hl2 : ¬ x6 < 0 := by rw [ex6]; exact sg_inc hl0 c_31
            obtain ⟨x9, ex9⟩ : ∃ y : Int32, y = k + (-8) := ⟨_, rfl⟩
            refine lv_iinc (v := x9) (lv' := [(2, .int x9), (3, .int x1), (0, .ref o), (1, .int cv)]) hx hb dX14_sign_54 hl (k := 3) rfl (by rw [ex9]; rfl) (by decide) rfl (fun ls hl => ?_)
            refine lv_goto (tgt := 8) hx hb dX14_sign_57 (by decide) ?_
            have hq2 : sm_n cv n x9 (x6, (upd f len.toNatClampNeg x1)) = (L2, f2) := by
              rw [← hq]; show _ = sm_n cv n (k + -8) (sm_1 (sm_o cv k) (len, f))
              have e1 : sm_1 (sm_o cv k) (len, f) = (x6, (upd f len.toNatClampNeg x1)) := by
                unfold sm_1; rw [show sm_o cv k = x1 by unfold sm_o; rw [ex1]]
                rw [if_neg c_21, if_neg c_31]
                rw [ex6]
              rw [e1, ex9]
            have hM3 : MD cy G8 o Ar (upd (upd Iv 38 0) 39 x6) (va_up F 40 (upd f len.toNatClampNeg x1)) L := by
              rw [eI7, upd_upd, eF4, va_up_self, bx_uu] at hM; exact hM
            exact ih x9 x6 (upd f len.toNatClampNeg x1) (by omega) (by rw [ex9, hk]; exact (sg_k_pos n (by omega)).2) hl2 hq2 G8 hM3 hF _ _ hG hS ls (lv_sub hl [2, 3, 0] rfl)
  refine lv_aload_n hx hb dX14_sign_0 rfl (lv_at hl 0 rfl) ?_
  refine lv_iconst (v := 0) hx hb dX14_sign_1 (by decide) ?_
  refine mm_put (v := .int 0) (ty := .int) hx hb hf_X14 (fun _ h9 => h9) tyX14 tyX14_ok nmX14 hown hK hG hS hM.1 rfl 38 (by decide) (tb_use hT tw_1429) (fun _ h9 => h9) rfl (by decide +kernel) rfl rfl (mfs_l38 _ _) dX14_sign_2 (fun H locs hG hS => ?_)
  have hM := MD.puti (k := 38) (v := 0) hM (mfs_s38 _ _ _)
  have hF := hF.wo (e' := .inr (15, (mfs Ar Iv).set 38 (.int 0)))
  obtain ⟨I10, eI10⟩ : ∃ g, g = upd Iv 38 0 := ⟨_, rfl⟩
  rw [← eI10] at hM
  have hgn := gn_MD hG hM hF
  clear hG hM hF
  obtain ⟨G11, hG, hM, hF⟩ := hgn
  refine lv_bipush (v := 24) hx hb dX14_sign_5 (by decide) ?_
  refine lv_istore_n (lv' := [(2, .int 24), (0, .ref o), (1, .int cv)]) hx hb dX14_sign_7 rfl hl (by decide) rfl (fun ls hl => ?_)
  exact lp 4 24 (Iv 39) (F 40) (by omega) (by decide) hl0 hfin G11 (by rw [eI10] at hM; rw [show upd (upd Iv 38 0) 39 (Iv 39) = upd Iv 38 0 from funext (fun j => by by_cases h : j = 39; (subst h; rfl); rw [pk_un h]), show va_up F 40 (F 40) = F from funext (fun j => by by_cases h : j = 40; (subst h; rw [va_up_self]); rw [va_up_ne _ _ h])]; exact hM) hF _ _ hG hS ls (lv_sub hl [1, 2, 0] rfl)
