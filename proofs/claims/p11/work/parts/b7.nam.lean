theorem NTb.new {F F2 : Nat → Nat → Int32} {d m n : Nat} {nv : Nat → Int64} {x : Int64} {g : Nat → Int32} (h : NTb F d m nv) (h0 : F2 0 d = nI (m + 1)) (h7 : F2 7 = upd (F 7) (1001 * d + (m + 1)) (nI n)) (h8 : ∀ i, F2 8 i = if 12012 * d + 12 * (m + 1) ≤ i ∧ i < 12012 * d + 12 * (m + 1) + n then g (i - (12012 * d + 12 * (m + 1))) else F 8 i) (hn : 1 ≤ n) (hn2 : n ≤ 12) (hal : ∀ k, k < n → aln (g k) = true) (hx : pkd g 0 n = x) : NTb F2 d (m + 1) (kup nv m x) := by
  refine ⟨h0, fun j hj => ?_⟩
  rcases Nat.lt_or_ge j m with hjm | hjm
  · obtain ⟨ln, a1, a2, a3, a4, a5⟩ := h.2 j hjm
    have e8 : ∀ k, k < 12 → F2 8 (12012 * d + 12 * (j + 1) + k) = F 8 (12012 * d + 12 * (j + 1) + k) := fun k hk => by rw [h8, if_neg (by omega)]
    refine ⟨ln, a1, a2, ?_, fun k hk => by rw [e8 k (by omega)]; exact a4 k hk, ?_⟩
    · rw [h7, pk_un (by omega)]; exact a3
    · rw [kup, if_neg (by omega), ← a5]
      exact pkd_cg (fun k hk => e8 k (by omega))
  · have ej : j = m := by omega
    subst ej
    have e8 : ∀ k, k < n → F2 8 (12012 * d + 12 * (j + 1) + k) = g k := fun k hk => by rw [h8, if_pos (by omega)]; congr 1; omega
    refine ⟨n, hn, hn2, ?_, fun k hk => by rw [e8 k hk]; exact hal k hk, ?_⟩
    · rw [h7, pk_us]
    · rw [kup, if_pos rfl, ← hx]
      exact pkd_cg (fun k hk => by rw [e8 k hk, Nat.zero_add])
/-- two names are one where their signs are -/
theorem nm_is {f g : Nat → Int32} {a b n m : Nat} {x y : Int64} (hn : n ≤ 12) (hm : m ≤ 12) (h1 : ∀ k, k < n → aln (f (a + k)) = true) (h2 : ∀ k, k < m → aln (g (b + k)) = true) (hx : pkd f a n = x) (hy : pkd g b m = y) : x = y ↔ n = m ∧ ∀ k, k < n → f (a + k) = g (b + k) := by
  rw [← hx, ← hy]
  refine ⟨pkd_inj hn hm h1 h2, fun h => ?_⟩
  rw [← h.1]
  exact pkd_cg h.2
set_option maxHeartbeats 4000000 in
set_option maxRecDepth 100000 in
theorem c_M_nameOf (l : Launch) (D : va_G) (cy : Nat → ClassId) (A : Nat → Prop) (X : State → Prop) (hst : mk_St A X) (hXT : ∀ U : State, X U → TB U) (G : Nat → Option va_E) (o : Nat) (Ar : Nat → Nat) (Iv : Nat → Int32) (F : Nat → Nat → Int32) (L : Nat → Nat → Int64) (ft : Nat → Int32) (sx fr en bo : Nat) (m9 p9 n9 : Nat) (nv9 : Nat → Int64) (hM : MD cy G o Ar Iv F L) (hLs : LXs Ar Iv F ft sx fr en bo) (hNT : NTb F bo m9 nv9) (hm9 : m9 < 1000) (hpn : p9 + n9 ≤ en) (hn1 : 1 ≤ n9) (hn12 : n9 ≤ 12) (hal : ∀ k, k < n9 → aln (ft (p9 + k)) = true) : Met l yX14_nameOf [.code yX14_nameOf cX14_nameOf 7 (some .int)] ({ frames := 0, cells := 0, slots := 0, locals := 0 }) (mk_Pre D vwCl (tyL cy) A X G [.ref o, .int (nI (fr + p9)), .int (nI (fr + (p9 + n9)))]) (va_Qi (fun (r : Int32) (G2 : Nat → Option va_E) => r = nI (nuS m9 nv9 (pkd ft p9 n9)) ∧ ∃ F2 : Nat → Nat → Int32, MD cy G2 o Ar Iv F2 L ∧ MF G G2 o Ar ∧ NTb F2 bo (ntS m9 nv9 (pkd ft p9 n9)).1 (ntS m9 nv9 (pkd ft p9 n9)).2 ∧ FX F2 = FX F) (mk_B D vwCl A) A) 0 0 A := by
  refine Met.ofW (cc := cX14_nameOf) (maxL := 7) (ret := (some .int)) (by decide) rfl ?_
  intro p e s m args below meth c s₁ B hml hv
  obtain ⟨rfl, hG, hK, hA, hX⟩ := hv
  have hx := B.exec
  have hb := B.bytes
  have hr := B.returns
  have hlocks := B.notSynchronized
  have hT := hXT s hX
  have hown : s.vm.findClass RX14 = some m.cls := findClass_of_methodNamed B.named
  have hf_X14 : ∀ w ∈ u_ws RX14 TX14 76, w.before ([.ref o, .int (nI (fr + p9)), .int (nI (fr + (p9 + n9)))] : List Value).toArray s = true := tb_list hT fX14
  have hS : va_S A s.heap s.heap [] := va_S.rf
  have hl := lv_entry ([.ref o, .int (nI (fr + p9)), .int (nI (fr + (p9 + n9)))]) (n := 7) (Nat.le_of_ble_eq_true rfl)
  rw [lg_entry_eq]
  generalize (lg_sl ([.ref o, .int (nI (fr + p9)), .int (nI (fr + (p9 + n9)))]) ++ List.replicate (7 - (lg_sl ([.ref o, .int (nI (fr + p9)), .int (nI (fr + (p9 + n9)))])).length) Slot.unset).toArray = ls at hl ⊢
  have hl : lv_has ls 7 [(0, .ref o), (1, .int (nI (fr + p9))), (2, .int (nI (fr + (p9 + n9))))] := hl
  obtain ⟨RF, hR⟩ : ∃ y, fndF (fun j => decide (nv9 j = pkd ft p9 n9)) m9 0 = y := ⟨_, rfl⟩
  have hbo := hLs.2.2.2.2.2.1
  have hbl := hLs.2.2.2.2.1
  have hbd := hLs.bd
  have hmN := hLs.2.2.1
  have hm8 := hLs.sN.2.1
  have hsx : ¬ (sx = 0 ∨ sx = 7 ∨ sx = 8) := by have z := hLs.sN.2.2; omega
  have hsrc : ∀ k, k < n9 → F sx (fr + p9 + k) = ft (p9 + k) := fun k hk => by rw [Nat.add_assoc]; exact al_eq (hLs.2.2.2.2.2.2.2 (p9 + k) (by omega)) (hal k hk)
  have hcp : ∀ (n : Nat) (k9 : Nat) (Fk : Nat → Nat → Int32), (n + k9 = n9) → (Fk 0 bo = nI (m9 + 1)) → (Fk 7 = upd (F 7) (1001 * bo + (m9 + 1)) (nI n9)) → (∀ i, Fk 8 i = if 12012 * bo + 12 * (m9 + 1) ≤ i ∧ i < 12012 * bo + 12 * (m9 + 1) + k9 then F sx (fr + p9 + (i - (12012 * bo + 12 * (m9 + 1)))) else F 8 i) → (FX Fk = FX F) → (RF = none) → ∀ (Gv : Nat → Option va_E), (MD cy Gv o Ar Iv Fk L) → (MF G Gv o Ar) → ∀ (H : Heap) (locs : List Loc), mm D vwCl A Gv H → va_S A s.heap H locs → ∀ ls : Array Slot, lv_has ls 7 [(0, .ref o), (1, .int (nI (fr + p9))), (2, .int (nI (fr + (p9 + n9)))), (3, .int (nI bo)), (4, .int (nI (fr + (p9 + k9))))] → W p l e (headSpec [.code yX14_nameOf cX14_nameOf 7 (some .int)] ({ frames := 0, cells := 0, slots := 0, locals := 0 })).room s m ([.ref o, .int (nI (fr + p9)), .int (nI (fr + (p9 + n9)))] : List Value).toArray below meth c H locs 0 0 (MQ below (va_Qi (fun (r : Int32) (G2 : Nat → Option va_E) => r = nI (nuS m9 nv9 (pkd ft p9 n9)) ∧ ∃ F2 : Nat → Nat → Int32, MD cy G2 o Ar Iv F2 L ∧ MF G G2 o Ar ∧ NTb F2 bo (ntS m9 nv9 (pkd ft p9 n9)).1 (ntS m9 nv9 (pkd ft p9 n9)).2 ∧ FX F2 = FX F) (mk_B D vwCl A) A) ([.ref o, .int (nI (fr + p9)), .int (nI (fr + (p9 + n9)))] : List Value).toArray s 0 0 A) (F0 m 162 ls []) := by
    intro n
    induction n with
    | zero =>
      intro k9 Fk hkn hF0 hF7 hF8 hFX hRn Gv hM hF H locs hG hS ls hl
      refine lv_iload hx hb dX14_nameOf_162 (lv_at hl 4 rfl) ?_
      refine lv_iload_n hx hb dX14_nameOf_164 rfl (lv_at hl 2 rfl) ?_
      refine lv_icmp_ge (tgt := 206) hx hb dX14_nameOf_165 (by decide) (fun c_165 => ?_) (fun c_165 => ?_)
      · skip
        refine lv_aload_n hx hb dX14_nameOf_206 rfl (lv_at hl 0 rfl) ?_
        refine mm_get (v := .ref (Ar 0)) hx hb hf_X14 (fun _ h9 => h9) hown hK hG hM.1 rfl 0 (by decide) (tb_use hT tw_1391) (fun _ h9 => h9) (mfs_g0 _ _) dX14_nameOf_207 ?_
        refine lv_iload_n hx hb dX14_nameOf_210 rfl (lv_at hl 3 rfl) ?_
        refine mm_iald (n := 2) (f := Fk 0) hx hb hK hG 1 (hM.2.1 0 rfl) rfl (nI_in (N := 2) hbl (by decide)) dX14_nameOf_211 ?_
        refine lv_topi (fun x1 ex1 => ?_)
        have hk9 : k9 = n9 := by omega
        rw [hk9] at hF8
        have hnu : nuS m9 nv9 (pkd ft p9 n9) = m9 + 1 := by unfold nuS; rw [hR, hRn]
        have hnt : ntS m9 nv9 (pkd ft p9 n9) = (m9 + 1, kup nv9 m9 (pkd ft p9 n9)) := by unfold ntS; rw [hR, hRn]
        exact W.iret (v := x1) hx hb hr (fun t ht hW => ⟨⟨_, _, rfl, ⟨(by rw [hnu, ex1, nI_clamp (by omega)]; exact hF0), Fk, hM, hF, (by rw [hnt]; exact hNT.new (g := fun i => F sx (fr + p9 + i)) hF0 hF7 hF8 hn1 hn12 (fun k hk => by rw [hsrc k hk]; exact hal k hk) (pkd_cg (fun k hk => by rw [Nat.zero_add]; exact hsrc k hk))), hFX⟩, mk_end hG ht⟩, hS.F ht⟩) hS.2.2 dX14_nameOf_212
      · skip
        exact absurd (nI_le (by omega) (by omega)) c_165
    | succ n ih =>
      intro k9 Fk hkn hF0 hF7 hF8 hFX hRn Gv hM hF H locs hG hS ls hl
      refine lv_iload hx hb dX14_nameOf_162 (lv_at hl 4 rfl) ?_
      refine lv_iload_n hx hb dX14_nameOf_164 rfl (lv_at hl 2 rfl) ?_
      refine lv_icmp_ge (tgt := 206) hx hb dX14_nameOf_165 (by decide) (fun c_165 => ?_) (fun c_165 => ?_)
      · skip
        exact absurd c_165 (nI_ge (by omega) (by omega))
      · skip
        refine lv_aload_n hx hb dX14_nameOf_168 rfl (lv_at hl 0 rfl) ?_
        refine mm_get (v := .ref (Ar 8)) hx hb hf_X14 (fun _ h9 => h9) hown hK hG hM.1 rfl 8 (by decide) (tb_use hT tw_1399) (fun _ h9 => h9) (mfs_g8 _ _) dX14_nameOf_169 ?_
        refine lv_sipush (v := 12012) hx hb dX14_nameOf_172 (by decide) ?_
        refine lv_iload_n hx hb dX14_nameOf_175 rfl (lv_at hl 3 rfl) ?_
        refine lv_imul hx hb dX14_nameOf_176 ?_
        refine lv_bipush (v := 12) hx hb dX14_nameOf_177 (by decide) ?_
        refine lv_aload_n hx hb dX14_nameOf_179 rfl (lv_at hl 0 rfl) ?_
        refine mm_get (v := .ref (Ar 0)) hx hb hf_X14 (fun _ h9 => h9) hown hK hG hM.1 rfl 0 (by decide) (tb_use hT tw_1391) (fun _ h9 => h9) (mfs_g0 _ _) dX14_nameOf_180 ?_
        refine lv_iload_n hx hb dX14_nameOf_183 rfl (lv_at hl 3 rfl) ?_
        refine mm_iald (n := 2) (f := Fk 0) hx hb hK hG 1 (hM.2.1 0 rfl) rfl (nI_in (N := 2) hbl (by decide)) dX14_nameOf_184 ?_
        refine lv_topi (fun x2 ex2 => ?_)
        refine lv_imul hx hb dX14_nameOf_185 ?_
        refine lv_iadd hx hb dX14_nameOf_186 ?_
        refine lv_iload hx hb dX14_nameOf_187 (lv_at hl 4 rfl) ?_
        refine lv_iadd hx hb dX14_nameOf_189 ?_
        refine lv_iload_n hx hb dX14_nameOf_190 rfl (lv_at hl 1 rfl) ?_
        refine lv_isub hx hb dX14_nameOf_191 ?_
        refine lv_aload_n hx hb dX14_nameOf_192 rfl (lv_at hl 0 rfl) ?_
        refine mm_get (v := .ref (Ar 47)) hx hb hf_X14 (fun _ h9 => h9) hown hK hG hM.1 rfl 47 (by decide) (tb_use hT tw_1438) (fun _ h9 => h9) (mfs_g47 _ _) dX14_nameOf_193 ?_
        refine lv_iload hx hb dX14_nameOf_196 (lv_at hl 4 rfl) ?_
        refine mm_iald (n := mdN sx) (f := Fk sx) hx hb hK hG 1 (hLs.src hM) rfl (by exact nI_in (N := mdN sx) (by omega) (by omega)) dX14_nameOf_198 ?_
        refine lv_topi (fun x3 ex3 => ?_)
        refine mm_iast (n := mdN 8) (f := Fk 8) hx hb hK hG hS 1 (hM.2.1 8 rfl) rfl (by rw [show (12012 : Int32) * nI bo + 12 * x2 + nI (fr + (p9 + k9)) - nI (fr + p9) = nI (12012 * bo + 12 * (m9 + 1) + k9) by rw [ex2, nI_clamp (by omega), hF0, show (12 : Int32) * nI (m9 + 1) = nI (12 * (m9 + 1)) from (Int32.ofNat_mul 12 (m9 + 1)).symm, show (12012 : Int32) * nI bo + nI (12 * (m9 + 1)) = nI (12012 * bo + 12 * (m9 + 1)) from nI_ma 12012 bo (12 * (m9 + 1)), nI_add, nI_sb (by omega)]; congr 1; omega]; exact nI_in (N := 24024) (by omega) (by decide)) dX14_nameOf_199 (fun H locs hG hS => ?_)
        have hM := MD.seti (k := 8) (upd (Fk 8) ((((12012 * (nI bo)) + (12 * x2)) + (nI (fr + (p9 + k9)))) - (nI (fr + p9))).toNatClampNeg x3) hM rfl
        have hF := hF.wa (k := 8) (e' := .inl (cy 1, mdN 8, .inl (upd (Fk 8) ((((12012 * (nI bo)) + (12 * x2)) + (nI (fr + (p9 + k9)))) - (nI (fr + p9))).toNatClampNeg x3))) rfl
        obtain ⟨F4, eF4⟩ : ∃ g, g = va_up Fk 8 (upd (Fk 8) ((((12012 * (nI bo)) + (12 * x2)) + (nI (fr + (p9 + k9)))) - (nI (fr + p9))).toNatClampNeg x3) := ⟨_, rfl⟩
        rw [← eF4] at hM
        have hgn := gn_MD hG hM hF
        clear hG hM hF
        obtain ⟨G5, hG, hM, hF⟩ := hgn
        obtain ⟨x6, ex6⟩ : ∃ y : Int32, y = (nI (fr + (p9 + k9))) + 1 := ⟨_, rfl⟩
        refine lv_iinc (v := x6) (lv' := [(4, .int x6), (0, .ref o), (1, .int (nI (fr + p9))), (2, .int (nI (fr + (p9 + n9)))), (3, .int (nI bo))]) hx hb dX14_nameOf_200 hl (k := 4) rfl (by rw [ex6]; rfl) (by decide) rfl (fun ls hl => ?_)
        refine lv_goto (tgt := 162) hx hb dX14_nameOf_203 (by decide) ?_
        rw [show x6 = nI (fr + (p9 + (k9 + 1))) by rw [ex6, nI_1]; congr 1] at hl
        have hxv : x3 = F sx (fr + p9 + k9) := by rw [ex3, nI_clamp (by omega), FXe hFX hsx, Nat.add_assoc]
        skip
        rw [show (12012 : Int32) * nI bo + 12 * x2 + nI (fr + (p9 + k9)) - nI (fr + p9) = nI (12012 * bo + 12 * (m9 + 1) + k9) by rw [ex2, nI_clamp (by omega), hF0, show (12 : Int32) * nI (m9 + 1) = nI (12 * (m9 + 1)) from (Int32.ofNat_mul 12 (m9 + 1)).symm, show (12012 : Int32) * nI bo + nI (12 * (m9 + 1)) = nI (12012 * bo + 12 * (m9 + 1)) from nI_ma 12012 bo (12 * (m9 + 1)), nI_add, nI_sb (by omega)]; congr 1; omega, nI_clamp (by omega)] at eF4
        have h8n : ∀ i, F4 8 i = if 12012 * bo + 12 * (m9 + 1) ≤ i ∧ i < 12012 * bo + 12 * (m9 + 1) + (k9 + 1) then F sx (fr + p9 + (i - (12012 * bo + 12 * (m9 + 1)))) else F 8 i := by
          intro i
          rw [eF4, va_up_self]
          by_cases z : i = 12012 * bo + 12 * (m9 + 1) + k9
          · rw [z, pk_us, if_pos (by omega), hxv]; congr 2; omega
          · rw [pk_un z, hF8]
            by_cases z2 : 12012 * bo + 12 * (m9 + 1) ≤ i ∧ i < 12012 * bo + 12 * (m9 + 1) + k9
            · rw [if_pos z2, if_pos (by omega)]
            · rw [if_neg z2, if_neg (by omega)]
        exact ih (k9 + 1) F4 (by omega) (by rw [eF4, va_up_ne _ _ (by decide)]; exact hF0) (by rw [eF4, va_up_ne _ _ (by decide)]; exact hF7) h8n (by rw [eF4, FX_up (by decide)]; exact hFX) hRn G5 hM hF _ _ hG hS ls (lv_sub hl [1, 2, 3, 4, 0] rfl)
  have hout : ∀ (n : Nat) (j9 : Nat), (n + j9 = m9) → (fndF (fun j => decide (nv9 j = pkd ft p9 n9)) n j9 = RF) → ∀ (Gv : Nat → Option va_E), (MD cy Gv o Ar Iv F L) → (Gv = G) → ∀ (H : Heap) (locs : List Loc), mm D vwCl A Gv H → va_S A s.heap H locs → ∀ ls : Array Slot, lv_has ls 7 [(0, .ref o), (1, .int (nI (fr + p9))), (2, .int (nI (fr + (p9 + n9)))), (3, .int (nI bo)), (4, .int (nI (j9 + 1)))] → W p l e (headSpec [.code yX14_nameOf cX14_nameOf 7 (some .int)] ({ frames := 0, cells := 0, slots := 0, locals := 0 })).room s m ([.ref o, .int (nI (fr + p9)), .int (nI (fr + (p9 + n9)))] : List Value).toArray below meth c H locs 0 0 (MQ below (va_Qi (fun (r : Int32) (G2 : Nat → Option va_E) => r = nI (nuS m9 nv9 (pkd ft p9 n9)) ∧ ∃ F2 : Nat → Nat → Int32, MD cy G2 o Ar Iv F2 L ∧ MF G G2 o Ar ∧ NTb F2 bo (ntS m9 nv9 (pkd ft p9 n9)).1 (ntS m9 nv9 (pkd ft p9 n9)).2 ∧ FX F2 = FX F) (mk_B D vwCl A) A) ([.ref o, .int (nI (fr + p9)), .int (nI (fr + (p9 + n9)))] : List Value).toArray s 0 0 A) (F0 m 8 ls []) := by
    intro n
    induction n with
    | zero =>
      intro j9 hjn hq Gv hM hGe H locs hG hS ls hl
      refine lv_iload hx hb dX14_nameOf_8 (lv_at hl 4 rfl) ?_
      refine lv_aload_n hx hb dX14_nameOf_10 rfl (lv_at hl 0 rfl) ?_
      refine mm_get (v := .ref (Ar 0)) hx hb hf_X14 (fun _ h9 => h9) hown hK hG hM.1 rfl 0 (by decide) (tb_use hT tw_1391) (fun _ h9 => h9) (mfs_g0 _ _) dX14_nameOf_11 ?_
      refine lv_iload_n hx hb dX14_nameOf_14 rfl (lv_at hl 3 rfl) ?_
      refine mm_iald (n := 2) (f := F 0) hx hb hK hG 1 (hM.2.1 0 rfl) rfl (nI_in (N := 2) hbl (by decide)) dX14_nameOf_15 ?_
      refine lv_topi (fun x7 ex7 => ?_)
      refine lv_icmp_gt (tgt := 129) hx hb dX14_nameOf_16 (by decide) (fun c_16 => ?_) (fun c_16 => ?_)
      · skip
        have hF : MF Gv Gv o Ar := MF.rf
        refine lv_aload_n hx hb dX14_nameOf_129 rfl (lv_at hl 0 rfl) ?_
        refine mm_get (v := .ref (Ar 0)) hx hb hf_X14 (fun _ h9 => h9) hown hK hG hM.1 rfl 0 (by decide) (tb_use hT tw_1391) (fun _ h9 => h9) (mfs_g0 _ _) dX14_nameOf_130 ?_
        refine lv_iload_n hx hb dX14_nameOf_133 rfl (lv_at hl 3 rfl) ?_
        refine lv_dup2_11 hx hb dX14_nameOf_134 rfl rfl ?_
        refine mm_iald (n := 2) (f := F 0) hx hb hK hG 1 (hM.2.1 0 rfl) rfl (nI_in (N := 2) hbl (by decide)) dX14_nameOf_135 ?_
        refine lv_topi (fun x8 ex8 => ?_)
        refine lv_iconst (v := 1) hx hb dX14_nameOf_136 (by decide) ?_
        refine lv_iadd hx hb dX14_nameOf_137 ?_
        refine lv_topi (fun x9 ex9 => ?_)
        refine mm_iast (n := mdN 0) (f := F 0) hx hb hK hG hS 1 (hM.2.1 0 rfl) rfl (nI_in (N := 2) hbl (by decide)) dX14_nameOf_138 (fun H locs hG hS => ?_)
        have hM := MD.seti (k := 0) (upd (F 0) (nI bo).toNatClampNeg x9) hM rfl
        have hF := hF.wa (k := 0) (e' := .inl (cy 1, mdN 0, .inl (upd (F 0) (nI bo).toNatClampNeg x9))) rfl
        obtain ⟨F10, eF10⟩ : ∃ g, g = va_up F 0 (upd (F 0) (nI bo).toNatClampNeg x9) := ⟨_, rfl⟩
        rw [← eF10] at hM
        have hgn := gn_MD hG hM hF
        clear hG hM hF
        obtain ⟨G11, hG, hM, hF⟩ := hgn
        refine lv_aload_n hx hb dX14_nameOf_139 rfl (lv_at hl 0 rfl) ?_
        refine mm_get (v := .ref (Ar 7)) hx hb hf_X14 (fun _ h9 => h9) hown hK hG hM.1 rfl 7 (by decide) (tb_use hT tw_1398) (fun _ h9 => h9) (mfs_g7 _ _) dX14_nameOf_140 ?_
        refine lv_sipush (v := 1001) hx hb dX14_nameOf_143 (by decide) ?_
        refine lv_iload_n hx hb dX14_nameOf_146 rfl (lv_at hl 3 rfl) ?_
        refine lv_imul hx hb dX14_nameOf_147 ?_
        refine lv_aload_n hx hb dX14_nameOf_148 rfl (lv_at hl 0 rfl) ?_
        refine mm_get (v := .ref (Ar 0)) hx hb hf_X14 (fun _ h9 => h9) hown hK hG hM.1 rfl 0 (by decide) (tb_use hT tw_1391) (fun _ h9 => h9) (mfs_g0 _ _) dX14_nameOf_149 ?_
        refine lv_iload_n hx hb dX14_nameOf_152 rfl (lv_at hl 3 rfl) ?_
        refine mm_iald (n := 2) (f := F10 0) hx hb hK hG 1 (hM.2.1 0 rfl) rfl (nI_in (N := 2) hbl (by decide)) dX14_nameOf_153 ?_
        refine lv_topi (fun x12 ex12 => ?_)
        refine lv_iadd hx hb dX14_nameOf_154 ?_
        refine lv_iload_n hx hb dX14_nameOf_155 rfl (lv_at hl 2 rfl) ?_
        refine lv_iload_n hx hb dX14_nameOf_156 rfl (lv_at hl 1 rfl) ?_
        refine lv_isub hx hb dX14_nameOf_157 ?_
        refine lv_topi (fun x13 ex13 => ?_)
        refine mm_iast (n := mdN 7) (f := F10 7) hx hb hK hG hS 1 (hM.2.1 7 rfl) rfl (by rw [show (1001 : Int32) * nI bo + x12 = nI (1001 * bo + (m9 + 1)) by rw [show x12 = nI (m9 + 1) by rw [ex12, eF10, va_up_self, nI_clamp (by omega), pk_us, ex9, ex8, nI_clamp (by omega), hNT.1]; exact nI_1 m9]; exact nI_ma 1001 bo (m9 + 1)]; exact nI_in (N := 2002) (by omega) (by decide)) dX14_nameOf_158 (fun H locs hG hS => ?_)
        have hM := MD.seti (k := 7) (upd (F10 7) ((1001 * (nI bo)) + x12).toNatClampNeg x13) hM rfl
        have hF := hF.wa (k := 7) (e' := .inl (cy 1, mdN 7, .inl (upd (F10 7) ((1001 * (nI bo)) + x12).toNatClampNeg x13))) rfl
        obtain ⟨F14, eF14⟩ : ∃ g, g = va_up F10 7 (upd (F10 7) ((1001 * (nI bo)) + x12).toNatClampNeg x13) := ⟨_, rfl⟩
        rw [← eF14] at hM
        have hgn := gn_MD hG hM hF
        clear hG hM hF
        obtain ⟨G15, hG, hM, hF⟩ := hgn
        refine lv_iload_n hx hb dX14_nameOf_159 rfl (lv_at hl 1 rfl) ?_
        refine lv_istore (lv' := [(4, .int (nI (fr + p9))), (0, .ref o), (1, .int (nI (fr + p9))), (2, .int (nI (fr + (p9 + n9)))), (3, .int (nI bo))]) hx hb dX14_nameOf_160 hl (by decide) rfl (fun ls hl => ?_)
        have hRn : RF = none := by rw [← hq]; rfl
        have q0 : F14 0 bo = nI (m9 + 1) := by rw [eF14, va_up_ne _ _ (by decide), eF10, va_up_self, nI_clamp (by omega), pk_us, ex9]; rw [ex8, nI_clamp (by omega), hNT.1]; exact nI_1 m9
        have q1 : x12 = nI (m9 + 1) := by rw [ex12, eF10, va_up_self, nI_clamp (by omega), pk_us, ex9]; rw [ex8, nI_clamp (by omega), hNT.1]; exact nI_1 m9
        have q2 : x13 = nI n9 := by rw [ex13, nI_sb (by omega)]; congr 1; omega
        have q7 : F14 7 = upd (F 7) (1001 * bo + (m9 + 1)) (nI n9) := by rw [eF14, va_up_self, eF10, va_up_ne _ _ (by decide), q1, q2, show (1001 : Int32) * nI bo + nI (m9 + 1) = nI (1001 * bo + (m9 + 1)) from nI_ma 1001 bo (m9 + 1), nI_clamp (by omega)]
        have q8 : ∀ i, F14 8 i = if 12012 * bo + 12 * (m9 + 1) ≤ i ∧ i < 12012 * bo + 12 * (m9 + 1) + 0 then F sx (fr + p9 + (i - (12012 * bo + 12 * (m9 + 1)))) else F 8 i := fun i => by rw [if_neg (by omega), eF14, va_up_ne _ _ (by decide), eF10, va_up_ne _ _ (by decide)]
        exact hcp n9 0 F14 (by omega) q0 q7 q8 (by rw [eF14, FX_up (by decide), eF10, FX_up (by decide)]) hRn G15 hM (by rw [hGe] at hF; exact hF) _ _ hG hS ls (lv_sub hl [1, 2, 3, 4, 0] rfl)
      · skip
        exact absurd (by rw [ex7, nI_clamp (by omega), hNT.1]; exact nI_lt (by omega) (by omega)) c_16
    | succ n ih =>
      intro j9 hjn hq Gv hM hGe H locs hG hS ls hl
      obtain ⟨ln9, hl1, hl12, hln, hla, hlp⟩ := hNT.2 j9 (by omega)
      have hnm : nv9 j9 = pkd ft p9 n9 ↔ ln9 = n9 ∧ ∀ k, k < ln9 → F 8 (12012 * bo + 12 * (j9 + 1) + k) = F sx (fr + p9 + k) := nm_is hl12 hn12 hla (fun k hk => by rw [hsrc k hk]; exact hal k hk) hlp (pkd_cg (fun k hk => hsrc k hk))
      have hin : ∀ (n2 : Nat) (k9 : Nat) (fl9 : Int32), (n2 + k9 = ln9) → ((fl9 = 1 ∧ ln9 = n9 ∧ ∀ i, i < k9 → F 8 (12012 * bo + 12 * (j9 + 1) + i) = F sx (fr + p9 + i)) ∨ (fl9 = 0 ∧ ¬ nv9 j9 = pkd ft p9 n9)) → ∀ (Gv : Nat → Option va_E), (MD cy Gv o Ar Iv F L) → (Gv = G) → ∀ (H : Heap) (locs : List Loc), mm D vwCl A Gv H → va_S A s.heap H locs → ∀ ls : Array Slot, lv_has ls 7 [(0, .ref o), (1, .int (nI (fr + p9))), (2, .int (nI (fr + (p9 + n9)))), (3, .int (nI bo)), (4, .int (nI (j9 + 1))), (5, .int fl9), (6, .int (nI k9))] → W p l e (headSpec [.code yX14_nameOf cX14_nameOf 7 (some .int)] ({ frames := 0, cells := 0, slots := 0, locals := 0 })).room s m ([.ref o, .int (nI (fr + p9)), .int (nI (fr + (p9 + n9)))] : List Value).toArray below meth c H locs 0 0 (MQ below (va_Qi (fun (r : Int32) (G2 : Nat → Option va_E) => r = nI (nuS m9 nv9 (pkd ft p9 n9)) ∧ ∃ F2 : Nat → Nat → Int32, MD cy G2 o Ar Iv F2 L ∧ MF G G2 o Ar ∧ NTb F2 bo (ntS m9 nv9 (pkd ft p9 n9)).1 (ntS m9 nv9 (pkd ft p9 n9)).2 ∧ FX F2 = FX F) (mk_B D vwCl A) A) ([.ref o, .int (nI (fr + p9)), .int (nI (fr + (p9 + n9)))] : List Value).toArray s 0 0 A) (F0 m 48 ls []) := by
        intro n2
        induction n2 with
        | zero =>
          intro k9 fl9 hkn hfl Gv hM hGe H locs hG hS ls hl
          refine lv_iload hx hb dX14_nameOf_48 (lv_at hl 6 rfl) ?_
          refine lv_aload_n hx hb dX14_nameOf_50 rfl (lv_at hl 0 rfl) ?_
          refine mm_get (v := .ref (Ar 7)) hx hb hf_X14 (fun _ h9 => h9) hown hK hG hM.1 rfl 7 (by decide) (tb_use hT tw_1398) (fun _ h9 => h9) (mfs_g7 _ _) dX14_nameOf_51 ?_
          refine lv_sipush (v := 1001) hx hb dX14_nameOf_54 (by decide) ?_
          refine lv_iload_n hx hb dX14_nameOf_57 rfl (lv_at hl 3 rfl) ?_
          refine lv_imul hx hb dX14_nameOf_58 ?_
          refine lv_iload hx hb dX14_nameOf_59 (lv_at hl 4 rfl) ?_
          refine lv_iadd hx hb dX14_nameOf_61 ?_
          refine mm_iald (n := 2002) (f := F 7) hx hb hK hG 1 (hM.2.1 7 rfl) rfl (by rw [show (1001 : Int32) * nI bo + nI (j9 + 1) = nI (1001 * bo + (j9 + 1)) from nI_ma 1001 bo (j9 + 1)]; exact nI_in (N := 2002) (by omega) (by decide)) dX14_nameOf_62 ?_
          refine lv_topi (fun x16 ex16 => ?_)
          refine lv_icmp_ge (tgt := 115) hx hb dX14_nameOf_63 (by decide) (fun c_63 => ?_) (fun c_63 => ?_)
          · skip
            refine lv_iload hx hb dX14_nameOf_115 (lv_at hl 5 rfl) ?_
            refine lv_if_eq (tgt := 123) hx hb dX14_nameOf_117 (by decide) (fun c_117 => ?_) (fun c_117 => ?_)
            · skip
              obtain ⟨x17, ex17⟩ : ∃ y : Int32, y = (nI (j9 + 1)) + 1 := ⟨_, rfl⟩
              refine lv_iinc (v := x17) (lv' := [(4, .int x17), (0, .ref o), (1, .int (nI (fr + p9))), (2, .int (nI (fr + (p9 + n9)))), (3, .int (nI bo)), (5, .int fl9), (6, .int (nI k9))]) hx hb dX14_nameOf_123 hl (k := 4) rfl (by rw [ex17]; rfl) (by decide) rfl (fun ls hl => ?_)
              refine lv_goto (tgt := 8) hx hb dX14_nameOf_126 (by decide) ?_
              rw [show x17 = nI ((j9 + 1) + 1) by rw [ex17]; exact (nI_succ (j9 + 1)).symm] at hl
              have hno : ¬ nv9 j9 = pkd ft p9 n9 := by rcases hfl with z | z; exact absurd (z.1.symm.trans c_117) (by decide); exact z.2
              have hq2 : fndF (fun j => decide (nv9 j = pkd ft p9 n9)) n (j9 + 1) = RF := by rw [← hq, fndF, if_neg (by rw [decide_eq_false hno]; exact Bool.false_ne_true)]
              exact ih (j9 + 1) (by omega) hq2 Gv hM hGe _ _ hG hS ls (lv_sub hl [1, 2, 3, 4, 0] rfl)
            · skip
              refine lv_iload hx hb dX14_nameOf_120 (lv_at hl 4 rfl) ?_
              have hyes : nv9 j9 = pkd ft p9 n9 := by
                rcases hfl with z | z
                · exact hnm.mpr ⟨z.2.1, fun i hi => z.2.2 i (by omega)⟩
                · exact absurd z.1 c_117
              have hz : RF = some j9 := by rw [← hq, fndF, if_pos (decide_eq_true hyes)]
              have hnu : nuS m9 nv9 (pkd ft p9 n9) = j9 + 1 := by unfold nuS; rw [hR, hz]
              have hnt : ntS m9 nv9 (pkd ft p9 n9) = (m9, nv9) := by unfold ntS; rw [hR, hz]
              exact W.iret (v := (nI (j9 + 1))) hx hb hr (fun t ht hW => ⟨⟨_, _, rfl, ⟨(by rw [hnu]), F, hM, (by rw [hGe]; exact MF.rf), (by rw [hnt]; exact hNT), rfl⟩, mk_end hG ht⟩, hS.F ht⟩) hS.2.2 dX14_nameOf_122
          · skip
            exact absurd (by rw [ex16, show (1001 : Int32) * nI bo + nI (j9 + 1) = nI (1001 * bo + (j9 + 1)) from nI_ma 1001 bo (j9 + 1), nI_clamp (by omega), hln]; exact nI_le (by omega) (by omega)) c_63
        | succ n2 ih2 =>
          intro k9 fl9 hkn hfl Gv hM hGe H locs hG hS ls hl
          refine lv_iload hx hb dX14_nameOf_48 (lv_at hl 6 rfl) ?_
          refine lv_aload_n hx hb dX14_nameOf_50 rfl (lv_at hl 0 rfl) ?_
          refine mm_get (v := .ref (Ar 7)) hx hb hf_X14 (fun _ h9 => h9) hown hK hG hM.1 rfl 7 (by decide) (tb_use hT tw_1398) (fun _ h9 => h9) (mfs_g7 _ _) dX14_nameOf_51 ?_
          refine lv_sipush (v := 1001) hx hb dX14_nameOf_54 (by decide) ?_
          refine lv_iload_n hx hb dX14_nameOf_57 rfl (lv_at hl 3 rfl) ?_
          refine lv_imul hx hb dX14_nameOf_58 ?_
          refine lv_iload hx hb dX14_nameOf_59 (lv_at hl 4 rfl) ?_
          refine lv_iadd hx hb dX14_nameOf_61 ?_
          refine mm_iald (n := 2002) (f := F 7) hx hb hK hG 1 (hM.2.1 7 rfl) rfl (by rw [show (1001 : Int32) * nI bo + nI (j9 + 1) = nI (1001 * bo + (j9 + 1)) from nI_ma 1001 bo (j9 + 1)]; exact nI_in (N := 2002) (by omega) (by decide)) dX14_nameOf_62 ?_
          refine lv_topi (fun x18 ex18 => ?_)
          refine lv_icmp_ge (tgt := 115) hx hb dX14_nameOf_63 (by decide) (fun c_63 => ?_) (fun c_63 => ?_)
          · skip
            exact absurd (by have z := c_63; rw [ex18, show (1001 : Int32) * nI bo + nI (j9 + 1) = nI (1001 * bo + (j9 + 1)) from nI_ma 1001 bo (j9 + 1), nI_clamp (by omega), hln] at z; exact z) (nI_ge (by omega) (by omega))
          · skip
            refine lv_iload hx hb dX14_nameOf_66 (lv_at hl 5 rfl) ?_
            refine lv_if_eq (tgt := 115) hx hb dX14_nameOf_68 (by decide) (fun c_68 => ?_) (fun c_68 => ?_)
            · skip
              refine lv_iload hx hb dX14_nameOf_115 (lv_at hl 5 rfl) ?_
              refine lv_if_eq (tgt := 123) hx hb dX14_nameOf_117 (by decide) (fun c_117 => ?_) (fun c_117 => ?_)
              · skip
                obtain ⟨x19, ex19⟩ : ∃ y : Int32, y = (nI (j9 + 1)) + 1 := ⟨_, rfl⟩
                refine lv_iinc (v := x19) (lv' := [(4, .int x19), (0, .ref o), (1, .int (nI (fr + p9))), (2, .int (nI (fr + (p9 + n9)))), (3, .int (nI bo)), (5, .int fl9), (6, .int (nI k9))]) hx hb dX14_nameOf_123 hl (k := 4) rfl (by rw [ex19]; rfl) (by decide) rfl (fun ls hl => ?_)
                refine lv_goto (tgt := 8) hx hb dX14_nameOf_126 (by decide) ?_
                rw [show x19 = nI ((j9 + 1) + 1) by rw [ex19]; exact (nI_succ (j9 + 1)).symm] at hl
                have hno : ¬ nv9 j9 = pkd ft p9 n9 := by rcases hfl with z | z; exact absurd (z.1.symm.trans c_117) (by decide); exact z.2
                have hq2 : fndF (fun j => decide (nv9 j = pkd ft p9 n9)) n (j9 + 1) = RF := by rw [← hq, fndF, if_neg (by rw [decide_eq_false hno]; exact Bool.false_ne_true)]
                exact ih (j9 + 1) (by omega) hq2 Gv hM hGe _ _ hG hS ls (lv_sub hl [1, 2, 3, 4, 0] rfl)
              · skip
                exact absurd c_68 c_117
            · skip
              have hf1 : ln9 = n9 ∧ ∀ i, i < k9 → F 8 (12012 * bo + 12 * (j9 + 1) + i) = F sx (fr + p9 + i) := by rcases hfl with z | z; exact z.2; exact absurd z.1 c_68
              refine lv_aload_n hx hb dX14_nameOf_71 rfl (lv_at hl 0 rfl) ?_
              refine mm_get (v := .ref (Ar 8)) hx hb hf_X14 (fun _ h9 => h9) hown hK hG hM.1 rfl 8 (by decide) (tb_use hT tw_1399) (fun _ h9 => h9) (mfs_g8 _ _) dX14_nameOf_72 ?_
              refine lv_sipush (v := 12012) hx hb dX14_nameOf_75 (by decide) ?_
              refine lv_iload_n hx hb dX14_nameOf_78 rfl (lv_at hl 3 rfl) ?_
              refine lv_imul hx hb dX14_nameOf_79 ?_
              refine lv_bipush (v := 12) hx hb dX14_nameOf_80 (by decide) ?_
              refine lv_iload hx hb dX14_nameOf_82 (lv_at hl 4 rfl) ?_
              refine lv_imul hx hb dX14_nameOf_84 ?_
              refine lv_iadd hx hb dX14_nameOf_85 ?_
              refine lv_iload hx hb dX14_nameOf_86 (lv_at hl 6 rfl) ?_
              refine lv_iadd hx hb dX14_nameOf_88 ?_
              refine mm_iald (n := 24024) (f := F 8) hx hb hK hG 1 (hM.2.1 8 rfl) rfl (by rw [show (12012 : Int32) * nI bo + 12 * nI (j9 + 1) + nI k9 = nI (12012 * bo + 12 * (j9 + 1) + k9) by rw [show (12 : Int32) * nI (j9 + 1) = nI (12 * (j9 + 1)) from (Int32.ofNat_mul 12 (j9 + 1)).symm, show (12012 : Int32) * nI bo + nI (12 * (j9 + 1)) = nI (12012 * bo + 12 * (j9 + 1)) from nI_ma 12012 bo (12 * (j9 + 1)), nI_add]]; exact nI_in (N := 24024) (by omega) (by decide)) dX14_nameOf_89 ?_
              refine lv_topi (fun x20 ex20 => ?_)
              refine lv_aload_n hx hb dX14_nameOf_90 rfl (lv_at hl 0 rfl) ?_
              refine mm_get (v := .ref (Ar 47)) hx hb hf_X14 (fun _ h9 => h9) hown hK hG hM.1 rfl 47 (by decide) (tb_use hT tw_1438) (fun _ h9 => h9) (mfs_g47 _ _) dX14_nameOf_91 ?_
              refine lv_iload_n hx hb dX14_nameOf_94 rfl (lv_at hl 1 rfl) ?_
              refine lv_iload hx hb dX14_nameOf_95 (lv_at hl 6 rfl) ?_
              refine lv_iadd hx hb dX14_nameOf_97 ?_
              refine mm_iald (n := mdN sx) (f := F sx) hx hb hK hG 1 (hLs.src hM) rfl (by rw [nI_add]; exact nI_in (N := mdN sx) (by omega) (by omega)) dX14_nameOf_98 ?_
              refine lv_topi (fun x21 ex21 => ?_)
              refine lv_icmp_ne (tgt := 106) hx hb dX14_nameOf_99 (by decide) (fun c_99 => ?_) (fun c_99 => ?_)
              · skip
                refine lv_iconst (v := 0) hx hb dX14_nameOf_106 (by decide) ?_
                refine lv_istore (lv' := [(5, .int 0), (0, .ref o), (1, .int (nI (fr + p9))), (2, .int (nI (fr + (p9 + n9)))), (3, .int (nI bo)), (4, .int (nI (j9 + 1))), (6, .int (nI k9))]) hx hb dX14_nameOf_107 hl (by decide) rfl (fun ls hl => ?_)
                obtain ⟨x22, ex22⟩ : ∃ y : Int32, y = (nI k9) + 1 := ⟨_, rfl⟩
                refine lv_iinc (v := x22) (lv' := [(6, .int x22), (5, .int 0), (0, .ref o), (1, .int (nI (fr + p9))), (2, .int (nI (fr + (p9 + n9)))), (3, .int (nI bo)), (4, .int (nI (j9 + 1)))]) hx hb dX14_nameOf_109 hl (k := 6) rfl (by rw [ex22]; rfl) (by decide) rfl (fun ls hl => ?_)
                refine lv_goto (tgt := 48) hx hb dX14_nameOf_112 (by decide) ?_
                rw [show x22 = nI (k9 + 1) by rw [ex22]; exact (nI_succ k9).symm] at hl
                have hz8 : x20 = F 8 (12012 * bo + 12 * (j9 + 1) + k9) := by rw [ex20, show (12012 : Int32) * nI bo + 12 * nI (j9 + 1) + nI k9 = nI (12012 * bo + 12 * (j9 + 1) + k9) by rw [show (12 : Int32) * nI (j9 + 1) = nI (12 * (j9 + 1)) from (Int32.ofNat_mul 12 (j9 + 1)).symm, show (12012 : Int32) * nI bo + nI (12 * (j9 + 1)) = nI (12012 * bo + 12 * (j9 + 1)) from nI_ma 12012 bo (12 * (j9 + 1)), nI_add], nI_clamp (by omega)]
                have hzs : x21 = F sx (fr + p9 + k9) := by rw [ex21, nI_add, nI_clamp (by omega)]
                have hne : ¬ F 8 (12012 * bo + 12 * (j9 + 1) + k9) = F sx (fr + p9 + k9) := fun z => c_99 (by rw [hz8, hzs]; exact z)
                have hno : ¬ nv9 j9 = pkd ft p9 n9 := fun z => hne ((hnm.mp z).2 k9 (by omega))
                exact ih2 (k9 + 1) 0 (by omega) (Or.inr ⟨rfl, hno⟩) Gv hM hGe _ _ hG hS ls (lv_sub hl [2, 3, 4, 5, 6, 1, 0] rfl)
              · skip
                refine lv_iconst (v := 1) hx hb dX14_nameOf_102 (by decide) ?_
                refine lv_goto (tgt := 107) hx hb dX14_nameOf_103 (by decide) ?_
                refine lv_istore (lv' := [(5, .int 1), (0, .ref o), (1, .int (nI (fr + p9))), (2, .int (nI (fr + (p9 + n9)))), (3, .int (nI bo)), (4, .int (nI (j9 + 1))), (6, .int (nI k9))]) hx hb dX14_nameOf_107 hl (by decide) rfl (fun ls hl => ?_)
                obtain ⟨x23, ex23⟩ : ∃ y : Int32, y = (nI k9) + 1 := ⟨_, rfl⟩
                refine lv_iinc (v := x23) (lv' := [(6, .int x23), (5, .int 1), (0, .ref o), (1, .int (nI (fr + p9))), (2, .int (nI (fr + (p9 + n9)))), (3, .int (nI bo)), (4, .int (nI (j9 + 1)))]) hx hb dX14_nameOf_109 hl (k := 6) rfl (by rw [ex23]; rfl) (by decide) rfl (fun ls hl => ?_)
                refine lv_goto (tgt := 48) hx hb dX14_nameOf_112 (by decide) ?_
                rw [show x23 = nI (k9 + 1) by rw [ex23]; exact (nI_succ k9).symm] at hl
                have hz8 : x20 = F 8 (12012 * bo + 12 * (j9 + 1) + k9) := by rw [ex20, show (12012 : Int32) * nI bo + 12 * nI (j9 + 1) + nI k9 = nI (12012 * bo + 12 * (j9 + 1) + k9) by rw [show (12 : Int32) * nI (j9 + 1) = nI (12 * (j9 + 1)) from (Int32.ofNat_mul 12 (j9 + 1)).symm, show (12012 : Int32) * nI bo + nI (12 * (j9 + 1)) = nI (12012 * bo + 12 * (j9 + 1)) from nI_ma 12012 bo (12 * (j9 + 1)), nI_add], nI_clamp (by omega)]
                have hzs : x21 = F sx (fr + p9 + k9) := by rw [ex21, nI_add, nI_clamp (by omega)]
                have hye : F 8 (12012 * bo + 12 * (j9 + 1) + k9) = F sx (fr + p9 + k9) := by rw [← hz8, ← hzs]; exact c_99
                exact ih2 (k9 + 1) 1 (by omega) (Or.inl ⟨rfl, hf1.1, fun i hi => by rcases Nat.lt_or_ge i k9 with z | z; exact hf1.2 i z; rw [show i = k9 by omega]; exact hye⟩) Gv hM hGe _ _ hG hS ls (lv_sub hl [2, 3, 4, 5, 6, 1, 0] rfl)
      refine lv_iload hx hb dX14_nameOf_8 (lv_at hl 4 rfl) ?_
      refine lv_aload_n hx hb dX14_nameOf_10 rfl (lv_at hl 0 rfl) ?_
      refine mm_get (v := .ref (Ar 0)) hx hb hf_X14 (fun _ h9 => h9) hown hK hG hM.1 rfl 0 (by decide) (tb_use hT tw_1391) (fun _ h9 => h9) (mfs_g0 _ _) dX14_nameOf_11 ?_
      refine lv_iload_n hx hb dX14_nameOf_14 rfl (lv_at hl 3 rfl) ?_
      refine mm_iald (n := 2) (f := F 0) hx hb hK hG 1 (hM.2.1 0 rfl) rfl (nI_in (N := 2) hbl (by decide)) dX14_nameOf_15 ?_
      refine lv_topi (fun x24 ex24 => ?_)
      refine lv_icmp_gt (tgt := 129) hx hb dX14_nameOf_16 (by decide) (fun c_16 => ?_) (fun c_16 => ?_)
      · skip
        exact absurd (by have z := c_16; rw [ex24, nI_clamp (by omega), hNT.1] at z; exact z) (nI_nlt (by omega) (by omega))
      · skip
        refine lv_aload_n hx hb dX14_nameOf_19 rfl (lv_at hl 0 rfl) ?_
        refine mm_get (v := .ref (Ar 7)) hx hb hf_X14 (fun _ h9 => h9) hown hK hG hM.1 rfl 7 (by decide) (tb_use hT tw_1398) (fun _ h9 => h9) (mfs_g7 _ _) dX14_nameOf_20 ?_
        refine lv_sipush (v := 1001) hx hb dX14_nameOf_23 (by decide) ?_
        refine lv_iload_n hx hb dX14_nameOf_26 rfl (lv_at hl 3 rfl) ?_
        refine lv_imul hx hb dX14_nameOf_27 ?_
        refine lv_iload hx hb dX14_nameOf_28 (lv_at hl 4 rfl) ?_
        refine lv_iadd hx hb dX14_nameOf_30 ?_
        refine mm_iald (n := 2002) (f := F 7) hx hb hK hG 1 (hM.2.1 7 rfl) rfl (by rw [show (1001 : Int32) * nI bo + nI (j9 + 1) = nI (1001 * bo + (j9 + 1)) from nI_ma 1001 bo (j9 + 1)]; exact nI_in (N := 2002) (by omega) (by decide)) dX14_nameOf_31 ?_
        refine lv_topi (fun x25 ex25 => ?_)
        refine lv_iload_n hx hb dX14_nameOf_32 rfl (lv_at hl 2 rfl) ?_
        refine lv_iload_n hx hb dX14_nameOf_33 rfl (lv_at hl 1 rfl) ?_
        refine lv_isub hx hb dX14_nameOf_34 ?_
        refine lv_icmp_ne (tgt := 42) hx hb dX14_nameOf_35 (by decide) (fun c_35 => ?_) (fun c_35 => ?_)
        · skip
          refine lv_iconst (v := 0) hx hb dX14_nameOf_42 (by decide) ?_
          refine lv_istore (lv' := [(5, .int 0), (0, .ref o), (1, .int (nI (fr + p9))), (2, .int (nI (fr + (p9 + n9)))), (3, .int (nI bo)), (4, .int (nI (j9 + 1)))]) hx hb dX14_nameOf_43 hl (by decide) rfl (fun ls hl => ?_)
          refine lv_iconst (v := 0) hx hb dX14_nameOf_45 (by decide) ?_
          refine lv_istore (lv' := [(6, .int 0), (5, .int 0), (0, .ref o), (1, .int (nI (fr + p9))), (2, .int (nI (fr + (p9 + n9)))), (3, .int (nI bo)), (4, .int (nI (j9 + 1)))]) hx hb dX14_nameOf_46 hl (by decide) rfl (fun ls hl => ?_)
          have hdl : nI (fr + (p9 + n9)) - nI (fr + p9) = nI n9 := by rw [nI_sb (by omega)]; congr 1; omega
          have hnl : ¬ ln9 = n9 := fun z => c_35 (by rw [ex25, show (1001 : Int32) * nI bo + nI (j9 + 1) = nI (1001 * bo + (j9 + 1)) from nI_ma 1001 bo (j9 + 1), nI_clamp (by omega), hln, hdl, z])
          exact hin ln9 0 0 (by omega) (Or.inr ⟨rfl, fun z => hnl (hnm.mp z).1⟩) Gv hM hGe _ _ hG hS ls (lv_sub hl [2, 3, 4, 5, 6, 1, 0] rfl)
        · skip
          refine lv_iconst (v := 1) hx hb dX14_nameOf_38 (by decide) ?_
          refine lv_goto (tgt := 43) hx hb dX14_nameOf_39 (by decide) ?_
          refine lv_istore (lv' := [(5, .int 1), (0, .ref o), (1, .int (nI (fr + p9))), (2, .int (nI (fr + (p9 + n9)))), (3, .int (nI bo)), (4, .int (nI (j9 + 1)))]) hx hb dX14_nameOf_43 hl (by decide) rfl (fun ls hl => ?_)
          refine lv_iconst (v := 0) hx hb dX14_nameOf_45 (by decide) ?_
          refine lv_istore (lv' := [(6, .int 0), (5, .int 1), (0, .ref o), (1, .int (nI (fr + p9))), (2, .int (nI (fr + (p9 + n9)))), (3, .int (nI bo)), (4, .int (nI (j9 + 1)))]) hx hb dX14_nameOf_46 hl (by decide) rfl (fun ls hl => ?_)
          have hdl : nI (fr + (p9 + n9)) - nI (fr + p9) = nI n9 := by rw [nI_sb (by omega)]; congr 1; omega
          have hyl : ln9 = n9 := nI_inj (by omega) (by omega) (by have z := c_35; rw [ex25, show (1001 : Int32) * nI bo + nI (j9 + 1) = nI (1001 * bo + (j9 + 1)) from nI_ma 1001 bo (j9 + 1), nI_clamp (by omega), hln, hdl] at z; exact z)
          exact hin ln9 0 1 (by omega) (Or.inl ⟨rfl, hyl, fun i hi => absurd hi (Nat.not_lt_zero i)⟩) Gv hM hGe _ _ hG hS ls (lv_sub hl [2, 3, 4, 5, 6, 1, 0] rfl)
  refine lv_aload_n hx hb dX14_nameOf_0 rfl (lv_at hl 0 rfl) ?_
  refine mm_get (v := .int (Iv 41)) hx hb hf_X14 (fun _ h9 => h9) hown hK hG hM.1 rfl 41 (by decide) (tb_use hT tw_1432) (fun _ h9 => h9) (mfs_g41 _ _) dX14_nameOf_1 ?_
  rw [hbo]
  refine lv_istore_n (lv' := [(3, .int (nI bo)), (0, .ref o), (1, .int (nI (fr + p9))), (2, .int (nI (fr + (p9 + n9))))]) hx hb dX14_nameOf_4 rfl hl (by decide) rfl (fun ls hl => ?_)
  refine lv_iconst (v := 1) hx hb dX14_nameOf_5 (by decide) ?_
  refine lv_istore (lv' := [(4, .int 1), (3, .int (nI bo)), (0, .ref o), (1, .int (nI (fr + p9))), (2, .int (nI (fr + (p9 + n9))))]) hx hb dX14_nameOf_6 hl (by decide) rfl (fun ls hl => ?_)
  exact hout m9 0 (by omega) hR G hM rfl _ _ hG hS ls (lv_sub hl [2, 3, 4, 1, 0] rfl)
