set_option maxHeartbeats 4000000 in
set_option maxRecDepth 100000 in
theorem c_M_isLike (l : Launch) (D : va_G) (cy : Nat → ClassId) (A : Nat → Prop) (X : State → Prop) (hst : mk_St A X) (hXT : ∀ U : State, X U → TB U) (G : Nat → Option va_E) (o : Nat) (Ar : Nat → Nat) (Iv : Nat → Int32) (F : Nat → Nat → Int32) (L : Nat → Nat → Int64) (b9 d9 n9 n8 : Nat) (K9 K8 : Nat → Nat) (V9 V8 : Nat → Int64) (v9 u9 : EdV) (s9 t9 : Nat) (hM : MD cy G o Ar Iv F L) (hb9 : b9 < 2) (hd9 : d9 < 2) (hbk : Iv 42 = nI b9) (h41 : Iv 41 = nI d9) (hB : BK K9 V9 n9 F b9 v9) (hD : BK K8 V8 n8 F d9 u9) (hn9 : (ntL K9 V9 n9).1 ≤ 1000) (hn8 : (ntL K8 V8 n8).1 ≤ 1000) (hm9 : n9 < 2 ^ 30) (hm8 : n8 < 2 ^ 30) (hNL : NLb F d9 (ntL K8 V8 n8).1) (hVL : VLD v9) (hVU : VLD u9) (hLS : LSv v9) (hLU : LSv u9) (hs : s9 < v9.nS) (ht : t9 < u9.nS) : Met l yX14_isLike [.code yX14_isLike cX14_isLike 7 (some .boolean)] ({ frames := 2, cells := 0, slots := 0, locals := 60 }) (mk_Pre D vwCl (tyL cy) A X G [.ref o, .int (nI s9), .int (nI t9)]) (va_Qi (fun (r : Int32) (G2 : Nat → Option va_E) => (r = 0 ∨ r = 1) ∧ G2 = G) (mk_B D vwCl A) A) 0 0 A := by
  refine Met.ofW (cc := cX14_isLike) (maxL := 7) (ret := (some .boolean)) (by decide) rfl ?_
  intro p e s m args below meth c s₁ B hml hv
  obtain ⟨rfl, hG, hK, hA, hX⟩ := hv
  have hx := B.exec
  have hb := B.bytes
  have hr := B.returns
  have hlocks := B.notSynchronized
  have hT := hXT s hX
  have hown : s.vm.findClass RX14 = some m.cls := findClass_of_methodNamed B.named
  have hf_X14 : ∀ w ∈ u_ws RX14 TX14 76, w.before ([.ref o, .int (nI s9), .int (nI t9)] : List Value).toArray s = true := tb_list hT fX14
  have hS : va_S A s.heap s.heap [] := va_S.rf
  have hl := lv_entry ([.ref o, .int (nI s9), .int (nI t9)]) (n := 7) (Nat.le_of_ble_eq_true rfl)
  rw [lg_entry_eq]
  generalize (lg_sl ([.ref o, .int (nI s9), .int (nI t9)]) ++ List.replicate (7 - (lg_sl ([.ref o, .int (nI s9), .int (nI t9)])).length) Slot.unset).toArray = ls at hl ⊢
  have hl : lv_has ls 7 [(0, .ref o), (1, .int (nI s9)), (2, .int (nI t9))] := hl
  have ha16 := hB.2.2.1.2.1
  have hc16 := hD.2.2.1.2.1
  have hsa := hB.2.2.1.2.2 s9 hs
  have hsc := hD.2.2.1.2.2 t9 ht
  have hp8 := hsa.2.2.2.2.1
  have hq8 := hsc.2.2.2.2.1
  have hl6 := hB.2.1.2.1
  have hm6 := hD.2.1.2.1
  have hls := hLS s9 hs
  have hlt := hLU t9 ht
  have hla := (hB.2.1.2.2 _ hls).1
  have hlc := (hD.2.1.2.2 _ hlt).1
  have hll : ∀ (n : Nat) (j9 : Nat) (xh : Int32), (n + j9 = 8) → (xh = 0 ∨ xh = 1) → (¬ xh = 0 → v9.nP s9 = u9.nP t9) → ∀ (Gv : Nat → Option va_E), (MD cy Gv o Ar Iv F L) → (Gv = G) → ∀ (H : Heap) (locs : List Loc), mm D vwCl A Gv H → va_S A s.heap H locs → ∀ ls : Array Slot, lv_has ls 7 [(0, .ref o), (1, .int (nI s9)), (2, .int (nI t9)), (3, .int xh), (4, .int (nI j9))] → W p l e (headSpec [.code yX14_isLike cX14_isLike 7 (some .boolean)] ({ frames := 2, cells := 0, slots := 0, locals := 60 })).room s m ([.ref o, .int (nI s9), .int (nI t9)] : List Value).toArray below meth c H locs 0 0 (MQ below (va_Qi (fun (r : Int32) (G2 : Nat → Option va_E) => (r = 0 ∨ r = 1) ∧ G2 = G) (mk_B D vwCl A) A) ([.ref o, .int (nI s9), .int (nI t9)] : List Value).toArray s 0 0 A) (F0 m 167 ls []) := by
    intro n
    induction n with
    | zero =>
      intro j9 xh hjn hxh hsm Gv hM hGe H locs hG hS ls hl
      refine lv_iload hx hb dX14_isLike_167 (lv_at hl 4 rfl) ?_
      refine lv_aload_n hx hb dX14_isLike_169 rfl (lv_at hl 0 rfl) ?_
      refine mm_get (v := .ref (Ar 23)) hx hb hf_X14 (fun _ h9 => h9) hown hK hG hM.1 rfl 23 (by decide) (tb_use hT tw_1414) (fun _ h9 => h9) (mfs_g23 _ _) dX14_isLike_170 ?_
      refine lv_bipush (v := 16) hx hb dX14_isLike_173 (by decide) ?_
      refine lv_aload_n hx hb dX14_isLike_175 rfl (lv_at hl 0 rfl) ?_
      refine mm_get (v := .int (Iv 42)) hx hb hf_X14 (fun _ h9 => h9) hown hK hG hM.1 rfl 42 (by decide) (tb_use hT tw_1433) (fun _ h9 => h9) (mfs_g42 _ _) dX14_isLike_176 ?_
      rw [show (Iv 42) = nI b9 from hbk]
      refine lv_imul hx hb dX14_isLike_179 ?_
      refine lv_iload_n hx hb dX14_isLike_180 rfl (lv_at hl 1 rfl) ?_
      refine lv_iadd hx hb dX14_isLike_181 ?_
      refine mm_iald (n := 32) (f := F 23) hx hb hK hG 1 (hM.2.1 23 rfl) rfl (by rw [show (16 : Int32) * nI b9 + nI s9 = nI (16 * b9 + s9) from nI_ma 16 b9 s9]; exact nI_in (N := 32) (by omega) (by decide)) dX14_isLike_182 ?_
      refine lv_topi (fun x1 ex1 => ?_)
      refine lv_icmp_ge (tgt := 423) hx hb dX14_isLike_183 (by decide) (fun c_183 => ?_) (fun c_183 => ?_)
      · skip
        refine lv_iload_n hx hb dX14_isLike_423 rfl (lv_at hl 3 rfl) ?_
        exact W.zret (v := xh) hx hb hr (by rcases hxh with z | z <;> rw [z] <;> rfl) (fun t ht hW => ⟨⟨_, _, rfl, ⟨hxh, hGe⟩, mk_end hG ht⟩, hS.F ht⟩) hS.2.2 dX14_isLike_424
      · skip
        exact absurd (nI_lt_of (a := j9) (b := v9.nP s9) (by omega) (by omega) (by have z := c_183; rw [ex1, show (16 : Int32) * nI b9 + nI s9 = nI (16 * b9 + s9) from nI_ma 16 b9 s9, nI_clamp (by omega), hsa.2.2.2.1] at z; exact z)) (by omega)
    | succ n ih =>
      intro j9 xh hjn hxh hsm Gv hM hGe H locs hG hS ls hl
      refine lv_iload hx hb dX14_isLike_167 (lv_at hl 4 rfl) ?_
      refine lv_aload_n hx hb dX14_isLike_169 rfl (lv_at hl 0 rfl) ?_
      refine mm_get (v := .ref (Ar 23)) hx hb hf_X14 (fun _ h9 => h9) hown hK hG hM.1 rfl 23 (by decide) (tb_use hT tw_1414) (fun _ h9 => h9) (mfs_g23 _ _) dX14_isLike_170 ?_
      refine lv_bipush (v := 16) hx hb dX14_isLike_173 (by decide) ?_
      refine lv_aload_n hx hb dX14_isLike_175 rfl (lv_at hl 0 rfl) ?_
      refine mm_get (v := .int (Iv 42)) hx hb hf_X14 (fun _ h9 => h9) hown hK hG hM.1 rfl 42 (by decide) (tb_use hT tw_1433) (fun _ h9 => h9) (mfs_g42 _ _) dX14_isLike_176 ?_
      rw [show (Iv 42) = nI b9 from hbk]
      refine lv_imul hx hb dX14_isLike_179 ?_
      refine lv_iload_n hx hb dX14_isLike_180 rfl (lv_at hl 1 rfl) ?_
      refine lv_iadd hx hb dX14_isLike_181 ?_
      refine mm_iald (n := 32) (f := F 23) hx hb hK hG 1 (hM.2.1 23 rfl) rfl (by rw [show (16 : Int32) * nI b9 + nI s9 = nI (16 * b9 + s9) from nI_ma 16 b9 s9]; exact nI_in (N := 32) (by omega) (by decide)) dX14_isLike_182 ?_
      refine lv_topi (fun x2 ex2 => ?_)
      refine lv_icmp_ge (tgt := 423) hx hb dX14_isLike_183 (by decide) (fun c_183 => ?_) (fun c_183 => ?_)
      · skip
        refine lv_iload_n hx hb dX14_isLike_423 rfl (lv_at hl 3 rfl) ?_
        exact W.zret (v := xh) hx hb hr (by rcases hxh with z | z <;> rw [z] <;> rfl) (fun t ht hW => ⟨⟨_, _, rfl, ⟨hxh, hGe⟩, mk_end hG ht⟩, hS.F ht⟩) hS.2.2 dX14_isLike_424
      · skip
        refine lv_iload_n hx hb dX14_isLike_186 rfl (lv_at hl 3 rfl) ?_
        refine lv_if_eq (tgt := 423) hx hb dX14_isLike_187 (by decide) (fun c_187 => ?_) (fun c_187 => ?_)
        · skip
          refine lv_iload_n hx hb dX14_isLike_423 rfl (lv_at hl 3 rfl) ?_
          exact W.zret (v := xh) hx hb hr (by rcases hxh with z | z <;> rw [z] <;> rfl) (fun t ht hW => ⟨⟨_, _, rfl, ⟨hxh, hGe⟩, mk_end hG ht⟩, hS.F ht⟩) hS.2.2 dX14_isLike_424
        · skip
          have hja : j9 < v9.nP s9 := nI_lt_of (by omega) (by omega) (by have z := c_183; rw [ex2, show (16 : Int32) * nI b9 + nI s9 = nI (16 * b9 + s9) from nI_ma 16 b9 s9, nI_clamp (by omega), hsa.2.2.2.1] at z; exact z)
          have hjc : j9 < u9.nP t9 := by rw [← hsm c_187]; exact hja
          have hpa := hsa.2.2.2.2.2 j9 hja
          have hpc := hsc.2.2.2.2.2 j9 hjc
          refine lv_bipush (v := 8) hx hb dX14_isLike_190 (by decide) ?_
          refine lv_iload_n hx hb dX14_isLike_192 rfl (lv_at hl 1 rfl) ?_
          refine lv_imul hx hb dX14_isLike_193 ?_
          refine lv_iload hx hb dX14_isLike_194 (lv_at hl 4 rfl) ?_
          refine lv_iadd hx hb dX14_isLike_196 ?_
          rw [show (8 : Int32) * nI s9 + nI j9 = nI (8 * s9 + j9) from nI_ma 8 s9 j9]
          refine lv_istore (lv' := [(5, .int (nI (8 * s9 + j9))), (0, .ref o), (1, .int (nI s9)), (2, .int (nI t9)), (3, .int xh), (4, .int (nI j9))]) hx hb dX14_isLike_197 hl (by decide) rfl (fun ls hl => ?_)
          refine lv_bipush (v := 8) hx hb dX14_isLike_199 (by decide) ?_
          refine lv_iload_n hx hb dX14_isLike_201 rfl (lv_at hl 3 rfl) ?_
          refine lv_imul hx hb dX14_isLike_202 ?_
          refine lv_iload hx hb dX14_isLike_203 (lv_at hl 5 rfl) ?_
          refine lv_iadd hx hb dX14_isLike_205 ?_
          rw [show (8 : Int32) * nI t9 + nI j9 = nI (8 * t9 + j9) from nI_ma 8 t9 j9]
          refine lv_istore (lv' := [(6, .int (nI (8 * t9 + j9))), (5, .int (nI (8 * s9 + j9))), (0, .ref o), (1, .int (nI s9)), (2, .int (nI t9)), (3, .int xh), (4, .int (nI j9))]) hx hb dX14_isLike_206 hl (by decide) rfl (fun ls hl => ?_)
          refine lv_aload_n hx hb dX14_isLike_208 rfl (lv_at hl 2 rfl) ?_
          refine lv_aload_n hx hb dX14_isLike_209 rfl (lv_at hl 2 rfl) ?_
          refine mm_get (v := .ref (Ar 24)) hx hb hf_X14 (fun _ h9 => h9) hown hK hG hM.1 rfl 24 (by decide) (tb_use hT tw_1415) (fun _ h9 => h9) (mfs_g24 _ _) dX14_isLike_210 ?_
          refine lv_sipush (v := 128) hx hb dX14_isLike_213 (by decide) ?_
          refine lv_aload_n hx hb dX14_isLike_216 rfl (lv_at hl 2 rfl) ?_
          refine mm_get (v := .int (Iv 42)) hx hb hf_X14 (fun _ h9 => h9) hown hK hG hM.1 rfl 42 (by decide) (tb_use hT tw_1433) (fun _ h9 => h9) (mfs_g42 _ _) dX14_isLike_217 ?_
          rw [show (Iv 42) = nI b9 from hbk]
          refine lv_imul hx hb dX14_isLike_220 ?_
          refine lv_iload hx hb dX14_isLike_221 (lv_at hl 1 rfl) ?_
          refine lv_iadd hx hb dX14_isLike_223 ?_
          refine mm_iald (n := 256) (f := F 24) hx hb hK hG 1 (hM.2.1 24 rfl) rfl (by rw [show (128 : Int32) * nI b9 + nI (8 * s9 + j9) = nI (128 * b9 + (8 * s9 + j9)) from nI_ma 128 b9 (8 * s9 + j9)]; exact nI_in (N := 256) (by omega) (by decide)) dX14_isLike_224 ?_
          refine lv_topi (fun x3 ex3 => ?_)
          refine lv_aload_n hx hb dX14_isLike_225 rfl (lv_at hl 2 rfl) ?_
          refine mm_get (v := .ref (Ar 24)) hx hb hf_X14 (fun _ h9 => h9) hown hK hG hM.1 rfl 24 (by decide) (tb_use hT tw_1415) (fun _ h9 => h9) (mfs_g24 _ _) dX14_isLike_226 ?_
          refine lv_sipush (v := 128) hx hb dX14_isLike_229 (by decide) ?_
          refine lv_aload_n hx hb dX14_isLike_232 rfl (lv_at hl 2 rfl) ?_
          refine mm_get (v := .int (Iv 41)) hx hb hf_X14 (fun _ h9 => h9) hown hK hG hM.1 rfl 41 (by decide) (tb_use hT tw_1432) (fun _ h9 => h9) (mfs_g41 _ _) dX14_isLike_233 ?_
          rw [show (Iv 41) = nI d9 from h41]
          refine lv_imul hx hb dX14_isLike_236 ?_
          refine lv_iload hx hb dX14_isLike_237 (lv_at hl 0 rfl) ?_
          refine lv_iadd hx hb dX14_isLike_239 ?_
          refine mm_iald (n := 256) (f := F 24) hx hb hK hG 1 (hM.2.1 24 rfl) rfl (by rw [show (128 : Int32) * nI d9 + nI (8 * t9 + j9) = nI (128 * d9 + (8 * t9 + j9)) from nI_ma 128 d9 (8 * t9 + j9)]; exact nI_in (N := 256) (by omega) (by decide)) dX14_isLike_240 ?_
          refine lv_topi (fun x4 ex4 => ?_)
          obtain ⟨p9, hp1, hp2, -⟩ := NMt.nb hpa.1 hn9
          obtain ⟨q9, hq1, hq2, hq3⟩ := NMt.nb hpc.1 hn8
          rw [show x3 = nI p9 by rw [ex3, show (128 : Int32) * nI b9 + nI (8 * s9 + j9) = nI (128 * b9 + (8 * s9 + j9)) from nI_ma 128 b9 (8 * s9 + j9), nI_clamp (by omega)]; exact hp2, show x4 = nI q9 by rw [ex4, show (128 : Int32) * nI d9 + nI (8 * t9 + j9) = nI (128 * d9 + (8 * t9 + j9)) from nI_ma 128 d9 (8 * t9 + j9), nI_clamp (by omega)]; exact hq2]
          refine va_calli (va_runV (As := [.int (nI p9), .int (nI q9)]) (rest := []) ⟨hx, hb, hml, hown, (fun _ h9 => absurd h9 List.not_mem_nil : ∀ w ∈ ([] : List Cond), w.before _ s = true)⟩ (c_M_isNamed l D cy A X hst hXT Gv o Ar Iv F L b9 d9 p9 q9 (ntL K8 V8 n8).1 hM hb9 hd9 hbk h41 hp1 hq1 hq3 hNL) (tb_cw (C := RX14) 2 hT tw_1886 tw_109 tw_1883 tw_1885 tw_102 rfl rfl hq_X14_isNamed ⟨Nat.le_of_ble_eq_true rfl, Nat.le_of_ble_eq_true rfl⟩) (mk_preC hst hG hK hA hX hS vc_15 hM.1) rfl rfl hl.1 rfl (lv_room (Nat.le_of_ble_eq_true rfl)) dX14_isLike_241 ⟨Nat.le_of_ble_eq_true rfl, Nat.le_of_ble_eq_true rfl⟩) hS (fun q _ h => h) (fun q h => h) (fun r5 G6 t H locs ht hvm hw hB hz1 hk1 hS => ?_)
          have hG : mm D vwCl A G6 H := by rw [← ht]; exact hB
          clear hB hz1 hk1 hvm ht
          obtain ⟨h_r5, hw⟩ := hw
          rw [hw] at hG
          refine lv_if_eq (tgt := 415) hx hb dX14_isLike_244 (by decide) (fun c_244 => ?_) (fun c_244 => ?_)
          · skip
            refine lv_iconst (v := 0) hx hb dX14_isLike_415 (by decide) ?_
            refine lv_istore_n (lv' := [(3, .int 0), (6, .int (nI (8 * t9 + j9))), (5, .int (nI (8 * s9 + j9))), (0, .ref o), (1, .int (nI s9)), (2, .int (nI t9)), (4, .int (nI j9))]) hx hb dX14_isLike_416 rfl hl (by decide) rfl (fun ls hl => ?_)
            obtain ⟨x7, ex7⟩ : ∃ y : Int32, y = (nI j9) + 1 := ⟨_, rfl⟩
            refine lv_iinc (v := x7) (lv' := [(4, .int x7), (3, .int 0), (6, .int (nI (8 * t9 + j9))), (5, .int (nI (8 * s9 + j9))), (0, .ref o), (1, .int (nI s9)), (2, .int (nI t9))]) hx hb dX14_isLike_417 hl (k := 6) rfl (by rw [ex7]; rfl) (by decide) rfl (fun ls hl => ?_)
            refine lv_goto (tgt := 167) hx hb dX14_isLike_420 (by decide) ?_
            rw [show x7 = nI (j9 + 1) by rw [ex7]; exact (nI_succ j9).symm] at hl
            exact ih (j9 + 1) 0 (by omega) (Or.inl rfl) (fun _ => hsm c_187) Gv hM hGe _ _ hG hS ls (lv_sub hl [4, 5, 6, 1, 0] rfl)
          · skip
            refine lv_aload_n hx hb dX14_isLike_247 rfl (lv_at hl 2 rfl) ?_
            refine mm_get (v := .ref (Ar 26)) hx hb hf_X14 (fun _ h9 => h9) hown hK hG hM.1 rfl 26 (by decide) (tb_use hT tw_1417) (fun _ h9 => h9) (mfs_g26 _ _) dX14_isLike_248 ?_
            refine lv_sipush (v := 128) hx hb dX14_isLike_251 (by decide) ?_
            refine lv_aload_n hx hb dX14_isLike_254 rfl (lv_at hl 2 rfl) ?_
            refine mm_get (v := .int (Iv 42)) hx hb hf_X14 (fun _ h9 => h9) hown hK hG hM.1 rfl 42 (by decide) (tb_use hT tw_1433) (fun _ h9 => h9) (mfs_g42 _ _) dX14_isLike_255 ?_
            rw [show (Iv 42) = nI b9 from hbk]
            refine lv_imul hx hb dX14_isLike_258 ?_
            refine lv_iload hx hb dX14_isLike_259 (lv_at hl 1 rfl) ?_
            refine lv_iadd hx hb dX14_isLike_261 ?_
            refine mm_iald (n := 256) (f := F 26) hx hb hK hG 1 (hM.2.1 26 rfl) rfl (by rw [show (128 : Int32) * nI b9 + nI (8 * s9 + j9) = nI (128 * b9 + (8 * s9 + j9)) from nI_ma 128 b9 (8 * s9 + j9)]; exact nI_in (N := 256) (by omega) (by decide)) dX14_isLike_262 ?_
            refine lv_topi (fun x8 ex8 => ?_)
            refine lv_aload_n hx hb dX14_isLike_263 rfl (lv_at hl 2 rfl) ?_
            refine mm_get (v := .ref (Ar 26)) hx hb hf_X14 (fun _ h9 => h9) hown hK hG hM.1 rfl 26 (by decide) (tb_use hT tw_1417) (fun _ h9 => h9) (mfs_g26 _ _) dX14_isLike_264 ?_
            refine lv_sipush (v := 128) hx hb dX14_isLike_267 (by decide) ?_
            refine lv_aload_n hx hb dX14_isLike_270 rfl (lv_at hl 2 rfl) ?_
            refine mm_get (v := .int (Iv 41)) hx hb hf_X14 (fun _ h9 => h9) hown hK hG hM.1 rfl 41 (by decide) (tb_use hT tw_1432) (fun _ h9 => h9) (mfs_g41 _ _) dX14_isLike_271 ?_
            rw [show (Iv 41) = nI d9 from h41]
            refine lv_imul hx hb dX14_isLike_274 ?_
            refine lv_iload hx hb dX14_isLike_275 (lv_at hl 0 rfl) ?_
            refine lv_iadd hx hb dX14_isLike_277 ?_
            refine mm_iald (n := 256) (f := F 26) hx hb hK hG 1 (hM.2.1 26 rfl) rfl (by rw [show (128 : Int32) * nI d9 + nI (8 * t9 + j9) = nI (128 * d9 + (8 * t9 + j9)) from nI_ma 128 d9 (8 * t9 + j9)]; exact nI_in (N := 256) (by omega) (by decide)) dX14_isLike_278 ?_
            refine lv_topi (fun x9 ex9 => ?_)
            refine lv_icmp_ne (tgt := 415) hx hb dX14_isLike_279 (by decide) (fun c_279 => ?_) (fun c_279 => ?_)
            · skip
              refine lv_iconst (v := 0) hx hb dX14_isLike_415 (by decide) ?_
              refine lv_istore_n (lv' := [(3, .int 0), (6, .int (nI (8 * t9 + j9))), (5, .int (nI (8 * s9 + j9))), (0, .ref o), (1, .int (nI s9)), (2, .int (nI t9)), (4, .int (nI j9))]) hx hb dX14_isLike_416 rfl hl (by decide) rfl (fun ls hl => ?_)
              obtain ⟨x10, ex10⟩ : ∃ y : Int32, y = (nI j9) + 1 := ⟨_, rfl⟩
              refine lv_iinc (v := x10) (lv' := [(4, .int x10), (3, .int 0), (6, .int (nI (8 * t9 + j9))), (5, .int (nI (8 * s9 + j9))), (0, .ref o), (1, .int (nI s9)), (2, .int (nI t9))]) hx hb dX14_isLike_417 hl (k := 6) rfl (by rw [ex10]; rfl) (by decide) rfl (fun ls hl => ?_)
              refine lv_goto (tgt := 167) hx hb dX14_isLike_420 (by decide) ?_
              rw [show x10 = nI (j9 + 1) by rw [ex10]; exact (nI_succ j9).symm] at hl
              exact ih (j9 + 1) 0 (by omega) (Or.inl rfl) (fun _ => hsm c_187) Gv hM hGe _ _ hG hS ls (lv_sub hl [4, 5, 6, 1, 0] rfl)
            · skip
              refine lv_aload_n hx hb dX14_isLike_282 rfl (lv_at hl 2 rfl) ?_
              refine lv_aload_n hx hb dX14_isLike_283 rfl (lv_at hl 2 rfl) ?_
              refine mm_get (v := .ref (Ar 27)) hx hb hf_X14 (fun _ h9 => h9) hown hK hG hM.1 rfl 27 (by decide) (tb_use hT tw_1418) (fun _ h9 => h9) (mfs_g27 _ _) dX14_isLike_284 ?_
              refine lv_sipush (v := 128) hx hb dX14_isLike_287 (by decide) ?_
              refine lv_aload_n hx hb dX14_isLike_290 rfl (lv_at hl 2 rfl) ?_
              refine mm_get (v := .int (Iv 42)) hx hb hf_X14 (fun _ h9 => h9) hown hK hG hM.1 rfl 42 (by decide) (tb_use hT tw_1433) (fun _ h9 => h9) (mfs_g42 _ _) dX14_isLike_291 ?_
              rw [show (Iv 42) = nI b9 from hbk]
              refine lv_imul hx hb dX14_isLike_294 ?_
              refine lv_iload hx hb dX14_isLike_295 (lv_at hl 1 rfl) ?_
              refine lv_iadd hx hb dX14_isLike_297 ?_
              refine mm_iald (n := 256) (f := F 27) hx hb hK hG 1 (hM.2.1 27 rfl) rfl (by rw [show (128 : Int32) * nI b9 + nI (8 * s9 + j9) = nI (128 * b9 + (8 * s9 + j9)) from nI_ma 128 b9 (8 * s9 + j9)]; exact nI_in (N := 256) (by omega) (by decide)) dX14_isLike_298 ?_
              refine lv_topi (fun x11 ex11 => ?_)
              refine lv_aload_n hx hb dX14_isLike_299 rfl (lv_at hl 2 rfl) ?_
              refine mm_get (v := .ref (Ar 27)) hx hb hf_X14 (fun _ h9 => h9) hown hK hG hM.1 rfl 27 (by decide) (tb_use hT tw_1418) (fun _ h9 => h9) (mfs_g27 _ _) dX14_isLike_300 ?_
              refine lv_sipush (v := 128) hx hb dX14_isLike_303 (by decide) ?_
              refine lv_aload_n hx hb dX14_isLike_306 rfl (lv_at hl 2 rfl) ?_
              refine mm_get (v := .int (Iv 41)) hx hb hf_X14 (fun _ h9 => h9) hown hK hG hM.1 rfl 41 (by decide) (tb_use hT tw_1432) (fun _ h9 => h9) (mfs_g41 _ _) dX14_isLike_307 ?_
              rw [show (Iv 41) = nI d9 from h41]
              refine lv_imul hx hb dX14_isLike_310 ?_
              refine lv_iload hx hb dX14_isLike_311 (lv_at hl 0 rfl) ?_
              refine lv_iadd hx hb dX14_isLike_313 ?_
              refine mm_iald (n := 256) (f := F 27) hx hb hK hG 1 (hM.2.1 27 rfl) rfl (by rw [show (128 : Int32) * nI d9 + nI (8 * t9 + j9) = nI (128 * d9 + (8 * t9 + j9)) from nI_ma 128 d9 (8 * t9 + j9)]; exact nI_in (N := 256) (by omega) (by decide)) dX14_isLike_314 ?_
              refine lv_topi (fun x12 ex12 => ?_)
              obtain ⟨p9, hp1, hp2, -⟩ := NMt.nb hpa.2.2.2.1 hn9
              obtain ⟨q9, hq1, hq2, hq3⟩ := NMt.nb hpc.2.2.2.1 hn8
              rw [show x11 = nI p9 by rw [ex11, show (128 : Int32) * nI b9 + nI (8 * s9 + j9) = nI (128 * b9 + (8 * s9 + j9)) from nI_ma 128 b9 (8 * s9 + j9), nI_clamp (by omega)]; exact hp2, show x12 = nI q9 by rw [ex12, show (128 : Int32) * nI d9 + nI (8 * t9 + j9) = nI (128 * d9 + (8 * t9 + j9)) from nI_ma 128 d9 (8 * t9 + j9), nI_clamp (by omega)]; exact hq2]
              refine va_calli (va_runV (As := [.int (nI p9), .int (nI q9)]) (rest := []) ⟨hx, hb, hml, hown, (fun _ h9 => absurd h9 List.not_mem_nil : ∀ w ∈ ([] : List Cond), w.before _ s = true)⟩ (c_M_isNamed l D cy A X hst hXT Gv o Ar Iv F L b9 d9 p9 q9 (ntL K8 V8 n8).1 hM hb9 hd9 hbk h41 hp1 hq1 hq3 hNL) (tb_cw (C := RX14) 2 hT tw_1886 tw_109 tw_1883 tw_1885 tw_102 rfl rfl hq_X14_isNamed ⟨Nat.le_of_ble_eq_true rfl, Nat.le_of_ble_eq_true rfl⟩) (mk_preC hst hG hK hA hX hS vc_15 hM.1) rfl rfl hl.1 rfl (lv_room (Nat.le_of_ble_eq_true rfl)) dX14_isLike_315 ⟨Nat.le_of_ble_eq_true rfl, Nat.le_of_ble_eq_true rfl⟩) hS (fun q _ h => h) (fun q h => h) (fun r13 G14 t H locs ht hvm hw hB hz1 hk1 hS => ?_)
              have hG : mm D vwCl A G14 H := by rw [← ht]; exact hB
              clear hB hz1 hk1 hvm ht
              obtain ⟨h_r13, hw⟩ := hw
              rw [hw] at hG
              refine lv_if_eq (tgt := 415) hx hb dX14_isLike_318 (by decide) (fun c_318 => ?_) (fun c_318 => ?_)
              · skip
                refine lv_iconst (v := 0) hx hb dX14_isLike_415 (by decide) ?_
                refine lv_istore_n (lv' := [(3, .int 0), (6, .int (nI (8 * t9 + j9))), (5, .int (nI (8 * s9 + j9))), (0, .ref o), (1, .int (nI s9)), (2, .int (nI t9)), (4, .int (nI j9))]) hx hb dX14_isLike_416 rfl hl (by decide) rfl (fun ls hl => ?_)
                obtain ⟨x15, ex15⟩ : ∃ y : Int32, y = (nI j9) + 1 := ⟨_, rfl⟩
                refine lv_iinc (v := x15) (lv' := [(4, .int x15), (3, .int 0), (6, .int (nI (8 * t9 + j9))), (5, .int (nI (8 * s9 + j9))), (0, .ref o), (1, .int (nI s9)), (2, .int (nI t9))]) hx hb dX14_isLike_417 hl (k := 6) rfl (by rw [ex15]; rfl) (by decide) rfl (fun ls hl => ?_)
                refine lv_goto (tgt := 167) hx hb dX14_isLike_420 (by decide) ?_
                rw [show x15 = nI (j9 + 1) by rw [ex15]; exact (nI_succ j9).symm] at hl
                exact ih (j9 + 1) 0 (by omega) (Or.inl rfl) (fun _ => hsm c_187) Gv hM hGe _ _ hG hS ls (lv_sub hl [4, 5, 6, 1, 0] rfl)
              · skip
                refine lv_aload_n hx hb dX14_isLike_321 rfl (lv_at hl 2 rfl) ?_
                refine mm_get (v := .ref (Ar 28)) hx hb hf_X14 (fun _ h9 => h9) hown hK hG hM.1 rfl 28 (by decide) (tb_use hT tw_1419) (fun _ h9 => h9) (mfs_g28 _ _) dX14_isLike_322 ?_
                refine lv_sipush (v := 128) hx hb dX14_isLike_325 (by decide) ?_
                refine lv_aload_n hx hb dX14_isLike_328 rfl (lv_at hl 2 rfl) ?_
                refine mm_get (v := .int (Iv 42)) hx hb hf_X14 (fun _ h9 => h9) hown hK hG hM.1 rfl 42 (by decide) (tb_use hT tw_1433) (fun _ h9 => h9) (mfs_g42 _ _) dX14_isLike_329 ?_
                rw [show (Iv 42) = nI b9 from hbk]
                refine lv_imul hx hb dX14_isLike_332 ?_
                refine lv_iload hx hb dX14_isLike_333 (lv_at hl 1 rfl) ?_
                refine lv_iadd hx hb dX14_isLike_335 ?_
                refine mm_iald (n := 256) (f := F 28) hx hb hK hG 1 (hM.2.1 28 rfl) rfl (by rw [show (128 : Int32) * nI b9 + nI (8 * s9 + j9) = nI (128 * b9 + (8 * s9 + j9)) from nI_ma 128 b9 (8 * s9 + j9)]; exact nI_in (N := 256) (by omega) (by decide)) dX14_isLike_336 ?_
                refine lv_topi (fun x16 ex16 => ?_)
                refine lv_aload_n hx hb dX14_isLike_337 rfl (lv_at hl 2 rfl) ?_
                refine mm_get (v := .ref (Ar 28)) hx hb hf_X14 (fun _ h9 => h9) hown hK hG hM.1 rfl 28 (by decide) (tb_use hT tw_1419) (fun _ h9 => h9) (mfs_g28 _ _) dX14_isLike_338 ?_
                refine lv_sipush (v := 128) hx hb dX14_isLike_341 (by decide) ?_
                refine lv_aload_n hx hb dX14_isLike_344 rfl (lv_at hl 2 rfl) ?_
                refine mm_get (v := .int (Iv 41)) hx hb hf_X14 (fun _ h9 => h9) hown hK hG hM.1 rfl 41 (by decide) (tb_use hT tw_1432) (fun _ h9 => h9) (mfs_g41 _ _) dX14_isLike_345 ?_
                rw [show (Iv 41) = nI d9 from h41]
                refine lv_imul hx hb dX14_isLike_348 ?_
                refine lv_iload hx hb dX14_isLike_349 (lv_at hl 0 rfl) ?_
                refine lv_iadd hx hb dX14_isLike_351 ?_
                refine mm_iald (n := 256) (f := F 28) hx hb hK hG 1 (hM.2.1 28 rfl) rfl (by rw [show (128 : Int32) * nI d9 + nI (8 * t9 + j9) = nI (128 * d9 + (8 * t9 + j9)) from nI_ma 128 d9 (8 * t9 + j9)]; exact nI_in (N := 256) (by omega) (by decide)) dX14_isLike_352 ?_
                refine lv_topi (fun x17 ex17 => ?_)
                refine lv_icmp_ne (tgt := 415) hx hb dX14_isLike_353 (by decide) (fun c_353 => ?_) (fun c_353 => ?_)
                · skip
                  refine lv_iconst (v := 0) hx hb dX14_isLike_415 (by decide) ?_
                  refine lv_istore_n (lv' := [(3, .int 0), (6, .int (nI (8 * t9 + j9))), (5, .int (nI (8 * s9 + j9))), (0, .ref o), (1, .int (nI s9)), (2, .int (nI t9)), (4, .int (nI j9))]) hx hb dX14_isLike_416 rfl hl (by decide) rfl (fun ls hl => ?_)
                  obtain ⟨x18, ex18⟩ : ∃ y : Int32, y = (nI j9) + 1 := ⟨_, rfl⟩
                  refine lv_iinc (v := x18) (lv' := [(4, .int x18), (3, .int 0), (6, .int (nI (8 * t9 + j9))), (5, .int (nI (8 * s9 + j9))), (0, .ref o), (1, .int (nI s9)), (2, .int (nI t9))]) hx hb dX14_isLike_417 hl (k := 6) rfl (by rw [ex18]; rfl) (by decide) rfl (fun ls hl => ?_)
                  refine lv_goto (tgt := 167) hx hb dX14_isLike_420 (by decide) ?_
                  rw [show x18 = nI (j9 + 1) by rw [ex18]; exact (nI_succ j9).symm] at hl
                  exact ih (j9 + 1) 0 (by omega) (Or.inl rfl) (fun _ => hsm c_187) Gv hM hGe _ _ hG hS ls (lv_sub hl [4, 5, 6, 1, 0] rfl)
                · skip
                  refine lv_aload_n hx hb dX14_isLike_356 rfl (lv_at hl 2 rfl) ?_
                  refine lv_aload_n hx hb dX14_isLike_357 rfl (lv_at hl 2 rfl) ?_
                  refine lv_aload_n hx hb dX14_isLike_358 rfl (lv_at hl 2 rfl) ?_
                  refine mm_get (v := .int (Iv 42)) hx hb hf_X14 (fun _ h9 => h9) hown hK hG hM.1 rfl 42 (by decide) (tb_use hT tw_1433) (fun _ h9 => h9) (mfs_g42 _ _) dX14_isLike_359 ?_
                  rw [show (Iv 42) = nI b9 from hbk]
                  refine lv_aload_n hx hb dX14_isLike_362 rfl (lv_at hl 2 rfl) ?_
                  refine mm_get (v := .ref (Ar 25)) hx hb hf_X14 (fun _ h9 => h9) hown hK hG hM.1 rfl 25 (by decide) (tb_use hT tw_1416) (fun _ h9 => h9) (mfs_g25 _ _) dX14_isLike_363 ?_
                  refine lv_sipush (v := 128) hx hb dX14_isLike_366 (by decide) ?_
                  refine lv_aload_n hx hb dX14_isLike_369 rfl (lv_at hl 2 rfl) ?_
                  refine mm_get (v := .int (Iv 42)) hx hb hf_X14 (fun _ h9 => h9) hown hK hG hM.1 rfl 42 (by decide) (tb_use hT tw_1433) (fun _ h9 => h9) (mfs_g42 _ _) dX14_isLike_370 ?_
                  rw [show (Iv 42) = nI b9 from hbk]
                  refine lv_imul hx hb dX14_isLike_373 ?_
                  refine lv_iload hx hb dX14_isLike_374 (lv_at hl 1 rfl) ?_
                  refine lv_iadd hx hb dX14_isLike_376 ?_
                  refine mm_iald (n := 256) (f := F 25) hx hb hK hG 1 (hM.2.1 25 rfl) rfl (by rw [show (128 : Int32) * nI b9 + nI (8 * s9 + j9) = nI (128 * b9 + (8 * s9 + j9)) from nI_ma 128 b9 (8 * s9 + j9)]; exact nI_in (N := 256) (by omega) (by decide)) dX14_isLike_377 ?_
                  refine lv_topi (fun x19 ex19 => ?_)
                  refine va_calli (va_runV (As := [.int (nI b9), .int x19]) (rest := [.ref o]) ⟨hx, hb, hml, hown, (fun _ h9 => absurd h9 List.not_mem_nil : ∀ w ∈ ([] : List Cond), w.before _ s = true)⟩ (c_M_codingAt l D cy A X hst hXT Gv o Ar Iv F L b9 v9.nC x19 hM hb9 hB.1.1 hB.1.2.1) (tb_cw (C := RX14) 2 hT tw_1782 tw_109 tw_1779 tw_1781 tw_89 rfl rfl hq_X14_codingAt ⟨Nat.le_of_ble_eq_true rfl, Nat.le_of_ble_eq_true rfl⟩) (mk_preC hst hG hK hA hX hS vc_15 hM.1) rfl rfl hl.1 rfl (lv_room (Nat.le_of_ble_eq_true rfl)) dX14_isLike_378 ⟨Nat.le_of_ble_eq_true rfl, Nat.le_of_ble_eq_true rfl⟩) hS (fun q _ h => h) (fun q h => h) (fun r20 G21 t H locs ht hvm hw hB hz1 hk1 hS => ?_)
                  have hG : mm D vwCl A G21 H := by rw [← ht]; exact hB
                  clear hB hz1 hk1 hvm ht
                  obtain ⟨er20, hw⟩ := hw
                  rw [hw] at hG
                  obtain ⟨ca9, hca9, hcal⟩ := hVL.cd hp8 hs hja
                  rw [show r20 = nI ca9 by rw [er20, show x19 = F 25 (128 * b9 + (8 * s9 + j9)) by rw [ex19, show (128 : Int32) * nI b9 + nI (8 * s9 + j9) = nI (128 * b9 + (8 * s9 + j9)) from nI_ma 128 b9 (8 * s9 + j9), nI_clamp (by omega)]]; exact (hB.1.at (by omega) hpa.2.1).trans (by rw [hca9])]
                  refine lv_aload_n hx hb dX14_isLike_381 rfl (lv_at hl 2 rfl) ?_
                  refine lv_aload_n hx hb dX14_isLike_382 rfl (lv_at hl 2 rfl) ?_
                  refine mm_get (v := .int (Iv 41)) hx hb hf_X14 (fun _ h9 => h9) hown hK hG hM.1 rfl 41 (by decide) (tb_use hT tw_1432) (fun _ h9 => h9) (mfs_g41 _ _) dX14_isLike_383 ?_
                  rw [show (Iv 41) = nI d9 from h41]
                  refine lv_aload_n hx hb dX14_isLike_386 rfl (lv_at hl 2 rfl) ?_
                  refine mm_get (v := .ref (Ar 25)) hx hb hf_X14 (fun _ h9 => h9) hown hK hG hM.1 rfl 25 (by decide) (tb_use hT tw_1416) (fun _ h9 => h9) (mfs_g25 _ _) dX14_isLike_387 ?_
                  refine lv_sipush (v := 128) hx hb dX14_isLike_390 (by decide) ?_
                  refine lv_aload_n hx hb dX14_isLike_393 rfl (lv_at hl 2 rfl) ?_
                  refine mm_get (v := .int (Iv 41)) hx hb hf_X14 (fun _ h9 => h9) hown hK hG hM.1 rfl 41 (by decide) (tb_use hT tw_1432) (fun _ h9 => h9) (mfs_g41 _ _) dX14_isLike_394 ?_
                  rw [show (Iv 41) = nI d9 from h41]
                  refine lv_imul hx hb dX14_isLike_397 ?_
                  refine lv_iload hx hb dX14_isLike_398 (lv_at hl 0 rfl) ?_
                  refine lv_iadd hx hb dX14_isLike_400 ?_
                  refine mm_iald (n := 256) (f := F 25) hx hb hK hG 1 (hM.2.1 25 rfl) rfl (by rw [show (128 : Int32) * nI d9 + nI (8 * t9 + j9) = nI (128 * d9 + (8 * t9 + j9)) from nI_ma 128 d9 (8 * t9 + j9)]; exact nI_in (N := 256) (by omega) (by decide)) dX14_isLike_401 ?_
                  refine lv_topi (fun x22 ex22 => ?_)
                  refine va_calli (va_runV (As := [.int (nI d9), .int x22]) (rest := [.int (nI ca9), .ref o]) ⟨hx, hb, hml, hown, (fun _ h9 => absurd h9 List.not_mem_nil : ∀ w ∈ ([] : List Cond), w.before _ s = true)⟩ (c_M_codingAt l D cy A X hst hXT Gv o Ar Iv F L d9 u9.nC x22 hM hd9 hD.1.1 hD.1.2.1) (tb_cw (C := RX14) 2 hT tw_1782 tw_109 tw_1779 tw_1781 tw_89 rfl rfl hq_X14_codingAt ⟨Nat.le_of_ble_eq_true rfl, Nat.le_of_ble_eq_true rfl⟩) (mk_preC hst hG hK hA hX hS vc_15 hM.1) rfl rfl hl.1 rfl (lv_room (Nat.le_of_ble_eq_true rfl)) dX14_isLike_402 ⟨Nat.le_of_ble_eq_true rfl, Nat.le_of_ble_eq_true rfl⟩) hS (fun q _ h => h) (fun q h => h) (fun r23 G24 t H locs ht hvm hw hB hz1 hk1 hS => ?_)
                  have hG : mm D vwCl A G24 H := by rw [← ht]; exact hB
                  clear hB hz1 hk1 hvm ht
                  obtain ⟨er23, hw⟩ := hw
                  rw [hw] at hG
                  obtain ⟨cc9, hcc9, hccl⟩ := hVU.cd hq8 ht hjc
                  rw [show r23 = nI cc9 by rw [er23, show x22 = F 25 (128 * d9 + (8 * t9 + j9)) by rw [ex22, show (128 : Int32) * nI d9 + nI (8 * t9 + j9) = nI (128 * d9 + (8 * t9 + j9)) from nI_ma 128 d9 (8 * t9 + j9), nI_clamp (by omega)]]; exact (hD.1.at (by omega) hpc.2.1).trans (by rw [hcc9])]
                  refine va_calli (va_runV (As := [.int (nI ca9), .int (nI cc9)]) (rest := []) ⟨hx, hb, hml, hown, (fun _ h9 => absurd h9 List.not_mem_nil : ∀ w ∈ ([] : List Cond), w.before _ s = true)⟩ (c_M_isCodingLike l D cy A X hst hXT Gv o Ar Iv F L b9 d9 n9 n8 K9 K8 V9 V8 v9 u9 ca9 cc9 hM hb9 hd9 hbk h41 hB hD hn9 hn8 hm9 hm8 hNL hcal hccl) (tb_cw (C := RX14) 2 hT tw_1890 tw_109 tw_1887 tw_1889 tw_103 rfl rfl hq_X14_isCodingLike ⟨Nat.le_of_ble_eq_true rfl, Nat.le_of_ble_eq_true rfl⟩) (mk_preC hst hG hK hA hX hS vc_15 hM.1) rfl rfl hl.1 rfl (lv_room (Nat.le_of_ble_eq_true rfl)) dX14_isLike_405 ⟨Nat.le_of_ble_eq_true rfl, Nat.le_of_ble_eq_true rfl⟩) hS (fun q _ h => h) (fun q h => h) (fun r25 G26 t H locs ht hvm hw hB hz1 hk1 hS => ?_)
                  have hG : mm D vwCl A G26 H := by rw [← ht]; exact hB
                  clear hB hz1 hk1 hvm ht
                  obtain ⟨h_r25, hw⟩ := hw
                  rw [hw] at hG
                  refine lv_if_eq (tgt := 415) hx hb dX14_isLike_408 (by decide) (fun c_408 => ?_) (fun c_408 => ?_)
                  · skip
                    refine lv_iconst (v := 0) hx hb dX14_isLike_415 (by decide) ?_
                    refine lv_istore_n (lv' := [(3, .int 0), (6, .int (nI (8 * t9 + j9))), (5, .int (nI (8 * s9 + j9))), (0, .ref o), (1, .int (nI s9)), (2, .int (nI t9)), (4, .int (nI j9))]) hx hb dX14_isLike_416 rfl hl (by decide) rfl (fun ls hl => ?_)
                    obtain ⟨x27, ex27⟩ : ∃ y : Int32, y = (nI j9) + 1 := ⟨_, rfl⟩
                    refine lv_iinc (v := x27) (lv' := [(4, .int x27), (3, .int 0), (6, .int (nI (8 * t9 + j9))), (5, .int (nI (8 * s9 + j9))), (0, .ref o), (1, .int (nI s9)), (2, .int (nI t9))]) hx hb dX14_isLike_417 hl (k := 6) rfl (by rw [ex27]; rfl) (by decide) rfl (fun ls hl => ?_)
                    refine lv_goto (tgt := 167) hx hb dX14_isLike_420 (by decide) ?_
                    rw [show x27 = nI (j9 + 1) by rw [ex27]; exact (nI_succ j9).symm] at hl
                    exact ih (j9 + 1) 0 (by omega) (Or.inl rfl) (fun _ => hsm c_187) Gv hM hGe _ _ hG hS ls (lv_sub hl [4, 5, 6, 1, 0] rfl)
                  · skip
                    refine lv_iconst (v := 1) hx hb dX14_isLike_411 (by decide) ?_
                    refine lv_goto (tgt := 416) hx hb dX14_isLike_412 (by decide) ?_
                    refine lv_istore_n (lv' := [(3, .int 1), (6, .int (nI (8 * t9 + j9))), (5, .int (nI (8 * s9 + j9))), (0, .ref o), (1, .int (nI s9)), (2, .int (nI t9)), (4, .int (nI j9))]) hx hb dX14_isLike_416 rfl hl (by decide) rfl (fun ls hl => ?_)
                    obtain ⟨x28, ex28⟩ : ∃ y : Int32, y = (nI j9) + 1 := ⟨_, rfl⟩
                    refine lv_iinc (v := x28) (lv' := [(4, .int x28), (3, .int 1), (6, .int (nI (8 * t9 + j9))), (5, .int (nI (8 * s9 + j9))), (0, .ref o), (1, .int (nI s9)), (2, .int (nI t9))]) hx hb dX14_isLike_417 hl (k := 6) rfl (by rw [ex28]; rfl) (by decide) rfl (fun ls hl => ?_)
                    refine lv_goto (tgt := 167) hx hb dX14_isLike_420 (by decide) ?_
                    rw [show x28 = nI (j9 + 1) by rw [ex28]; exact (nI_succ j9).symm] at hl
                    exact ih (j9 + 1) 1 (by omega) (Or.inr rfl) (fun _ => hsm c_187) Gv hM hGe _ _ hG hS ls (lv_sub hl [4, 5, 6, 1, 0] rfl)
  refine lv_aload_n hx hb dX14_isLike_0 rfl (lv_at hl 0 rfl) ?_
  refine lv_aload_n hx hb dX14_isLike_1 rfl (lv_at hl 0 rfl) ?_
  refine mm_get (v := .ref (Ar 20)) hx hb hf_X14 (fun _ h9 => h9) hown hK hG hM.1 rfl 20 (by decide) (tb_use hT tw_1411) (fun _ h9 => h9) (mfs_g20 _ _) dX14_isLike_2 ?_
  refine lv_bipush (v := 16) hx hb dX14_isLike_5 (by decide) ?_
  refine lv_aload_n hx hb dX14_isLike_7 rfl (lv_at hl 0 rfl) ?_
  refine mm_get (v := .int (Iv 42)) hx hb hf_X14 (fun _ h9 => h9) hown hK hG hM.1 rfl 42 (by decide) (tb_use hT tw_1433) (fun _ h9 => h9) (mfs_g42 _ _) dX14_isLike_8 ?_
  rw [show (Iv 42) = nI b9 from hbk]
  refine lv_imul hx hb dX14_isLike_11 ?_
  refine lv_iload_n hx hb dX14_isLike_12 rfl (lv_at hl 1 rfl) ?_
  refine lv_iadd hx hb dX14_isLike_13 ?_
  refine mm_iald (n := 32) (f := F 20) hx hb hK hG 1 (hM.2.1 20 rfl) rfl (by rw [show (16 : Int32) * nI b9 + nI s9 = nI (16 * b9 + s9) from nI_ma 16 b9 s9]; exact nI_in (N := 32) (by omega) (by decide)) dX14_isLike_14 ?_
  refine lv_topi (fun x29 ex29 => ?_)
  refine lv_aload_n hx hb dX14_isLike_15 rfl (lv_at hl 0 rfl) ?_
  refine mm_get (v := .ref (Ar 20)) hx hb hf_X14 (fun _ h9 => h9) hown hK hG hM.1 rfl 20 (by decide) (tb_use hT tw_1411) (fun _ h9 => h9) (mfs_g20 _ _) dX14_isLike_16 ?_
  refine lv_bipush (v := 16) hx hb dX14_isLike_19 (by decide) ?_
  refine lv_aload_n hx hb dX14_isLike_21 rfl (lv_at hl 0 rfl) ?_
  refine mm_get (v := .int (Iv 41)) hx hb hf_X14 (fun _ h9 => h9) hown hK hG hM.1 rfl 41 (by decide) (tb_use hT tw_1432) (fun _ h9 => h9) (mfs_g41 _ _) dX14_isLike_22 ?_
  rw [show (Iv 41) = nI d9 from h41]
  refine lv_imul hx hb dX14_isLike_25 ?_
  refine lv_iload_n hx hb dX14_isLike_26 rfl (lv_at hl 2 rfl) ?_
  refine lv_iadd hx hb dX14_isLike_27 ?_
  refine mm_iald (n := 32) (f := F 20) hx hb hK hG 1 (hM.2.1 20 rfl) rfl (by rw [show (16 : Int32) * nI d9 + nI t9 = nI (16 * d9 + t9) from nI_ma 16 d9 t9]; exact nI_in (N := 32) (by omega) (by decide)) dX14_isLike_28 ?_
  refine lv_topi (fun x30 ex30 => ?_)
  obtain ⟨p9, hp1, hp2, -⟩ := NMt.nb hsa.1 hn9
  obtain ⟨q9, hq1, hq2, hq3⟩ := NMt.nb hsc.1 hn8
  rw [show x29 = nI p9 by rw [ex29, show (16 : Int32) * nI b9 + nI s9 = nI (16 * b9 + s9) from nI_ma 16 b9 s9, nI_clamp (by omega)]; exact hp2, show x30 = nI q9 by rw [ex30, show (16 : Int32) * nI d9 + nI t9 = nI (16 * d9 + t9) from nI_ma 16 d9 t9, nI_clamp (by omega)]; exact hq2]
  refine va_calli (va_runV (As := [.int (nI p9), .int (nI q9)]) (rest := []) ⟨hx, hb, hml, hown, (fun _ h9 => absurd h9 List.not_mem_nil : ∀ w ∈ ([] : List Cond), w.before _ s = true)⟩ (c_M_isNamed l D cy A X hst hXT G o Ar Iv F L b9 d9 p9 q9 (ntL K8 V8 n8).1 hM hb9 hd9 hbk h41 hp1 hq1 hq3 hNL) (tb_cw (C := RX14) 2 hT tw_1886 tw_109 tw_1883 tw_1885 tw_102 rfl rfl hq_X14_isNamed ⟨Nat.le_of_ble_eq_true rfl, Nat.le_of_ble_eq_true rfl⟩) (mk_preC hst hG hK hA hX hS vc_15 hM.1) rfl rfl hl.1 rfl (lv_room (Nat.le_of_ble_eq_true rfl)) dX14_isLike_29 ⟨Nat.le_of_ble_eq_true rfl, Nat.le_of_ble_eq_true rfl⟩) hS (fun q _ h => h) (fun q h => h) (fun r31 G32 t H locs ht hvm hw hB hz1 hk1 hS => ?_)
  have hG : mm D vwCl A G32 H := by rw [← ht]; exact hB
  clear hB hz1 hk1 hvm ht
  obtain ⟨h_r31, hw⟩ := hw
  rw [hw] at hG
  refine lv_if_eq (tgt := 162) hx hb dX14_isLike_32 (by decide) (fun c_32 => ?_) (fun c_32 => ?_)
  · skip
    refine lv_iconst (v := 0) hx hb dX14_isLike_162 (by decide) ?_
    refine lv_istore_n (lv' := [(3, .int 0), (0, .ref o), (1, .int (nI s9)), (2, .int (nI t9))]) hx hb dX14_isLike_163 rfl hl (by decide) rfl (fun ls hl => ?_)
    refine lv_iconst (v := 0) hx hb dX14_isLike_164 (by decide) ?_
    refine lv_istore (lv' := [(4, .int 0), (3, .int 0), (0, .ref o), (1, .int (nI s9)), (2, .int (nI t9))]) hx hb dX14_isLike_165 hl (by decide) rfl (fun ls hl => ?_)
    exact hll 8 0 0 (by omega) (Or.inl rfl) (fun z => absurd rfl z) G hM rfl _ _ hG hS ls (lv_sub hl [2, 3, 4, 1, 0] rfl)
  · skip
    refine lv_aload_n hx hb dX14_isLike_35 rfl (lv_at hl 0 rfl) ?_
    refine mm_get (v := .ref (Ar 21)) hx hb hf_X14 (fun _ h9 => h9) hown hK hG hM.1 rfl 21 (by decide) (tb_use hT tw_1412) (fun _ h9 => h9) (mfs_g21 _ _) dX14_isLike_36 ?_
    refine lv_bipush (v := 16) hx hb dX14_isLike_39 (by decide) ?_
    refine lv_aload_n hx hb dX14_isLike_41 rfl (lv_at hl 0 rfl) ?_
    refine mm_get (v := .int (Iv 42)) hx hb hf_X14 (fun _ h9 => h9) hown hK hG hM.1 rfl 42 (by decide) (tb_use hT tw_1433) (fun _ h9 => h9) (mfs_g42 _ _) dX14_isLike_42 ?_
    rw [show (Iv 42) = nI b9 from hbk]
    refine lv_imul hx hb dX14_isLike_45 ?_
    refine lv_iload_n hx hb dX14_isLike_46 rfl (lv_at hl 1 rfl) ?_
    refine lv_iadd hx hb dX14_isLike_47 ?_
    refine mm_iald (n := 32) (f := F 21) hx hb hK hG 1 (hM.2.1 21 rfl) rfl (by rw [show (16 : Int32) * nI b9 + nI s9 = nI (16 * b9 + s9) from nI_ma 16 b9 s9]; exact nI_in (N := 32) (by omega) (by decide)) dX14_isLike_48 ?_
    refine lv_topi (fun x33 ex33 => ?_)
    refine lv_aload_n hx hb dX14_isLike_49 rfl (lv_at hl 0 rfl) ?_
    refine mm_get (v := .ref (Ar 21)) hx hb hf_X14 (fun _ h9 => h9) hown hK hG hM.1 rfl 21 (by decide) (tb_use hT tw_1412) (fun _ h9 => h9) (mfs_g21 _ _) dX14_isLike_50 ?_
    refine lv_bipush (v := 16) hx hb dX14_isLike_53 (by decide) ?_
    refine lv_aload_n hx hb dX14_isLike_55 rfl (lv_at hl 0 rfl) ?_
    refine mm_get (v := .int (Iv 41)) hx hb hf_X14 (fun _ h9 => h9) hown hK hG hM.1 rfl 41 (by decide) (tb_use hT tw_1432) (fun _ h9 => h9) (mfs_g41 _ _) dX14_isLike_56 ?_
    rw [show (Iv 41) = nI d9 from h41]
    refine lv_imul hx hb dX14_isLike_59 ?_
    refine lv_iload_n hx hb dX14_isLike_60 rfl (lv_at hl 2 rfl) ?_
    refine lv_iadd hx hb dX14_isLike_61 ?_
    refine mm_iald (n := 32) (f := F 21) hx hb hK hG 1 (hM.2.1 21 rfl) rfl (by rw [show (16 : Int32) * nI d9 + nI t9 = nI (16 * d9 + t9) from nI_ma 16 d9 t9]; exact nI_in (N := 32) (by omega) (by decide)) dX14_isLike_62 ?_
    refine lv_topi (fun x34 ex34 => ?_)
    refine lv_icmp_ne (tgt := 162) hx hb dX14_isLike_63 (by decide) (fun c_63 => ?_) (fun c_63 => ?_)
    · skip
      refine lv_iconst (v := 0) hx hb dX14_isLike_162 (by decide) ?_
      refine lv_istore_n (lv' := [(3, .int 0), (0, .ref o), (1, .int (nI s9)), (2, .int (nI t9))]) hx hb dX14_isLike_163 rfl hl (by decide) rfl (fun ls hl => ?_)
      refine lv_iconst (v := 0) hx hb dX14_isLike_164 (by decide) ?_
      refine lv_istore (lv' := [(4, .int 0), (3, .int 0), (0, .ref o), (1, .int (nI s9)), (2, .int (nI t9))]) hx hb dX14_isLike_165 hl (by decide) rfl (fun ls hl => ?_)
      exact hll 8 0 0 (by omega) (Or.inl rfl) (fun z => absurd rfl z) G hM rfl _ _ hG hS ls (lv_sub hl [2, 3, 4, 1, 0] rfl)
    · skip
      refine lv_aload_n hx hb dX14_isLike_66 rfl (lv_at hl 0 rfl) ?_
      refine lv_aload_n hx hb dX14_isLike_67 rfl (lv_at hl 0 rfl) ?_
      refine mm_get (v := .ref (Ar 18)) hx hb hf_X14 (fun _ h9 => h9) hown hK hG hM.1 rfl 18 (by decide) (tb_use hT tw_1409) (fun _ h9 => h9) (mfs_g18 _ _) dX14_isLike_68 ?_
      refine lv_bipush (v := 6) hx hb dX14_isLike_71 (by decide) ?_
      refine lv_aload_n hx hb dX14_isLike_73 rfl (lv_at hl 0 rfl) ?_
      refine mm_get (v := .int (Iv 42)) hx hb hf_X14 (fun _ h9 => h9) hown hK hG hM.1 rfl 42 (by decide) (tb_use hT tw_1433) (fun _ h9 => h9) (mfs_g42 _ _) dX14_isLike_74 ?_
      rw [show (Iv 42) = nI b9 from hbk]
      refine lv_imul hx hb dX14_isLike_77 ?_
      refine lv_aload_n hx hb dX14_isLike_78 rfl (lv_at hl 0 rfl) ?_
      refine mm_get (v := .ref (Ar 22)) hx hb hf_X14 (fun _ h9 => h9) hown hK hG hM.1 rfl 22 (by decide) (tb_use hT tw_1413) (fun _ h9 => h9) (mfs_g22 _ _) dX14_isLike_79 ?_
      refine lv_bipush (v := 16) hx hb dX14_isLike_82 (by decide) ?_
      refine lv_aload_n hx hb dX14_isLike_84 rfl (lv_at hl 0 rfl) ?_
      refine mm_get (v := .int (Iv 42)) hx hb hf_X14 (fun _ h9 => h9) hown hK hG hM.1 rfl 42 (by decide) (tb_use hT tw_1433) (fun _ h9 => h9) (mfs_g42 _ _) dX14_isLike_85 ?_
      rw [show (Iv 42) = nI b9 from hbk]
      refine lv_imul hx hb dX14_isLike_88 ?_
      refine lv_iload_n hx hb dX14_isLike_89 rfl (lv_at hl 1 rfl) ?_
      refine lv_iadd hx hb dX14_isLike_90 ?_
      refine mm_iald (n := 32) (f := F 22) hx hb hK hG 1 (hM.2.1 22 rfl) rfl (by rw [show (16 : Int32) * nI b9 + nI s9 = nI (16 * b9 + s9) from nI_ma 16 b9 s9]; exact nI_in (N := 32) (by omega) (by decide)) dX14_isLike_91 ?_
      refine lv_topi (fun x35 ex35 => ?_)
      rw [show x35 = nI (v9.S s9).1 by rw [ex35, show (16 : Int32) * nI b9 + nI s9 = nI (16 * b9 + s9) from nI_ma 16 b9 s9, nI_clamp (by omega)]; exact hsa.2.2.1]
      refine lv_iadd hx hb dX14_isLike_92 ?_
      refine mm_iald (n := 12) (f := F 18) hx hb hK hG 1 (hM.2.1 18 rfl) rfl (by rw [show (6 : Int32) * nI b9 + nI (v9.S s9).1 = nI (6 * b9 + (v9.S s9).1) from nI_ma 6 b9 (v9.S s9).1]; exact nI_in (N := 12) (by omega) (by decide)) dX14_isLike_93 ?_
      refine lv_topi (fun x36 ex36 => ?_)
      refine lv_aload_n hx hb dX14_isLike_94 rfl (lv_at hl 0 rfl) ?_
      refine mm_get (v := .ref (Ar 18)) hx hb hf_X14 (fun _ h9 => h9) hown hK hG hM.1 rfl 18 (by decide) (tb_use hT tw_1409) (fun _ h9 => h9) (mfs_g18 _ _) dX14_isLike_95 ?_
      refine lv_bipush (v := 6) hx hb dX14_isLike_98 (by decide) ?_
      refine lv_aload_n hx hb dX14_isLike_100 rfl (lv_at hl 0 rfl) ?_
      refine mm_get (v := .int (Iv 41)) hx hb hf_X14 (fun _ h9 => h9) hown hK hG hM.1 rfl 41 (by decide) (tb_use hT tw_1432) (fun _ h9 => h9) (mfs_g41 _ _) dX14_isLike_101 ?_
      rw [show (Iv 41) = nI d9 from h41]
      refine lv_imul hx hb dX14_isLike_104 ?_
      refine lv_aload_n hx hb dX14_isLike_105 rfl (lv_at hl 0 rfl) ?_
      refine mm_get (v := .ref (Ar 22)) hx hb hf_X14 (fun _ h9 => h9) hown hK hG hM.1 rfl 22 (by decide) (tb_use hT tw_1413) (fun _ h9 => h9) (mfs_g22 _ _) dX14_isLike_106 ?_
      refine lv_bipush (v := 16) hx hb dX14_isLike_109 (by decide) ?_
      refine lv_aload_n hx hb dX14_isLike_111 rfl (lv_at hl 0 rfl) ?_
      refine mm_get (v := .int (Iv 41)) hx hb hf_X14 (fun _ h9 => h9) hown hK hG hM.1 rfl 41 (by decide) (tb_use hT tw_1432) (fun _ h9 => h9) (mfs_g41 _ _) dX14_isLike_112 ?_
      rw [show (Iv 41) = nI d9 from h41]
      refine lv_imul hx hb dX14_isLike_115 ?_
      refine lv_iload_n hx hb dX14_isLike_116 rfl (lv_at hl 2 rfl) ?_
      refine lv_iadd hx hb dX14_isLike_117 ?_
      refine mm_iald (n := 32) (f := F 22) hx hb hK hG 1 (hM.2.1 22 rfl) rfl (by rw [show (16 : Int32) * nI d9 + nI t9 = nI (16 * d9 + t9) from nI_ma 16 d9 t9]; exact nI_in (N := 32) (by omega) (by decide)) dX14_isLike_118 ?_
      refine lv_topi (fun x37 ex37 => ?_)
      rw [show x37 = nI (u9.S t9).1 by rw [ex37, show (16 : Int32) * nI d9 + nI t9 = nI (16 * d9 + t9) from nI_ma 16 d9 t9, nI_clamp (by omega)]; exact hsc.2.2.1]
      refine lv_iadd hx hb dX14_isLike_119 ?_
      refine mm_iald (n := 12) (f := F 18) hx hb hK hG 1 (hM.2.1 18 rfl) rfl (by rw [show (6 : Int32) * nI d9 + nI (u9.S t9).1 = nI (6 * d9 + (u9.S t9).1) from nI_ma 6 d9 (u9.S t9).1]; exact nI_in (N := 12) (by omega) (by decide)) dX14_isLike_120 ?_
      refine lv_topi (fun x38 ex38 => ?_)
      obtain ⟨p9, hp1, hp2, -⟩ := NMt.nb hla hn9
      obtain ⟨q9, hq1, hq2, hq3⟩ := NMt.nb hlc hn8
      rw [show x36 = nI p9 by rw [ex36, show (6 : Int32) * nI b9 + nI (v9.S s9).1 = nI (6 * b9 + (v9.S s9).1) from nI_ma 6 b9 (v9.S s9).1, nI_clamp (by omega)]; exact hp2, show x38 = nI q9 by rw [ex38, show (6 : Int32) * nI d9 + nI (u9.S t9).1 = nI (6 * d9 + (u9.S t9).1) from nI_ma 6 d9 (u9.S t9).1, nI_clamp (by omega)]; exact hq2]
      refine va_calli (va_runV (As := [.int (nI p9), .int (nI q9)]) (rest := []) ⟨hx, hb, hml, hown, (fun _ h9 => absurd h9 List.not_mem_nil : ∀ w ∈ ([] : List Cond), w.before _ s = true)⟩ (c_M_isNamed l D cy A X hst hXT G o Ar Iv F L b9 d9 p9 q9 (ntL K8 V8 n8).1 hM hb9 hd9 hbk h41 hp1 hq1 hq3 hNL) (tb_cw (C := RX14) 2 hT tw_1886 tw_109 tw_1883 tw_1885 tw_102 rfl rfl hq_X14_isNamed ⟨Nat.le_of_ble_eq_true rfl, Nat.le_of_ble_eq_true rfl⟩) (mk_preC hst hG hK hA hX hS vc_15 hM.1) rfl rfl hl.1 rfl (lv_room (Nat.le_of_ble_eq_true rfl)) dX14_isLike_121 ⟨Nat.le_of_ble_eq_true rfl, Nat.le_of_ble_eq_true rfl⟩) hS (fun q _ h => h) (fun q h => h) (fun r39 G40 t H locs ht hvm hw hB hz1 hk1 hS => ?_)
      have hG : mm D vwCl A G40 H := by rw [← ht]; exact hB
      clear hB hz1 hk1 hvm ht
      obtain ⟨h_r39, hw⟩ := hw
      rw [hw] at hG
      refine lv_if_eq (tgt := 162) hx hb dX14_isLike_124 (by decide) (fun c_124 => ?_) (fun c_124 => ?_)
      · skip
        refine lv_iconst (v := 0) hx hb dX14_isLike_162 (by decide) ?_
        refine lv_istore_n (lv' := [(3, .int 0), (0, .ref o), (1, .int (nI s9)), (2, .int (nI t9))]) hx hb dX14_isLike_163 rfl hl (by decide) rfl (fun ls hl => ?_)
        refine lv_iconst (v := 0) hx hb dX14_isLike_164 (by decide) ?_
        refine lv_istore (lv' := [(4, .int 0), (3, .int 0), (0, .ref o), (1, .int (nI s9)), (2, .int (nI t9))]) hx hb dX14_isLike_165 hl (by decide) rfl (fun ls hl => ?_)
        exact hll 8 0 0 (by omega) (Or.inl rfl) (fun z => absurd rfl z) G hM rfl _ _ hG hS ls (lv_sub hl [2, 3, 4, 1, 0] rfl)
      · skip
        refine lv_aload_n hx hb dX14_isLike_127 rfl (lv_at hl 0 rfl) ?_
        refine mm_get (v := .ref (Ar 23)) hx hb hf_X14 (fun _ h9 => h9) hown hK hG hM.1 rfl 23 (by decide) (tb_use hT tw_1414) (fun _ h9 => h9) (mfs_g23 _ _) dX14_isLike_128 ?_
        refine lv_bipush (v := 16) hx hb dX14_isLike_131 (by decide) ?_
        refine lv_aload_n hx hb dX14_isLike_133 rfl (lv_at hl 0 rfl) ?_
        refine mm_get (v := .int (Iv 42)) hx hb hf_X14 (fun _ h9 => h9) hown hK hG hM.1 rfl 42 (by decide) (tb_use hT tw_1433) (fun _ h9 => h9) (mfs_g42 _ _) dX14_isLike_134 ?_
        rw [show (Iv 42) = nI b9 from hbk]
        refine lv_imul hx hb dX14_isLike_137 ?_
        refine lv_iload_n hx hb dX14_isLike_138 rfl (lv_at hl 1 rfl) ?_
        refine lv_iadd hx hb dX14_isLike_139 ?_
        refine mm_iald (n := 32) (f := F 23) hx hb hK hG 1 (hM.2.1 23 rfl) rfl (by rw [show (16 : Int32) * nI b9 + nI s9 = nI (16 * b9 + s9) from nI_ma 16 b9 s9]; exact nI_in (N := 32) (by omega) (by decide)) dX14_isLike_140 ?_
        refine lv_topi (fun x41 ex41 => ?_)
        refine lv_aload_n hx hb dX14_isLike_141 rfl (lv_at hl 0 rfl) ?_
        refine mm_get (v := .ref (Ar 23)) hx hb hf_X14 (fun _ h9 => h9) hown hK hG hM.1 rfl 23 (by decide) (tb_use hT tw_1414) (fun _ h9 => h9) (mfs_g23 _ _) dX14_isLike_142 ?_
        refine lv_bipush (v := 16) hx hb dX14_isLike_145 (by decide) ?_
        refine lv_aload_n hx hb dX14_isLike_147 rfl (lv_at hl 0 rfl) ?_
        refine mm_get (v := .int (Iv 41)) hx hb hf_X14 (fun _ h9 => h9) hown hK hG hM.1 rfl 41 (by decide) (tb_use hT tw_1432) (fun _ h9 => h9) (mfs_g41 _ _) dX14_isLike_148 ?_
        rw [show (Iv 41) = nI d9 from h41]
        refine lv_imul hx hb dX14_isLike_151 ?_
        refine lv_iload_n hx hb dX14_isLike_152 rfl (lv_at hl 2 rfl) ?_
        refine lv_iadd hx hb dX14_isLike_153 ?_
        refine mm_iald (n := 32) (f := F 23) hx hb hK hG 1 (hM.2.1 23 rfl) rfl (by rw [show (16 : Int32) * nI d9 + nI t9 = nI (16 * d9 + t9) from nI_ma 16 d9 t9]; exact nI_in (N := 32) (by omega) (by decide)) dX14_isLike_154 ?_
        refine lv_topi (fun x42 ex42 => ?_)
        refine lv_icmp_ne (tgt := 162) hx hb dX14_isLike_155 (by decide) (fun c_155 => ?_) (fun c_155 => ?_)
        · skip
          refine lv_iconst (v := 0) hx hb dX14_isLike_162 (by decide) ?_
          refine lv_istore_n (lv' := [(3, .int 0), (0, .ref o), (1, .int (nI s9)), (2, .int (nI t9))]) hx hb dX14_isLike_163 rfl hl (by decide) rfl (fun ls hl => ?_)
          refine lv_iconst (v := 0) hx hb dX14_isLike_164 (by decide) ?_
          refine lv_istore (lv' := [(4, .int 0), (3, .int 0), (0, .ref o), (1, .int (nI s9)), (2, .int (nI t9))]) hx hb dX14_isLike_165 hl (by decide) rfl (fun ls hl => ?_)
          exact hll 8 0 0 (by omega) (Or.inl rfl) (fun z => absurd rfl z) G hM rfl _ _ hG hS ls (lv_sub hl [2, 3, 4, 1, 0] rfl)
        · skip
          refine lv_iconst (v := 1) hx hb dX14_isLike_158 (by decide) ?_
          refine lv_goto (tgt := 163) hx hb dX14_isLike_159 (by decide) ?_
          refine lv_istore_n (lv' := [(3, .int 1), (0, .ref o), (1, .int (nI s9)), (2, .int (nI t9))]) hx hb dX14_isLike_163 rfl hl (by decide) rfl (fun ls hl => ?_)
          refine lv_iconst (v := 0) hx hb dX14_isLike_164 (by decide) ?_
          refine lv_istore (lv' := [(4, .int 0), (3, .int 1), (0, .ref o), (1, .int (nI s9)), (2, .int (nI t9))]) hx hb dX14_isLike_165 hl (by decide) rfl (fun ls hl => ?_)
          have hnn : v9.nP s9 = u9.nP t9 := nI_inj (by omega) (by omega) (by have z := c_155; rw [ex41, ex42, show (16 : Int32) * nI b9 + nI s9 = nI (16 * b9 + s9) from nI_ma 16 b9 s9, show (16 : Int32) * nI d9 + nI t9 = nI (16 * d9 + t9) from nI_ma 16 d9 t9, nI_clamp (by omega), nI_clamp (by omega), hsa.2.2.2.1, hsc.2.2.2.1] at z; exact z)
          exact hll 8 0 1 (by omega) (Or.inr rfl) (fun _ => hnn) G hM rfl _ _ hG hS ls (lv_sub hl [2, 3, 4, 1, 0] rfl)
