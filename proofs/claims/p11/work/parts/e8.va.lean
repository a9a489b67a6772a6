theorem isV_t {v : EdV} {k : Nat} : ∀ {n j : Nat}, isV v k n j = true → ∃ i, j ≤ i ∧ i < j + n ∧ lyN v (v.V i).2.2.1 = some k := by
  intro n
  induction n with
  | zero => intro j h; cases h
  | succ n ih =>
    intro j h
    rw [isV] at h
    split at h
    · rename_i e
      exact ⟨j, Nat.le_refl j, by omega, e⟩
    · obtain ⟨i, a, b, c⟩ := ih h
      exact ⟨i, by omega, by omega, c⟩
theorem isV_f {v : EdV} {k : Nat} : ∀ {n j : Nat}, isV v k n j = false → ∀ i, j ≤ i → i < j + n → ¬ lyN v (v.V i).2.2.1 = some k := by
  intro n
  induction n with
  | zero => intro j _ i a b; omega
  | succ n ih =>
    intro j h i a b
    rw [isV] at h
    split at h
    · cases h
    · rename_i e
      by_cases u : i = j
      · rw [u]; exact e
      · exact ih h i (by omega) (by omega)
theorem isV_any {v : EdV} {k n : Nat} : isV v k n 0 = anyF (fun i => decide (lyN v (v.V i).2.2.1 = some k)) n := by
  cases hq : anyF (fun i => decide (lyN v (v.V i).2.2.1 = some k)) n with
  | false =>
    cases hp : isV v k n 0 with
    | false => rfl
    | true =>
      obtain ⟨i, _, b, c⟩ := isV_t hp
      exact absurd c (of_decide_eq_false (anyF_f hq i (by omega)))
  | true =>
    obtain ⟨i, a, b⟩ := anyF_t hq
    cases hp : isV v k n 0 with
    | true => rfl
    | false => exact absurd (of_decide_eq_true b) (isV_f hp i (Nat.zero_le i) (by omega))
/-- the first of the variants from k on whose number is z -/
theorem fnd_dn {p : Nat → Bool} {n k : Nat} : fndF p (n + 1) k = if p k then some k else fndF p n (k + 1) := rfl
set_option maxHeartbeats 4000000 in
set_option maxRecDepth 100000 in
theorem c_M_variant (l : Launch) (D : va_G) (cy : Nat → ClassId) (A : Nat → Prop) (X : State → Prop) (hst : mk_St A X) (hXT : ∀ U : State, X U → TB U) (G : Nat → Option va_E) (o : Nat) (Ar : Nat → Nat) (Iv : Nat → Int32) (F : Nat → Nat → Int32) (L : Nat → Nat → Int64) (ft : Nat → Int32) (en b9 n9 : Nat) (v9 : EdV) (nm : Int64 → Int32) (iv : Int32) (hM : MD cy G o Ar Iv F L) (hB : BK (tkK ft en) (tkV ft en) n9 F b9 v9) (hLS : LSv v9) (hVL : VLD v9) (hn30 : n9 < 2 ^ 30) (hb9 : b9 < 2) (hbk : Iv 42 = nI b9) (h43 : ¬ Iv 43 = 0) (hnm : ∀ r x, NMt (tkK ft en) (tkV ft en) n9 r x → r = nm x) : Met l yX14_variant [.code yX14_variant cX14_variant 5 (some .int)] ({ frames := 1, cells := 0, slots := 0, locals := 30 }) (mk_Pre D vwCl (tyL cy) A X G [.ref o, .int iv]) (va_Qi (fun (r : Int32) (G2 : Nat → Option va_E) => r = nu1 (lyA v9 iv) ∧ ∃ I2 : Nat → Int32, MD cy G2 o Ar I2 F L ∧ MF G G2 o Ar ∧ (∀ j, ¬ j = 38 → ¬ j = 69 → I2 j = Iv j) ∧ I2 38 = 0 ∧ I2 69 = nu1 (lyA v9 iv)) (mk_B D vwCl A) A) 0 0 A := by
  refine Met.ofW (cc := cX14_variant) (maxL := 5) (ret := (some .int)) (by decide) rfl ?_
  intro p e s m args below meth c s₁ B hml hv
  obtain ⟨rfl, hG, hK, hA, hX⟩ := hv
  have hx := B.exec
  have hb := B.bytes
  have hr := B.returns
  have hlocks := B.notSynchronized
  have hT := hXT s hX
  have hown : s.vm.findClass RX14 = some m.cls := findClass_of_methodNamed B.named
  have hf_X14 : ∀ w ∈ u_ws RX14 TX14 76, w.before ([.ref o, .int iv] : List Value).toArray s = true := tb_list hT fX14
  have hS : va_S A s.heap s.heap [] := va_S.rf
  have hl := lv_entry ([.ref o, .int iv]) (n := 5) (Nat.le_of_ble_eq_true rfl)
  rw [lg_entry_eq]
  generalize (lg_sl ([.ref o, .int iv]) ++ List.replicate (5 - (lg_sl ([.ref o, .int iv])).length) Slot.unset).toArray = ls at hl ⊢
  have hl : lv_has ls 5 [(0, .ref o), (1, .int iv)] := hl
  have hF : MF G G o Ar := MF.rf
  have hl6 := hB.2.1.2.1
  have hv6 := hB.2.2.2.2.1.2.1
  refine lv_aload_n hx hb dX14_variant_0 rfl (lv_at hl 0 rfl) ?_
  refine lv_iconst (v := 0) hx hb dX14_variant_1 (by decide) ?_
  refine mm_put (v := .int 0) (ty := .int) hx hb hf_X14 (fun _ h9 => h9) tyX14 tyX14_ok nmX14 hown hK hG hS hM.1 rfl 38 (by decide) (tb_use hT tw_1429) (fun _ h9 => h9) rfl (by decide +kernel) rfl rfl (mfs_l38 _ _) dX14_variant_2 (fun H locs hG hS => ?_)
  have hM := MD.puti (k := 38) (v := 0) hM (mfs_s38 _ _ _)
  have hF := hF.wo (e' := .inr (15, (mfs Ar Iv).set 38 (.int 0)))
  obtain ⟨I1, eI1⟩ : ∃ g, g = upd Iv 38 0 := ⟨_, rfl⟩
  rw [← eI1] at hM
  have hgn := gn_MD hG hM hF
  clear hG hM hF
  obtain ⟨G2, hG, hM, hF⟩ := hgn
  refine lv_aload_n hx hb dX14_variant_5 rfl (lv_at hl 0 rfl) ?_
  refine mm_get (v := .int (Iv 43)) hx hb hf_X14 (fun _ h9 => h9) hown hK hG hM.1 rfl 43 (by decide) (tb_use hT tw_1434) (fun _ h9 => h9) (by rw [mfs_g43, eI1] <;> rfl) dX14_variant_6 ?_
  refine lv_if_ne (tgt := 15) hx hb dX14_variant_9 (by decide) (fun c_9 => ?_) (fun c_9 => ?_)
  · skip
    refine lv_aload_n hx hb dX14_variant_15 rfl (lv_at hl 0 rfl) ?_
    refine lv_iconst (v := 0) hx hb dX14_variant_16 (by decide) ?_
    refine mm_put (v := .int 0) (ty := .int) hx hb hf_X14 (fun _ h9 => h9) tyX14 tyX14_ok nmX14 hown hK hG hS hM.1 rfl 69 (by decide) (tb_use hT tw_1460) (fun _ h9 => h9) rfl (by decide +kernel) rfl rfl (mfs_l69 _ _) dX14_variant_17 (fun H locs hG hS => ?_)
    have hM := MD.puti (k := 69) (v := 0) hM (mfs_s69 _ _ _)
    have hF := hF.wo (e' := .inr (15, (mfs Ar I1).set 69 (.int 0)))
    obtain ⟨I3, eI3⟩ : ∃ g, g = upd I1 69 0 := ⟨_, rfl⟩
    rw [← eI3] at hM
    have hgn := gn_MD hG hM hF
    clear hG hM hF
    obtain ⟨G4, hG, hM, hF⟩ := hgn
    have hlk : ∀ (nk : Nat) (p0 : Nat) (Ij : Nat → Int32), (nk = p0 ∧ p0 ≤ v9.nV) → (Ij 69 = nu1 (match fndF (fun j => decide (((v9.V j).1).toInt64 = iv.toInt64)) (v9.nV - p0) p0 with | some k => lyN v9 (v9.V k).2.2.1 | none => lyF v9 v9.nL 0)) → (Ij 42 = nI b9) → (∀ j, ¬ j = 38 → ¬ j = 69 → Ij j = Iv j) → (Ij 38 = 0) → ∀ (Gv : Nat → Option va_E), (MD cy Gv o Ar Ij F L) → (MF G Gv o Ar) → ∀ (H : Heap) (locs : List Loc), mm D vwCl A Gv H → va_S A s.heap H locs → ∀ ls : Array Slot, lv_has ls 5 [(0, .ref o), (1, .int iv), (2, .int (nI p0 - 1))] → W p l e (headSpec [.code yX14_variant cX14_variant 5 (some .int)] ({ frames := 1, cells := 0, slots := 0, locals := 30 })).room s m ([.ref o, .int iv] : List Value).toArray below meth c H locs 0 0 (MQ below (va_Qi (fun (r : Int32) (G2 : Nat → Option va_E) => r = nu1 (lyA v9 iv) ∧ ∃ I2 : Nat → Int32, MD cy G2 o Ar I2 F L ∧ MF G G2 o Ar ∧ (∀ j, ¬ j = 38 → ¬ j = 69 → I2 j = Iv j) ∧ I2 38 = 0 ∧ I2 69 = nu1 (lyA v9 iv)) (mk_B D vwCl A) A) ([.ref o, .int iv] : List Value).toArray s 0 0 A) (F0 m 134 ls []) := by
      intro nk
      induction nk with
      | zero =>
        intro p0 Ij hpn hu9 h42j hIo h38j Gv hM hF H locs hG hS ls hl
        refine lv_iload_n hx hb dX14_variant_134 rfl (lv_at hl 2 rfl) ?_
        refine lv_if_lt (tgt := 190) hx hb dX14_variant_135 (by decide) (fun c_135 => ?_) (fun c_135 => ?_)
        · skip
          refine lv_aload_n hx hb dX14_variant_190 rfl (lv_at hl 0 rfl) ?_
          refine mm_get (v := .int (Ij 69)) hx hb hf_X14 (fun _ h9 => h9) hown hK hG hM.1 rfl 69 (by decide) (tb_use hT tw_1460) (fun _ h9 => h9) (mfs_g69 _ _) dX14_variant_191 ?_
          have hp0 : p0 = 0 := by omega
          have hA : nu1 (lyA v9 iv) = Ij 69 := by rw [hu9, hp0, Nat.sub_zero]; rfl
          exact W.iret (v := (Ij 69)) hx hb hr (fun t ht hW => ⟨⟨_, _, rfl, ⟨hA.symm, Ij, hM, hF, hIo, h38j, hA.symm⟩, mk_end hG ht⟩, hS.F ht⟩) hS.2.2 dX14_variant_194
        · skip
          exact absurd (by rw [show p0 = 0 by omega]; decide) c_135
      | succ nk ihk =>
        intro p0 Ij hpn hu9 h42j hIo h38j Gv hM hF H locs hG hS ls hl
        obtain ⟨p9, hp9⟩ : ∃ y, y = nk := ⟨_, rfl⟩
        have hp0 : p0 = p9 + 1 := by omega
        rw [hp0] at hu9
        refine lv_iload_n hx hb dX14_variant_134 rfl (lv_at hl 2 rfl) ?_
        refine lv_if_lt (tgt := 190) hx hb dX14_variant_135 (by decide) (fun c_135 => ?_) (fun c_135 => ?_)
        · skip
          exact absurd c_135 (by rw [hp0, show nI (p9 + 1) - 1 = nI p9 from nI_pred p9]; exact nI_pos (by omega))
        · skip
          rw [hp0, show nI (p9 + 1) - 1 = nI p9 from nI_pred p9] at hl
          refine lv_aload_n hx hb dX14_variant_138 rfl (lv_at hl 0 rfl) ?_
          refine mm_get (v := .ref (Ar 32)) hx hb hf_X14 (fun _ h9 => h9) hown hK hG hM.1 rfl 32 (by decide) (tb_use hT tw_1423) (fun _ h9 => h9) (mfs_g32 _ _) dX14_variant_139 ?_
          refine lv_bipush (v := 6) hx hb dX14_variant_142 (by decide) ?_
          refine lv_aload_n hx hb dX14_variant_144 rfl (lv_at hl 0 rfl) ?_
          refine mm_get (v := .int (Ij 42)) hx hb hf_X14 (fun _ h9 => h9) hown hK hG hM.1 rfl 42 (by decide) (tb_use hT tw_1433) (fun _ h9 => h9) (mfs_g42 _ _) dX14_variant_145 ?_
          rw [show (Ij 42) = nI b9 from h42j]
          refine lv_imul hx hb dX14_variant_148 ?_
          refine lv_iload_n hx hb dX14_variant_149 rfl (lv_at hl 2 rfl) ?_
          refine lv_iadd hx hb dX14_variant_150 ?_
          refine mm_iald (n := 12) (f := F 32) hx hb hK hG 1 (hM.2.1 32 rfl) rfl (by rw [show (6 : Int32) * nI b9 + nI p9 = nI (6 * b9 + p9) from nI_ma 6 b9 p9]; exact nI_in (N := 12) (by omega) (by decide)) dX14_variant_151 ?_
          refine lv_topi (fun x5 ex5 => ?_)
          refine lv_iload_n hx hb dX14_variant_152 rfl (lv_at hl 1 rfl) ?_
          refine lv_icmp_ne (tgt := 184) hx hb dX14_variant_153 (by decide) (fun c_153 => ?_) (fun c_153 => ?_)
          · skip
            obtain ⟨x6, ex6⟩ : ∃ y : Int32, y = (nI p9) + (-1) := ⟨_, rfl⟩
            refine lv_iinc (v := x6) (lv' := [(2, .int x6), (0, .ref o), (1, .int iv)]) hx hb dX14_variant_184 hl (k := 2) rfl (by rw [ex6]; rfl) (by decide) rfl (fun ls hl => ?_)
            refine lv_goto (tgt := 134) hx hb dX14_variant_187 (by decide) ?_
            have hm9 : x6 = nI p9 - 1 := by rw [ex6, Int32.sub_eq_add_neg]
            rw [hm9] at hl
            have hxz : x5 = (v9.V p9).1 := by rw [ex5, show (6 : Int32) * nI b9 + nI p9 = nI (6 * b9 + p9) from nI_ma 6 b9 p9, nI_clamp (by omega)]; exact (hB.2.2.2.2.1.2.2 p9 (by omega)).1
            have hf2 : fndF (fun j => decide (((v9.V j).1).toInt64 = iv.toInt64)) (v9.nV - p9) p9 = fndF (fun j => decide (((v9.V j).1).toInt64 = iv.toInt64)) (v9.nV - (p9 + 1)) (p9 + 1) := by rw [show v9.nV - p9 = v9.nV - (p9 + 1) + 1 by omega, fnd_dn, if_neg (by rw [decide_eq_false (fun z => c_153 (by rw [hxz]; exact i32_64.mp z))]; exact Bool.false_ne_true)]
            exact ihk p9 Ij (by omega) (by rw [hf2]; exact hu9) h42j hIo h38j Gv hM hF _ _ hG hS ls (lv_sub hl [1, 2, 0] rfl)
          · skip
            refine lv_aload_n hx hb dX14_variant_156 rfl (lv_at hl 0 rfl) ?_
            refine lv_aload_n hx hb dX14_variant_157 rfl (lv_at hl 0 rfl) ?_
            refine lv_aload_n hx hb dX14_variant_158 rfl (lv_at hl 0 rfl) ?_
            refine mm_get (v := .int (Ij 42)) hx hb hf_X14 (fun _ h9 => h9) hown hK hG hM.1 rfl 42 (by decide) (tb_use hT tw_1433) (fun _ h9 => h9) (mfs_g42 _ _) dX14_variant_159 ?_
            rw [show (Ij 42) = nI b9 from h42j]
            refine lv_aload_n hx hb dX14_variant_162 rfl (lv_at hl 0 rfl) ?_
            refine mm_get (v := .ref (Ar 31)) hx hb hf_X14 (fun _ h9 => h9) hown hK hG hM.1 rfl 31 (by decide) (tb_use hT tw_1422) (fun _ h9 => h9) (mfs_g31 _ _) dX14_variant_163 ?_
            refine lv_bipush (v := 6) hx hb dX14_variant_166 (by decide) ?_
            refine lv_aload_n hx hb dX14_variant_168 rfl (lv_at hl 0 rfl) ?_
            refine mm_get (v := .int (Ij 42)) hx hb hf_X14 (fun _ h9 => h9) hown hK hG hM.1 rfl 42 (by decide) (tb_use hT tw_1433) (fun _ h9 => h9) (mfs_g42 _ _) dX14_variant_169 ?_
            rw [show (Ij 42) = nI b9 from h42j]
            refine lv_imul hx hb dX14_variant_172 ?_
            refine lv_iload_n hx hb dX14_variant_173 rfl (lv_at hl 2 rfl) ?_
            refine lv_iadd hx hb dX14_variant_174 ?_
            refine mm_iald (n := 12) (f := F 31) hx hb hK hG 1 (hM.2.1 31 rfl) rfl (by rw [show (6 : Int32) * nI b9 + nI p9 = nI (6 * b9 + p9) from nI_ma 6 b9 p9]; exact nI_in (N := 12) (by omega) (by decide)) dX14_variant_175 ?_
            refine lv_topi (fun x7 ex7 => ?_)
            refine va_calli (va_runV (As := [.int (nI b9), .int x7]) (rest := [.ref o]) ⟨hx, hb, hml, hown, (fun _ h9 => absurd h9 List.not_mem_nil : ∀ w ∈ ([] : List Cond), w.before _ s = true)⟩ (c_M_layerAt l D cy A X hst hXT Gv o Ar Ij F L b9 v9.nL x7 hM hb9 hB.2.1.1 hB.2.1.2.1) (tb_cw (C := RX14) 2 hT tw_1786 tw_109 tw_1783 tw_1785 tw_90 rfl rfl hq_X14_layerAt ⟨Nat.le_of_ble_eq_true rfl, Nat.le_of_ble_eq_true rfl⟩) (mk_preC hst hG hK hA hX hS vc_15 hM.1) rfl rfl hl.1 rfl (lv_room (Nat.le_of_ble_eq_true rfl)) dX14_variant_176 ⟨Nat.le_of_ble_eq_true rfl, Nat.le_of_ble_eq_true rfl⟩) hS (fun q _ h => h) (fun q h => h) (fun r8 G9 t H locs ht hvm hw hB hz1 hk1 hS => ?_)
            have hG : mm D vwCl A G9 H := by rw [← ht]; exact hB
            clear hB hz1 hk1 hvm ht
            obtain ⟨er8, hw⟩ := hw
            rw [hw] at hG
            refine lv_iconst (v := 1) hx hb dX14_variant_179 (by decide) ?_
            refine lv_iadd hx hb dX14_variant_180 ?_
            refine lv_topi (fun x10 ex10 => ?_)
            refine mm_put (v := .int x10) (ty := .int) hx hb hf_X14 (fun _ h9 => h9) tyX14 tyX14_ok nmX14 hown hK hG hS hM.1 rfl 69 (by decide) (tb_use hT tw_1460) (fun _ h9 => h9) rfl (by decide +kernel) rfl rfl (mfs_l69 _ _) dX14_variant_181 (fun H locs hG hS => ?_)
            have hM := MD.puti (k := 69) (v := x10) hM (mfs_s69 _ _ _)
            have hF := hF.wo (e' := .inr (15, (mfs Ar Ij).set 69 (.int x10)))
            obtain ⟨I11, eI11⟩ : ∃ g, g = upd Ij 69 x10 := ⟨_, rfl⟩
            rw [← eI11] at hM
            have hgn := gn_MD hG hM hF
            clear hG hM hF
            obtain ⟨G12, hG, hM, hF⟩ := hgn
            obtain ⟨x13, ex13⟩ : ∃ y : Int32, y = (nI p9) + (-1) := ⟨_, rfl⟩
            refine lv_iinc (v := x13) (lv' := [(2, .int x13), (0, .ref o), (1, .int iv)]) hx hb dX14_variant_184 hl (k := 2) rfl (by rw [ex13]; rfl) (by decide) rfl (fun ls hl => ?_)
            refine lv_goto (tgt := 134) hx hb dX14_variant_187 (by decide) ?_
            have hm9 : x13 = nI p9 - 1 := by rw [ex13, Int32.sub_eq_add_neg]
            rw [hm9] at hl
            have hxz : x5 = (v9.V p9).1 := by rw [ex5, show (6 : Int32) * nI b9 + nI p9 = nI (6 * b9 + p9) from nI_ma 6 b9 p9, nI_clamp (by omega)]; exact (hB.2.2.2.2.1.2.2 p9 (by omega)).1
            have hxn : x7 = F 31 (6 * b9 + p9) := by rw [ex7, show (6 : Int32) * nI b9 + nI p9 = nI (6 * b9 + p9) from nI_ma 6 b9 p9, nI_clamp (by omega)]
            have hfo : r8 = opI (lyN v9 (v9.V p9).2.2.1) := by rw [er8, hxn]; exact hB.2.1.at hn30 (hB.2.2.2.2.1.2.2 p9 (by omega)).2
            have hf2 : fndF (fun j => decide (((v9.V j).1).toInt64 = iv.toInt64)) (v9.nV - p9) p9 = some p9 := by rw [show v9.nV - p9 = v9.nV - (p9 + 1) + 1 by omega, fnd_dn, if_pos (decide_eq_true (i32_64.mpr (by rw [← hxz]; exact c_153)))]
            have hu2 : I11 69 = nu1 (lyN v9 (v9.V p9).2.2.1) := by rw [eI11, pk_us, ex10, hfo]; exact op_nu1
            exact ihk p9 I11 (by omega) (by rw [hf2]; exact hu2) (by rw [eI11, pk_un (by decide)]; exact h42j) (fun j h1 h2 => by rw [eI11, pk_un h2]; exact hIo j h1 h2) (by rw [eI11, pk_un (by decide)]; exact h38j) G12 hM hF _ _ hG hS ls (lv_sub hl [1, 2, 0] rfl)
    have hlo : ∀ (n : Nat) (m0 : Nat) (Ij : Nat → Int32), (n = m0 ∧ m0 ≤ v9.nL) → (Ij 69 = nu1 (lyF v9 (v9.nL - m0) m0)) → (Ij 42 = nI b9) → (∀ j, ¬ j = 38 → ¬ j = 69 → Ij j = Iv j) → (Ij 38 = 0) → ∀ (Gv : Nat → Option va_E), (MD cy Gv o Ar Ij F L) → (MF G Gv o Ar) → ∀ (H : Heap) (locs : List Loc), mm D vwCl A Gv H → va_S A s.heap H locs → ∀ ls : Array Slot, lv_has ls 5 [(0, .ref o), (1, .int iv), (2, .int (nI m0 - 1))] → W p l e (headSpec [.code yX14_variant cX14_variant 5 (some .int)] ({ frames := 1, cells := 0, slots := 0, locals := 30 })).room s m ([.ref o, .int iv] : List Value).toArray below meth c H locs 0 0 (MQ below (va_Qi (fun (r : Int32) (G2 : Nat → Option va_E) => r = nu1 (lyA v9 iv) ∧ ∃ I2 : Nat → Int32, MD cy G2 o Ar I2 F L ∧ MF G G2 o Ar ∧ (∀ j, ¬ j = 38 → ¬ j = 69 → I2 j = Iv j) ∧ I2 38 = 0 ∧ I2 69 = nu1 (lyA v9 iv)) (mk_B D vwCl A) A) ([.ref o, .int iv] : List Value).toArray s 0 0 A) (F0 m 32 ls []) := by
      intro n
      induction n with
      | zero =>
        intro m0 Ij hmn hu9 h42j hIo h38j Gv hM hF H locs hG hS ls hl
        refine lv_iload_n hx hb dX14_variant_32 rfl (lv_at hl 2 rfl) ?_
        refine lv_if_lt (tgt := 122) hx hb dX14_variant_33 (by decide) (fun c_33 => ?_) (fun c_33 => ?_)
        · skip
          refine lv_aload_n hx hb dX14_variant_122 rfl (lv_at hl 0 rfl) ?_
          refine mm_get (v := .ref (Ar 5)) hx hb hf_X14 (fun _ h9 => h9) hown hK hG hM.1 rfl 5 (by decide) (tb_use hT tw_1396) (fun _ h9 => h9) (mfs_g5 _ _) dX14_variant_123 ?_
          refine lv_aload_n hx hb dX14_variant_126 rfl (lv_at hl 0 rfl) ?_
          refine mm_get (v := .int (Ij 42)) hx hb hf_X14 (fun _ h9 => h9) hown hK hG hM.1 rfl 42 (by decide) (tb_use hT tw_1433) (fun _ h9 => h9) (mfs_g42 _ _) dX14_variant_127 ?_
          rw [show (Ij 42) = nI b9 from h42j]
          refine mm_iald (n := 2) (f := F 5) hx hb hK hG 1 (hM.2.1 5 rfl) rfl (nI_in (N := 2) hb9 (by decide)) dX14_variant_130 ?_
          refine lv_topi (fun x14 ex14 => ?_)
          refine lv_iconst (v := 1) hx hb dX14_variant_131 (by decide) ?_
          refine lv_isub hx hb dX14_variant_132 ?_
          rw [show (x14 - 1) = nI v9.nV - 1 by rw [ex14, nI_clamp (by omega), hB.2.2.2.2.1.1]]
          refine lv_istore_n (lv' := [(2, .int (nI v9.nV - 1)), (0, .ref o), (1, .int iv)]) hx hb dX14_variant_133 rfl hl (by decide) rfl (fun ls hl => ?_)
          exact hlk v9.nV v9.nV Ij ⟨rfl, Nat.le_refl _⟩ (by rw [Nat.sub_self]; show Ij 69 = nu1 (lyF v9 v9.nL 0); rw [hu9, show m0 = 0 by omega, Nat.sub_zero]) h42j hIo h38j Gv hM hF _ _ hG hS ls (lv_sub hl [1, 2, 0] rfl)
        · skip
          exact absurd (by rw [show m0 = 0 by omega]; decide) c_33
      | succ n ih =>
        intro m0 Ij hmn hu9 h42j hIo h38j Gv hM hF H locs hG hS ls hl
        obtain ⟨m9, hm9e⟩ : ∃ y, y = n := ⟨_, rfl⟩
        have hm0 : m0 = m9 + 1 := by omega
        rw [hm0] at hu9
        refine lv_iload_n hx hb dX14_variant_32 rfl (lv_at hl 2 rfl) ?_
        refine lv_if_lt (tgt := 122) hx hb dX14_variant_33 (by decide) (fun c_33 => ?_) (fun c_33 => ?_)
        · skip
          exact absurd c_33 (by rw [hm0, show nI (m9 + 1) - 1 = nI m9 from nI_pred m9]; exact nI_pos (by omega))
        · skip
          rw [hm0, show nI (m9 + 1) - 1 = nI m9 from nI_pred m9] at hl
          refine lv_iconst (v := 0) hx hb dX14_variant_36 (by decide) ?_
          refine lv_istore_n (lv' := [(3, .int 0), (0, .ref o), (1, .int iv), (2, .int (nI m9))]) hx hb dX14_variant_37 rfl hl (by decide) rfl (fun ls hl => ?_)
          have hli : ∀ (ni : Nat) (j9 : Nat) (xh : Int32), (ni + j9 = v9.nV) → (xh = b2i (anyF (fun i => decide (lyN v9 (v9.V i).2.2.1 = some m9)) j9)) → ∀ (Gv : Nat → Option va_E), (MD cy Gv o Ar Ij F L) → (MF G Gv o Ar) → ∀ (H : Heap) (locs : List Loc), mm D vwCl A Gv H → va_S A s.heap H locs → ∀ ls : Array Slot, lv_has ls 5 [(0, .ref o), (1, .int iv), (2, .int (nI m9)), (3, .int xh), (4, .int (nI j9))] → W p l e (headSpec [.code yX14_variant cX14_variant 5 (some .int)] ({ frames := 1, cells := 0, slots := 0, locals := 30 })).room s m ([.ref o, .int iv] : List Value).toArray below meth c H locs 0 0 (MQ below (va_Qi (fun (r : Int32) (G2 : Nat → Option va_E) => r = nu1 (lyA v9 iv) ∧ ∃ I2 : Nat → Int32, MD cy G2 o Ar I2 F L ∧ MF G G2 o Ar ∧ (∀ j, ¬ j = 38 → ¬ j = 69 → I2 j = Iv j) ∧ I2 38 = 0 ∧ I2 69 = nu1 (lyA v9 iv)) (mk_B D vwCl A) A) ([.ref o, .int iv] : List Value).toArray s 0 0 A) (F0 m 41 ls []) := by
            intro ni
            induction ni with
            | zero =>
              intro j9 xh hjn hxh Gv hM hF H locs hG hS ls hl
              refine lv_iload hx hb dX14_variant_41 (lv_at hl 4 rfl) ?_
              refine lv_aload_n hx hb dX14_variant_43 rfl (lv_at hl 0 rfl) ?_
              refine mm_get (v := .ref (Ar 5)) hx hb hf_X14 (fun _ h9 => h9) hown hK hG hM.1 rfl 5 (by decide) (tb_use hT tw_1396) (fun _ h9 => h9) (mfs_g5 _ _) dX14_variant_44 ?_
              refine lv_aload_n hx hb dX14_variant_47 rfl (lv_at hl 0 rfl) ?_
              refine mm_get (v := .int (Ij 42)) hx hb hf_X14 (fun _ h9 => h9) hown hK hG hM.1 rfl 42 (by decide) (tb_use hT tw_1433) (fun _ h9 => h9) (mfs_g42 _ _) dX14_variant_48 ?_
              rw [show (Ij 42) = nI b9 from h42j]
              refine mm_iald (n := 2) (f := F 5) hx hb hK hG 1 (hM.2.1 5 rfl) rfl (nI_in (N := 2) hb9 (by decide)) dX14_variant_51 ?_
              refine lv_topi (fun x15 ex15 => ?_)
              refine lv_icmp_ge (tgt := 98) hx hb dX14_variant_52 (by decide) (fun c_52 => ?_) (fun c_52 => ?_)
              · skip
                have hje : j9 = v9.nV := by omega
                refine lv_aload_n hx hb dX14_variant_98 rfl (lv_at hl 0 rfl) ?_
                refine lv_iload_n hx hb dX14_variant_99 rfl (lv_at hl 3 rfl) ?_
                refine lv_if_eq (tgt := 110) hx hb dX14_variant_100 (by decide) (fun c_100 => ?_) (fun c_100 => ?_)
                · skip
                  refine lv_iload_n hx hb dX14_variant_110 rfl (lv_at hl 2 rfl) ?_
                  refine lv_iconst (v := 1) hx hb dX14_variant_111 (by decide) ?_
                  refine lv_iadd hx hb dX14_variant_112 ?_
                  refine lv_topi (fun x16 ex16 => ?_)
                  refine mm_put (v := .int x16) (ty := .int) hx hb hf_X14 (fun _ h9 => h9) tyX14 tyX14_ok nmX14 hown hK hG hS hM.1 rfl 69 (by decide) (tb_use hT tw_1460) (fun _ h9 => h9) rfl (by decide +kernel) rfl rfl (mfs_l69 _ _) dX14_variant_113 (fun H locs hG hS => ?_)
                  have hM := MD.puti (k := 69) (v := x16) hM (mfs_s69 _ _ _)
                  have hF := hF.wo (e' := .inr (15, (mfs Ar Ij).set 69 (.int x16)))
                  obtain ⟨I17, eI17⟩ : ∃ g, g = upd Ij 69 x16 := ⟨_, rfl⟩
                  rw [← eI17] at hM
                  have hgn := gn_MD hG hM hF
                  clear hG hM hF
                  obtain ⟨G18, hG, hM, hF⟩ := hgn
                  obtain ⟨x19, ex19⟩ : ∃ y : Int32, y = (nI m9) + (-1) := ⟨_, rfl⟩
                  refine lv_iinc (v := x19) (lv' := [(2, .int x19), (0, .ref o), (1, .int iv), (3, .int xh), (4, .int (nI j9))]) hx hb dX14_variant_116 hl (k := 2) rfl (by rw [ex19]; rfl) (by decide) rfl (fun ls hl => ?_)
                  refine lv_goto (tgt := 32) hx hb dX14_variant_119 (by decide) ?_
                  have hm9 : x19 = nI m9 - 1 := by rw [ex19, Int32.sub_eq_add_neg]
                  rw [hm9] at hl
                  have hu2 : I17 69 = nu1 (lyF v9 (v9.nL - m9) m9) := by
                    rw [show v9.nL - m9 = v9.nL - (m9 + 1) + 1 by omega, lyF]
                    rw [eI17, pk_us]
                    rw [if_neg (by rw [isV_any, ← hje, show anyF (fun i => decide (lyN v9 (v9.V i).2.2.1 = some m9)) j9 = false from b2i_f (by rw [← hxh]; exact c_100)]; exact Bool.false_ne_true), ex16]
                    exact nI_1 m9
                  exact ih m9 I17 (by omega) hu2 (by rw [eI17, pk_un (by decide)]; exact h42j) (fun j h1 h2 => by rw [eI17, pk_un h2]; exact hIo j h1 h2) (by rw [eI17, pk_un (by decide)]; exact h38j) G18 hM hF _ _ hG hS ls (lv_sub hl [1, 2, 0] rfl)
                · skip
                  refine lv_aload_n hx hb dX14_variant_103 rfl (lv_at hl 0 rfl) ?_
                  refine mm_get (v := .int (Ij 69)) hx hb hf_X14 (fun _ h9 => h9) hown hK hG hM.1 rfl 69 (by decide) (tb_use hT tw_1460) (fun _ h9 => h9) (mfs_g69 _ _) dX14_variant_104 ?_
                  refine lv_goto (tgt := 113) hx hb dX14_variant_107 (by decide) ?_
                  refine lv_topi (fun x20 ex20 => ?_)
                  refine mm_put (v := .int x20) (ty := .int) hx hb hf_X14 (fun _ h9 => h9) tyX14 tyX14_ok nmX14 hown hK hG hS hM.1 rfl 69 (by decide) (tb_use hT tw_1460) (fun _ h9 => h9) rfl (by decide +kernel) rfl rfl (mfs_l69 _ _) dX14_variant_113 (fun H locs hG hS => ?_)
                  have hM := MD.puti (k := 69) (v := x20) hM (mfs_s69 _ _ _)
                  have hF := hF.wo (e' := .inr (15, (mfs Ar Ij).set 69 (.int x20)))
                  obtain ⟨I21, eI21⟩ : ∃ g, g = upd Ij 69 x20 := ⟨_, rfl⟩
                  rw [← eI21] at hM
                  have hgn := gn_MD hG hM hF
                  clear hG hM hF
                  obtain ⟨G22, hG, hM, hF⟩ := hgn
                  obtain ⟨x23, ex23⟩ : ∃ y : Int32, y = (nI m9) + (-1) := ⟨_, rfl⟩
                  refine lv_iinc (v := x23) (lv' := [(2, .int x23), (0, .ref o), (1, .int iv), (3, .int xh), (4, .int (nI j9))]) hx hb dX14_variant_116 hl (k := 2) rfl (by rw [ex23]; rfl) (by decide) rfl (fun ls hl => ?_)
                  refine lv_goto (tgt := 32) hx hb dX14_variant_119 (by decide) ?_
                  have hm9 : x23 = nI m9 - 1 := by rw [ex23, Int32.sub_eq_add_neg]
                  rw [hm9] at hl
                  have hu2 : I21 69 = nu1 (lyF v9 (v9.nL - m9) m9) := by
                    rw [show v9.nL - m9 = v9.nL - (m9 + 1) + 1 by omega, lyF]
                    rw [eI21, pk_us]
                    rw [if_pos (by rw [isV_any, ← hje]; exact b2i_t (by rw [← hxh]; exact c_100)), ex20]
                    exact hu9
                  exact ih m9 I21 (by omega) hu2 (by rw [eI21, pk_un (by decide)]; exact h42j) (fun j h1 h2 => by rw [eI21, pk_un h2]; exact hIo j h1 h2) (by rw [eI21, pk_un (by decide)]; exact h38j) G22 hM hF _ _ hG hS ls (lv_sub hl [1, 2, 0] rfl)
              · skip
                exact absurd (by rw [ex15, nI_clamp (by omega), hB.2.2.2.2.1.1, show j9 = v9.nV by omega]; exact Int32.le_refl _) c_52
            | succ ni ihi =>
              intro j9 xh hjn hxh Gv hM hF H locs hG hS ls hl
              refine lv_iload hx hb dX14_variant_41 (lv_at hl 4 rfl) ?_
              refine lv_aload_n hx hb dX14_variant_43 rfl (lv_at hl 0 rfl) ?_
              refine mm_get (v := .ref (Ar 5)) hx hb hf_X14 (fun _ h9 => h9) hown hK hG hM.1 rfl 5 (by decide) (tb_use hT tw_1396) (fun _ h9 => h9) (mfs_g5 _ _) dX14_variant_44 ?_
              refine lv_aload_n hx hb dX14_variant_47 rfl (lv_at hl 0 rfl) ?_
              refine mm_get (v := .int (Ij 42)) hx hb hf_X14 (fun _ h9 => h9) hown hK hG hM.1 rfl 42 (by decide) (tb_use hT tw_1433) (fun _ h9 => h9) (mfs_g42 _ _) dX14_variant_48 ?_
              rw [show (Ij 42) = nI b9 from h42j]
              refine mm_iald (n := 2) (f := F 5) hx hb hK hG 1 (hM.2.1 5 rfl) rfl (nI_in (N := 2) hb9 (by decide)) dX14_variant_51 ?_
              refine lv_topi (fun x24 ex24 => ?_)
              refine lv_icmp_ge (tgt := 98) hx hb dX14_variant_52 (by decide) (fun c_52 => ?_) (fun c_52 => ?_)
              · skip
                exact absurd (by have z := c_52; rw [ex24, nI_clamp (by omega), hB.2.2.2.2.1.1] at z; exact z) (nI_ge (a := j9) (b := v9.nV) (by omega) (by omega))
              · skip
                refine lv_iload_n hx hb dX14_variant_55 rfl (lv_at hl 3 rfl) ?_
                refine lv_if_ne (tgt := 86) hx hb dX14_variant_56 (by decide) (fun c_56 => ?_) (fun c_56 => ?_)
                · skip
                  refine lv_iconst (v := 1) hx hb dX14_variant_86 (by decide) ?_
                  refine lv_goto (tgt := 91) hx hb dX14_variant_87 (by decide) ?_
                  refine lv_istore_n (lv' := [(3, .int 1), (0, .ref o), (1, .int iv), (2, .int (nI m9)), (4, .int (nI j9))]) hx hb dX14_variant_91 rfl hl (by decide) rfl (fun ls hl => ?_)
                  obtain ⟨x25, ex25⟩ : ∃ y : Int32, y = (nI j9) + 1 := ⟨_, rfl⟩
                  refine lv_iinc (v := x25) (lv' := [(4, .int x25), (3, .int 1), (0, .ref o), (1, .int iv), (2, .int (nI m9))]) hx hb dX14_variant_92 hl (k := 4) rfl (by rw [ex25]; rfl) (by decide) rfl (fun ls hl => ?_)
                  refine lv_goto (tgt := 41) hx hb dX14_variant_95 (by decide) ?_
                  rw [show x25 = nI (j9 + 1) by rw [ex25]; exact (nI_succ j9).symm] at hl
                  have hv2 : (1 : Int32) = b2i (anyF (fun i => decide (lyN v9 (v9.V i).2.2.1 = some m9)) (j9 + 1)) := by rw [anyF, show anyF (fun i => decide (lyN v9 (v9.V i).2.2.1 = some m9)) j9 = true from b2i_t (by rw [← hxh]; exact c_56)]; rfl
                  exact ihi (j9 + 1) 1 (by omega) hv2 Gv hM hF _ _ hG hS ls (lv_sub hl [2, 3, 4, 1, 0] rfl)
                · skip
                  refine lv_aload_n hx hb dX14_variant_59 rfl (lv_at hl 0 rfl) ?_
                  refine lv_aload_n hx hb dX14_variant_60 rfl (lv_at hl 0 rfl) ?_
                  refine mm_get (v := .int (Ij 42)) hx hb hf_X14 (fun _ h9 => h9) hown hK hG hM.1 rfl 42 (by decide) (tb_use hT tw_1433) (fun _ h9 => h9) (mfs_g42 _ _) dX14_variant_61 ?_
                  rw [show (Ij 42) = nI b9 from h42j]
                  refine lv_aload_n hx hb dX14_variant_64 rfl (lv_at hl 0 rfl) ?_
                  refine mm_get (v := .ref (Ar 31)) hx hb hf_X14 (fun _ h9 => h9) hown hK hG hM.1 rfl 31 (by decide) (tb_use hT tw_1422) (fun _ h9 => h9) (mfs_g31 _ _) dX14_variant_65 ?_
                  refine lv_bipush (v := 6) hx hb dX14_variant_68 (by decide) ?_
                  refine lv_aload_n hx hb dX14_variant_70 rfl (lv_at hl 0 rfl) ?_
                  refine mm_get (v := .int (Ij 42)) hx hb hf_X14 (fun _ h9 => h9) hown hK hG hM.1 rfl 42 (by decide) (tb_use hT tw_1433) (fun _ h9 => h9) (mfs_g42 _ _) dX14_variant_71 ?_
                  rw [show (Ij 42) = nI b9 from h42j]
                  refine lv_imul hx hb dX14_variant_74 ?_
                  refine lv_iload hx hb dX14_variant_75 (lv_at hl 4 rfl) ?_
                  refine lv_iadd hx hb dX14_variant_77 ?_
                  refine mm_iald (n := 12) (f := F 31) hx hb hK hG 1 (hM.2.1 31 rfl) rfl (by rw [show (6 : Int32) * nI b9 + nI j9 = nI (6 * b9 + j9) from nI_ma 6 b9 j9]; exact nI_in (N := 12) (by omega) (by decide)) dX14_variant_78 ?_
                  refine lv_topi (fun x26 ex26 => ?_)
                  refine va_calli (va_runV (As := [.int (nI b9), .int x26]) (rest := []) ⟨hx, hb, hml, hown, (fun _ h9 => absurd h9 List.not_mem_nil : ∀ w ∈ ([] : List Cond), w.before _ s = true)⟩ (c_M_layerAt l D cy A X hst hXT Gv o Ar Ij F L b9 v9.nL x26 hM hb9 hB.2.1.1 hB.2.1.2.1) (tb_cw (C := RX14) 2 hT tw_1786 tw_109 tw_1783 tw_1785 tw_90 rfl rfl hq_X14_layerAt ⟨Nat.le_of_ble_eq_true rfl, Nat.le_of_ble_eq_true rfl⟩) (mk_preC hst hG hK hA hX hS vc_15 hM.1) rfl rfl hl.1 rfl (lv_room (Nat.le_of_ble_eq_true rfl)) dX14_variant_79 ⟨Nat.le_of_ble_eq_true rfl, Nat.le_of_ble_eq_true rfl⟩) hS (fun q _ h => h) (fun q h => h) (fun r27 G28 t H locs ht hvm hw hB hz1 hk1 hS => ?_)
                  have hG : mm D vwCl A G28 H := by rw [← ht]; exact hB
                  clear hB hz1 hk1 hvm ht
                  obtain ⟨er27, hw⟩ := hw
                  rw [hw] at hG
                  refine lv_iload_n hx hb dX14_variant_82 rfl (lv_at hl 2 rfl) ?_
                  refine lv_icmp_ne (tgt := 90) hx hb dX14_variant_83 (by decide) (fun c_83 => ?_) (fun c_83 => ?_)
                  · skip
                    refine lv_iconst (v := 0) hx hb dX14_variant_90 (by decide) ?_
                    refine lv_istore_n (lv' := [(3, .int 0), (0, .ref o), (1, .int iv), (2, .int (nI m9)), (4, .int (nI j9))]) hx hb dX14_variant_91 rfl hl (by decide) rfl (fun ls hl => ?_)
                    obtain ⟨x29, ex29⟩ : ∃ y : Int32, y = (nI j9) + 1 := ⟨_, rfl⟩
                    refine lv_iinc (v := x29) (lv' := [(4, .int x29), (3, .int 0), (0, .ref o), (1, .int iv), (2, .int (nI m9))]) hx hb dX14_variant_92 hl (k := 4) rfl (by rw [ex29]; rfl) (by decide) rfl (fun ls hl => ?_)
                    refine lv_goto (tgt := 41) hx hb dX14_variant_95 (by decide) ?_
                    rw [show x29 = nI (j9 + 1) by rw [ex29]; exact (nI_succ j9).symm] at hl
                    have hnh : anyF (fun i => decide (lyN v9 (v9.V i).2.2.1 = some m9)) j9 = false := b2i_f (by rw [← hxh]; exact c_56)
                    have hxn : x26 = F 31 (6 * b9 + j9) := by rw [ex26, show (6 : Int32) * nI b9 + nI j9 = nI (6 * b9 + j9) from nI_ma 6 b9 j9, nI_clamp (by omega)]
                    have hfo : r27 = opI (lyN v9 (v9.V j9).2.2.1) := by rw [er27, hxn]; exact hB.2.1.at hn30 (hB.2.2.2.2.1.2.2 j9 (by omega)).2
                    have hlt9 : ∀ k, lyN v9 (v9.V j9).2.2.1 = some k → k < 2 ^ 31 := fun k hk => by have y := lyN_lt hk; omega
                    have hv2 : (0 : Int32) = b2i (anyF (fun i => decide (lyN v9 (v9.V i).2.2.1 = some m9)) (j9 + 1)) := by rw [anyF, hnh, decide_eq_false (fun z => c_83 (by rw [hfo]; exact (opI_eq hlt9 (by omega)).mpr z))]; rfl
                    exact ihi (j9 + 1) 0 (by omega) hv2 Gv hM hF _ _ hG hS ls (lv_sub hl [2, 3, 4, 1, 0] rfl)
                  · skip
                    refine lv_iconst (v := 1) hx hb dX14_variant_86 (by decide) ?_
                    refine lv_goto (tgt := 91) hx hb dX14_variant_87 (by decide) ?_
                    refine lv_istore_n (lv' := [(3, .int 1), (0, .ref o), (1, .int iv), (2, .int (nI m9)), (4, .int (nI j9))]) hx hb dX14_variant_91 rfl hl (by decide) rfl (fun ls hl => ?_)
                    obtain ⟨x30, ex30⟩ : ∃ y : Int32, y = (nI j9) + 1 := ⟨_, rfl⟩
                    refine lv_iinc (v := x30) (lv' := [(4, .int x30), (3, .int 1), (0, .ref o), (1, .int iv), (2, .int (nI m9))]) hx hb dX14_variant_92 hl (k := 4) rfl (by rw [ex30]; rfl) (by decide) rfl (fun ls hl => ?_)
                    refine lv_goto (tgt := 41) hx hb dX14_variant_95 (by decide) ?_
                    rw [show x30 = nI (j9 + 1) by rw [ex30]; exact (nI_succ j9).symm] at hl
                    have hnh : anyF (fun i => decide (lyN v9 (v9.V i).2.2.1 = some m9)) j9 = false := b2i_f (by rw [← hxh]; exact c_56)
                    have hxn : x26 = F 31 (6 * b9 + j9) := by rw [ex26, show (6 : Int32) * nI b9 + nI j9 = nI (6 * b9 + j9) from nI_ma 6 b9 j9, nI_clamp (by omega)]
                    have hfo : r27 = opI (lyN v9 (v9.V j9).2.2.1) := by rw [er27, hxn]; exact hB.2.1.at hn30 (hB.2.2.2.2.1.2.2 j9 (by omega)).2
                    have hlt9 : ∀ k, lyN v9 (v9.V j9).2.2.1 = some k → k < 2 ^ 31 := fun k hk => by have y := lyN_lt hk; omega
                    have hv2 : (1 : Int32) = b2i (anyF (fun i => decide (lyN v9 (v9.V i).2.2.1 = some m9)) (j9 + 1)) := by rw [anyF, hnh, decide_eq_true ((opI_eq hlt9 (by omega)).mp (by rw [← hfo]; exact c_83))]; rfl
                    exact ihi (j9 + 1) 1 (by omega) hv2 Gv hM hF _ _ hG hS ls (lv_sub hl [2, 3, 4, 1, 0] rfl)
          refine lv_iconst (v := 0) hx hb dX14_variant_38 (by decide) ?_
          refine lv_istore (lv' := [(4, .int 0), (3, .int 0), (0, .ref o), (1, .int iv), (2, .int (nI m9))]) hx hb dX14_variant_39 hl (by decide) rfl (fun ls hl => ?_)
          exact hli v9.nV 0 0 (by omega) rfl Gv hM hF _ _ hG hS ls (lv_sub hl [2, 3, 4, 1, 0] rfl)
    refine lv_aload_n hx hb dX14_variant_20 rfl (lv_at hl 0 rfl) ?_
    refine mm_get (v := .ref (Ar 2)) hx hb hf_X14 (fun _ h9 => h9) hown hK hG hM.1 rfl 2 (by decide) (tb_use hT tw_1393) (fun _ h9 => h9) (mfs_g2 _ _) dX14_variant_21 ?_
    refine lv_aload_n hx hb dX14_variant_24 rfl (lv_at hl 0 rfl) ?_
    refine mm_get (v := .int (Iv 42)) hx hb hf_X14 (fun _ h9 => h9) hown hK hG hM.1 rfl 42 (by decide) (tb_use hT tw_1433) (fun _ h9 => h9) (by rw [mfs_g42, eI3, eI1] <;> rfl) dX14_variant_25 ?_
    rw [show (Iv 42) = nI b9 from hbk]
    refine mm_iald (n := 2) (f := F 2) hx hb hK hG 1 (hM.2.1 2 rfl) rfl (nI_in (N := 2) hb9 (by decide)) dX14_variant_28 ?_
    refine lv_topi (fun x31 ex31 => ?_)
    refine lv_iconst (v := 1) hx hb dX14_variant_29 (by decide) ?_
    refine lv_isub hx hb dX14_variant_30 ?_
    rw [show (x31 - 1) = nI v9.nL - 1 by rw [ex31, nI_clamp (by omega), hB.2.1.1]]
    refine lv_istore_n (lv' := [(2, .int (nI v9.nL - 1)), (0, .ref o), (1, .int iv)]) hx hb dX14_variant_31 rfl hl (by decide) rfl (fun ls hl => ?_)
    exact hlo v9.nL v9.nL I3 ⟨rfl, Nat.le_refl _⟩ (by rw [Nat.sub_self]; rw [eI3, eI1]; rfl) (by rw [eI3, eI1]; exact hbk) (fun j h1 h2 => by rw [eI3, pk_un (by omega), eI1, pk_un (by omega)]) (by rw [eI3, eI1]; rfl) G4 hM hF _ _ hG hS ls (lv_sub hl [1, 2, 0] rfl)
  · skip
    exact absurd c_9 h43
