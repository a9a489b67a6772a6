/-- nothing of the edition is wrong -/
def VLD (v : EdV) : Prop := ∀ k a b p, PK v k a b p → wrC v k a b = false
theorem VLD.of {v : EdV} (hN : ∀ k a b p, PK v k a b p → ¬ p < 0) (hP : ∀ s, s < v.nS → v.nP s ≤ 8) (hO : ∀ j, j < v.nJ → v.nO j ≤ 80) (h : (mAll v (-1, none)).1 < 0) : VLD v := by
  intro k a b p hp
  cases hq : wrC v k a b with
  | false => rfl
  | true =>
    have y := (mAll_mn hN hP hO (w := (-1, none))).2.1 p (rgC v k a) ⟨k, a, b, hp, hq, rfl⟩
    exact absurd h (isF_ff y).1
theorem pig : ∀ (m : Nat) (f : Nat → Nat), (∀ i, i ≤ m → f i < m) → ∃ i j, i < j ∧ j ≤ m ∧ f i = f j := by
  intro m
  induction m with
  | zero => intro f h; exact absurd (h 0 (Nat.le_refl 0)) (Nat.not_lt_zero _)
  | succ m ih =>
    intro f h
    by_cases hx : ∃ i, i ≤ m ∧ f i = f (m + 1)
    · obtain ⟨i, h1, h2⟩ := hx
      exact ⟨i, m + 1, by omega, Nat.le_refl _, h2⟩
    · have h1 := h (m + 1) (Nat.le_refl _)
      obtain ⟨i, j, h2, h3, h4⟩ := ih (fun i => if f i = m then f (m + 1) else f i) (fun i hi => by
        have y := h i (by omega)
        have z : f i ≠ f (m + 1) := fun z => hx ⟨i, hi, z⟩
        split
        · omega
        · omega)
      refine ⟨i, j, h2, by omega, ?_⟩
      have z1 : f i ≠ f (m + 1) := fun z => hx ⟨i, by omega, z⟩
      have z2 : f j ≠ f (m + 1) := fun z => hx ⟨j, h3, z⟩
      split at h4
      · split at h4
        · omega
        · exact absurd h4.symm z2
      · split at h4
        · exact absurd h4 z1
        · exact h4
theorem orb_in {v : EdV} {l j : Nat} : ∀ {n i : Nat}, i < j → j ≤ i + n → (∀ k, k < j → nx v (orb v l k) = some (orb v l (k + 1))) → inR v (orb v l j) n (nx v (orb v l i)) = true := by
  intro n
  induction n with
  | zero => intro i h1 h2 _; omega
  | succ n ih =>
    intro i h1 h2 h3
    rw [h3 i h1, inR]
    by_cases e : orb v l (i + 1) = orb v l j
    · rw [if_pos e]
    · rw [if_neg e]
      have y : i + 1 < j := by
        rcases Nat.lt_or_ge (i + 1) j with u | u
        · exact u
        · exact absurd (by rw [show i + 1 = j by omega]) e
      exact ih y (by omega) h3
/-- no way up goes on for ever -/
theorem VLD.up {v : EdV} (h : VLD v) (h6 : v.nL ≤ 6) {l : Nat} (hu : l < v.nL) (ha : ∀ k, k < 6 → nx v (orb v l k) = some (orb v l (k + 1))) : False := by
  have hb : ∀ i, i ≤ 6 → orb v l i < v.nL := by
    intro i hi
    cases i with
    | zero => exact hu
    | succ i => exact nx_lt (ha i (by omega))
  obtain ⟨i, j, h1, h2, h3⟩ := pig 6 (orb v l) (fun i hi => by have y := hb i hi; omega)
  have h4 := @orb_in v l j 6 i h1 (by omega) (fun k hk => ha k (by omega))
  rw [← h3] at h4
  have hof : (v.L (orb v l i)).2.2.1 ≠ 0 := fun z => by
    have y := ha i (by omega)
    rw [nx, if_pos z] at y
    cases y
  have h5 := h 9 (orb v l i) 0 _ ⟨hb i (by omega), rfl, hof, rfl⟩
  have h6 : ((lyN v (v.L (orb v l i)).2.2.1).isNone || inR v (orb v l i) 6 (nx v (orb v l i))) = false := h5
  rw [h4, Bool.or_true] at h6
  cases h6
theorem opI_s {o : Option Nat} (h : ¬ opI o < 0) : ∃ k, o = some k := by
  cases o with
  | none => exact absurd (by decide) h
  | some k => exact ⟨k, rfl⟩
theorem nu1_op {o : Option Nat} : nu1 o - 1 = opI o := by
  cases o with
  | none => rfl
  | some k => exact nI_pred k
theorem isSv_t {Iv : Nat → Int32} {nS : Nat} {x : Int32} (h43 : ¬ Iv 43 = 0) : isSv Iv nS x = (oIx x nS).isSome := by
  unfold isSv
  rw [decide_eq_true h43]
  rfl
set_option maxHeartbeats 4000000 in
set_option maxRecDepth 100000 in
theorem c_M_service (l : Launch) (D : va_G) (cy : Nat → ClassId) (A : Nat → Prop) (X : State → Prop) (hst : mk_St A X) (hXT : ∀ U : State, X U → TB U) (G : Nat → Option va_E) (o : Nat) (Ar : Nat → Nat) (Iv : Nat → Int32) (F : Nat → Nat → Int32) (L : Nat → Nat → Int64) (ft : Nat → Int32) (en b9 n9 : Nat) (v9 : EdV) (nm : Int64 → Int32) (ui : Option Nat) (iv wv : Int32) (hM : MD cy G o Ar Iv F L) (hB : BK (tkK ft en) (tkV ft en) n9 F b9 v9) (hLS : LSv v9) (hVL : VLD v9) (hn30 : n9 < 2 ^ 30) (hb9 : b9 < 2) (hbk : Iv 42 = nI b9) (h43 : ¬ Iv 43 = 0) (hnm : ∀ r x, NMt (tkK ft en) (tkV ft en) n9 r x → r = nm x) (hu : Iv 69 = nu1 ui) (hui : ∀ k, ui = some k → k < v9.nL) : Met l yX14_service [.code yX14_service cX14_service 6 (some .int)] ({ frames := 2, cells := 0, slots := 0, locals := 60 }) (mk_Pre D vwCl (tyL cy) A X G [.ref o, .int iv, .int wv]) (va_Qi (fun (r : Int32) (G2 : Nat → Option va_E) => r = (match svO v9 iv with | none => -1 | some c => svA v9 nm ui c wv) ∧ MD cy G2 o Ar (upd Iv 38 0) F L ∧ MF G G2 o Ar) (mk_B D vwCl A) A) 0 0 A := by
  refine Met.ofW (cc := cX14_service) (maxL := 6) (ret := (some .int)) (by decide) rfl ?_
  intro p e s m args below meth c s₁ B hml hv
  obtain ⟨rfl, hG, hK, hA, hX⟩ := hv
  have hx := B.exec
  have hb := B.bytes
  have hr := B.returns
  have hlocks := B.notSynchronized
  have hT := hXT s hX
  have hown : s.vm.findClass RX14 = some m.cls := findClass_of_methodNamed B.named
  have hf_X14 : ∀ w ∈ u_ws RX14 TX14 76, w.before ([.ref o, .int iv, .int wv] : List Value).toArray s = true := tb_list hT fX14
  have hS : va_S A s.heap s.heap [] := va_S.rf
  have hl := lv_entry ([.ref o, .int iv, .int wv]) (n := 6) (Nat.le_of_ble_eq_true rfl)
  rw [lg_entry_eq]
  generalize (lg_sl ([.ref o, .int iv, .int wv]) ++ List.replicate (6 - (lg_sl ([.ref o, .int iv, .int wv])).length) Slot.unset).toArray = ls at hl ⊢
  have hl : lv_has ls 6 [(0, .ref o), (1, .int iv), (2, .int wv)] := hl
  have hF : MF G G o Ar := MF.rf
  obtain ⟨l0, hl0⟩ : ∃ y, ∀ k, ui = some k → k = y := by cases ui with | none => exact ⟨0, fun k hk => by cases hk⟩ | some k => exact ⟨k, fun j hj => by injection hj with hj; exact hj.symm⟩
  refine lv_aload_n hx hb dX14_service_0 rfl (lv_at hl 0 rfl) ?_
  refine lv_iconst (v := 0) hx hb dX14_service_1 (by decide) ?_
  refine mm_put (v := .int 0) (ty := .int) hx hb hf_X14 (fun _ h9 => h9) tyX14 tyX14_ok nmX14 hown hK hG hS hM.1 rfl 38 (by decide) (tb_use hT tw_1429) (fun _ h9 => h9) rfl (by decide +kernel) rfl rfl (mfs_l38 _ _) dX14_service_2 (fun H locs hG hS => ?_)
  have hM := MD.puti (k := 38) (v := 0) hM (mfs_s38 _ _ _)
  have hF := hF.wo (e' := .inr (15, (mfs Ar Iv).set 38 (.int 0)))
  obtain ⟨I1, eI1⟩ : ∃ g, g = upd Iv 38 0 := ⟨_, rfl⟩
  rw [← eI1] at hM
  have hgn := gn_MD hG hM hF
  clear hG hM hF
  obtain ⟨G2, hG, hM, hF⟩ := hgn
  refine lv_aload_n hx hb dX14_service_5 rfl (lv_at hl 0 rfl) ?_
  refine lv_iload_n hx hb dX14_service_6 rfl (lv_at hl 1 rfl) ?_
  refine va_calli (va_runV (As := [.int iv]) (rest := []) ⟨hx, hb, hml, hown, (fun _ h9 => absurd h9 List.not_mem_nil : ∀ w ∈ ([] : List Cond), w.before _ s = true)⟩ (c_M_isService l D cy A X hst hXT G2 o Ar I1 F L b9 v9.nS iv hM hb9 (by rw [eI1]; exact hbk) hB.2.2.1.1 hB.2.2.1.2.1) (tb_cw (C := RX14) 1 hT tw_1810 tw_109 tw_1807 tw_1809 tw_94 rfl rfl hq_X14_isService ⟨Nat.le_of_ble_eq_true rfl, Nat.le_of_ble_eq_true rfl⟩) (mk_preC hst hG hK hA hX hS vc_15 hM.1) rfl rfl hl.1 rfl (lv_room (Nat.le_of_ble_eq_true rfl)) dX14_service_7 ⟨Nat.le_of_ble_eq_true rfl, Nat.le_of_ble_eq_true rfl⟩) hS (fun q _ h => h) (fun q h => h) (fun r3 G4 t H locs ht hvm hw hB hz1 hk1 hS => ?_)
  have hG : mm D vwCl A G4 H := by rw [← ht]; exact hB
  clear hB hz1 hk1 hvm ht
  obtain ⟨er3, hw⟩ := hw
  rw [hw] at hG
  refine lv_if_ne (tgt := 15) hx hb dX14_service_10 (by decide) (fun c_10 => ?_) (fun c_10 => ?_)
  · skip
    have hsv : isSv I1 v9.nS iv = true := b2i_t (by rw [← er3]; exact c_10)
    obtain ⟨s9, hs9, hxs, ho9⟩ := isSv_ix (by have y := hB.2.2.1.2.1; omega) hsv
    have hs16 := hB.2.2.1.2.1
    refine lv_iload_n hx hb dX14_service_15 rfl (lv_at hl 1 rfl) ?_
    refine lv_iconst (v := 1) hx hb dX14_service_16 (by decide) ?_
    refine lv_isub hx hb dX14_service_17 ?_
    rw [show iv - 1 = nI s9 by rw [hxs]; exact nI_pred s9]
    refine lv_istore_n (lv' := [(3, .int (nI s9)), (0, .ref o), (1, .int iv), (2, .int wv)]) hx hb dX14_service_18 rfl hl (by decide) rfl (fun ls hl => ?_)
    refine lv_iload_n hx hb dX14_service_19 rfl (lv_at hl 3 rfl) ?_
    by_cases sw_20 : wv.toInt < 0 ∨ 4 < wv.toInt
    · skip
      refine lv_tableOut (tgt := 219) hx hb dX14_service_20 sw_20 (by decide) ?_
      refine lv_bipush (v := (-2)) hx hb dX14_service_219 (by decide) ?_
      obtain ⟨n0, n1, n2, n3, n4⟩ := sw5n sw_20
      exact W.iret (v := (-2)) hx hb hr (fun t ht hW => ⟨⟨_, _, rfl, ⟨(by rw [show svO v9 iv = some s9 from ho9]; simp only [svA, if_neg n0, if_neg n1, if_neg n2, if_neg n3, if_neg n4]), (by rw [← eI1]; exact hM), hF⟩, mk_end hG ht⟩, hS.F ht⟩) hS.2.2 dX14_service_221
    · skip
      have hlo : ¬ wv.toInt < 0 := fun z => sw_20 (Or.inl z)
      have hhi : ¬ 4 < wv.toInt := fun z => sw_20 (Or.inr z)
      have hcs : wv.toInt = 0 ∨ wv.toInt = 1 ∨ wv.toInt = 2 ∨ wv.toInt = 3 ∨ wv.toInt = 4 := by omega
      rcases hcs with sw_20 | sw_20 | sw_20 | sw_20 | sw_20
      · skip
        refine lv_tableIn (tgt := 56) hx hb dX14_service_20 hlo hhi (off := 36) (by rw [sw_20]; rfl) (by decide) ?_
        refine lv_aload_n hx hb dX14_service_56 rfl (lv_at hl 1 rfl) ?_
        refine mm_get (v := .ref (Ar 20)) hx hb hf_X14 (fun _ h9 => h9) hown hK hG hM.1 rfl 20 (by decide) (tb_use hT tw_1411) (fun _ h9 => h9) (mfs_g20 _ _) dX14_service_57 ?_
        refine lv_bipush (v := 16) hx hb dX14_service_60 (by decide) ?_
        refine lv_aload_n hx hb dX14_service_62 rfl (lv_at hl 1 rfl) ?_
        refine mm_get (v := .int (Iv 42)) hx hb hf_X14 (fun _ h9 => h9) hown hK hG hM.1 rfl 42 (by decide) (tb_use hT tw_1433) (fun _ h9 => h9) (by rw [mfs_g42, eI1] <;> rfl) dX14_service_63 ?_
        rw [show (Iv 42) = nI b9 from hbk]
        refine lv_imul hx hb dX14_service_66 ?_
        refine lv_iload_n hx hb dX14_service_67 rfl (lv_at hl 0 rfl) ?_
        refine lv_iadd hx hb dX14_service_68 ?_
        refine mm_iald (n := 32) (f := F 20) hx hb hK hG 1 (hM.2.1 20 rfl) rfl (by rw [show (16 : Int32) * nI b9 + nI s9 = nI (16 * b9 + s9) from nI_ma 16 b9 s9]; exact nI_in (N := 32) (by omega) (by decide)) dX14_service_69 ?_
        refine lv_topi (fun x5 ex5 => ?_)
        have hxw : wv = nI 0 := sw5 (by decide) sw_20
        exact W.iret (v := x5) hx hb hr (fun t ht hW => ⟨⟨_, _, rfl, ⟨(by rw [show svO v9 iv = some s9 from ho9, hxw, ex5, show (16 : Int32) * nI b9 + nI s9 = nI (16 * b9 + s9) from nI_ma 16 b9 s9, nI_clamp (by omega)]; exact (hnm _ _ (hB.2.2.1.2.2 s9 hs9).1)), (by rw [← eI1]; exact hM), hF⟩, mk_end hG ht⟩, hS.F ht⟩) hS.2.2 dX14_service_70
      · skip
        refine lv_tableIn (tgt := 71) hx hb dX14_service_20 hlo hhi (off := 51) (by rw [sw_20]; rfl) (by decide) ?_
        refine lv_aload_n hx hb dX14_service_71 rfl (lv_at hl 1 rfl) ?_
        refine mm_get (v := .ref (Ar 21)) hx hb hf_X14 (fun _ h9 => h9) hown hK hG hM.1 rfl 21 (by decide) (tb_use hT tw_1412) (fun _ h9 => h9) (mfs_g21 _ _) dX14_service_72 ?_
        refine lv_bipush (v := 16) hx hb dX14_service_75 (by decide) ?_
        refine lv_aload_n hx hb dX14_service_77 rfl (lv_at hl 1 rfl) ?_
        refine mm_get (v := .int (Iv 42)) hx hb hf_X14 (fun _ h9 => h9) hown hK hG hM.1 rfl 42 (by decide) (tb_use hT tw_1433) (fun _ h9 => h9) (by rw [mfs_g42, eI1] <;> rfl) dX14_service_78 ?_
        rw [show (Iv 42) = nI b9 from hbk]
        refine lv_imul hx hb dX14_service_81 ?_
        refine lv_iload_n hx hb dX14_service_82 rfl (lv_at hl 0 rfl) ?_
        refine lv_iadd hx hb dX14_service_83 ?_
        refine mm_iald (n := 32) (f := F 21) hx hb hK hG 1 (hM.2.1 21 rfl) rfl (by rw [show (16 : Int32) * nI b9 + nI s9 = nI (16 * b9 + s9) from nI_ma 16 b9 s9]; exact nI_in (N := 32) (by omega) (by decide)) dX14_service_84 ?_
        refine lv_topi (fun x6 ex6 => ?_)
        have hxw : wv = nI 1 := sw5 (by decide) sw_20
        exact W.iret (v := x6) hx hb hr (fun t ht hW => ⟨⟨_, _, rfl, ⟨(by rw [show svO v9 iv = some s9 from ho9, hxw, ex6, show (16 : Int32) * nI b9 + nI s9 = nI (16 * b9 + s9) from nI_ma 16 b9 s9, nI_clamp (by omega)]; exact (hB.2.2.1.2.2 s9 hs9).2.1), (by rw [← eI1]; exact hM), hF⟩, mk_end hG ht⟩, hS.F ht⟩) hS.2.2 dX14_service_85
      · skip
        refine lv_tableIn (tgt := 86) hx hb dX14_service_20 hlo hhi (off := 66) (by rw [sw_20]; rfl) (by decide) ?_
        refine lv_aload_n hx hb dX14_service_86 rfl (lv_at hl 1 rfl) ?_
        refine mm_get (v := .ref (Ar 23)) hx hb hf_X14 (fun _ h9 => h9) hown hK hG hM.1 rfl 23 (by decide) (tb_use hT tw_1414) (fun _ h9 => h9) (mfs_g23 _ _) dX14_service_87 ?_
        refine lv_bipush (v := 16) hx hb dX14_service_90 (by decide) ?_
        refine lv_aload_n hx hb dX14_service_92 rfl (lv_at hl 1 rfl) ?_
        refine mm_get (v := .int (Iv 42)) hx hb hf_X14 (fun _ h9 => h9) hown hK hG hM.1 rfl 42 (by decide) (tb_use hT tw_1433) (fun _ h9 => h9) (by rw [mfs_g42, eI1] <;> rfl) dX14_service_93 ?_
        rw [show (Iv 42) = nI b9 from hbk]
        refine lv_imul hx hb dX14_service_96 ?_
        refine lv_iload_n hx hb dX14_service_97 rfl (lv_at hl 0 rfl) ?_
        refine lv_iadd hx hb dX14_service_98 ?_
        refine mm_iald (n := 32) (f := F 23) hx hb hK hG 1 (hM.2.1 23 rfl) rfl (by rw [show (16 : Int32) * nI b9 + nI s9 = nI (16 * b9 + s9) from nI_ma 16 b9 s9]; exact nI_in (N := 32) (by omega) (by decide)) dX14_service_99 ?_
        refine lv_topi (fun x7 ex7 => ?_)
        have hxw : wv = nI 2 := sw5 (by decide) sw_20
        exact W.iret (v := x7) hx hb hr (fun t ht hW => ⟨⟨_, _, rfl, ⟨(by rw [show svO v9 iv = some s9 from ho9, hxw, ex7, show (16 : Int32) * nI b9 + nI s9 = nI (16 * b9 + s9) from nI_ma 16 b9 s9, nI_clamp (by omega)]; exact (hB.2.2.1.2.2 s9 hs9).2.2.2.1), (by rw [← eI1]; exact hM), hF⟩, mk_end hG ht⟩, hS.F ht⟩) hS.2.2 dX14_service_100
      · skip
        refine lv_tableIn (tgt := 101) hx hb dX14_service_20 hlo hhi (off := 81) (by rw [sw_20]; rfl) (by decide) ?_
        refine lv_aload_n hx hb dX14_service_101 rfl (lv_at hl 1 rfl) ?_
        refine mm_get (v := .ref (Ar 22)) hx hb hf_X14 (fun _ h9 => h9) hown hK hG hM.1 rfl 22 (by decide) (tb_use hT tw_1413) (fun _ h9 => h9) (mfs_g22 _ _) dX14_service_102 ?_
        refine lv_bipush (v := 16) hx hb dX14_service_105 (by decide) ?_
        refine lv_aload_n hx hb dX14_service_107 rfl (lv_at hl 1 rfl) ?_
        refine mm_get (v := .int (Iv 42)) hx hb hf_X14 (fun _ h9 => h9) hown hK hG hM.1 rfl 42 (by decide) (tb_use hT tw_1433) (fun _ h9 => h9) (by rw [mfs_g42, eI1] <;> rfl) dX14_service_108 ?_
        rw [show (Iv 42) = nI b9 from hbk]
        refine lv_imul hx hb dX14_service_111 ?_
        refine lv_iload_n hx hb dX14_service_112 rfl (lv_at hl 0 rfl) ?_
        refine lv_iadd hx hb dX14_service_113 ?_
        refine mm_iald (n := 32) (f := F 22) hx hb hK hG 1 (hM.2.1 22 rfl) rfl (by rw [show (16 : Int32) * nI b9 + nI s9 = nI (16 * b9 + s9) from nI_ma 16 b9 s9]; exact nI_in (N := 32) (by omega) (by decide)) dX14_service_114 ?_
        refine lv_topi (fun x8 ex8 => ?_)
        refine lv_iconst (v := 1) hx hb dX14_service_115 (by decide) ?_
        refine lv_iadd hx hb dX14_service_116 ?_
        have hxw : wv = nI 3 := sw5 (by decide) sw_20
        exact W.iret (v := (x8 + 1)) hx hb hr (fun t ht hW => ⟨⟨_, _, rfl, ⟨(by rw [show svO v9 iv = some s9 from ho9, hxw, ex8, show (16 : Int32) * nI b9 + nI s9 = nI (16 * b9 + s9) from nI_ma 16 b9 s9, nI_clamp (by omega), (hB.2.2.1.2.2 s9 hs9).2.2.1]; exact nI_1 _), (by rw [← eI1]; exact hM), hF⟩, mk_end hG ht⟩, hS.F ht⟩) hS.2.2 dX14_service_117
      · skip
        refine lv_tableIn (tgt := 118) hx hb dX14_service_20 hlo hhi (off := 98) (by rw [sw_20]; rfl) (by decide) ?_
        refine lv_aload_n hx hb dX14_service_118 rfl (lv_at hl 1 rfl) ?_
        refine mm_get (v := .int (Iv 69)) hx hb hf_X14 (fun _ h9 => h9) hown hK hG hM.1 rfl 69 (by decide) (tb_use hT tw_1460) (fun _ h9 => h9) (by rw [mfs_g69, eI1] <;> rfl) dX14_service_119 ?_
        refine lv_iconst (v := 1) hx hb dX14_service_122 (by decide) ?_
        refine lv_isub hx hb dX14_service_123 ?_
        rw [show ((Iv 69) - 1) = opI ui by rw [hu]; exact nu1_op]
        have hxw : wv = nI 4 := sw5 (by decide) sw_20
        have hAN : (match svO v9 iv with | none => -1 | some c => svA v9 nm ui c wv) = nIU v9 (v9.S s9).2.2.1 6 ui := by rw [show svO v9 iv = some s9 from ho9, hxw]; rfl
        obtain ⟨RA, hRA⟩ : ∃ y, nIU v9 (v9.S s9).2.2.1 6 ui = y := ⟨_, rfl⟩
        rw [hRA] at hAN
        have h42j : I1 42 = nI b9 := by rw [eI1]; exact hbk
        obtain ⟨Ij, eIj⟩ : ∃ y, y = I1 := ⟨_, rfl⟩
        rw [← eIj] at hM h42j
        have hIj : Ij = upd Iv 38 0 := by rw [eIj, eI1]
        have hl6 := hB.2.1.2.1
        have hlp : ∀ (n : Nat) (m9 : Nat) (o9 : Option Nat), (n + m9 = 6) → (nIU v9 (v9.S s9).2.2.1 n o9 = RA) → (∀ k, o9 = some k → k = orb v9 l0 m9 ∧ (k < v9.nL ∧ l0 < v9.nL) ∧ ∀ i, i < m9 → nx v9 (orb v9 l0 i) = some (orb v9 l0 (i + 1))) → ∀ (Gv : Nat → Option va_E), (MD cy Gv o Ar Ij F L) → (MF G Gv o Ar) → ∀ (H : Heap) (locs : List Loc), mm D vwCl A Gv H → va_S A s.heap H locs → ∀ ls : Array Slot, lv_has ls 6 [(0, .ref o), (3, .int (nI s9)), (4, .int (opI o9))] → W p l e (headSpec [.code yX14_service cX14_service 6 (some .int)] ({ frames := 2, cells := 0, slots := 0, locals := 60 })).room s m ([.ref o, .int iv, .int wv] : List Value).toArray below meth c H locs 0 0 (MQ below (va_Qi (fun (r : Int32) (G2 : Nat → Option va_E) => r = (match svO v9 iv with | none => -1 | some c => svA v9 nm ui c wv) ∧ MD cy G2 o Ar (upd Iv 38 0) F L ∧ MF G G2 o Ar) (mk_B D vwCl A) A) ([.ref o, .int iv, .int wv] : List Value).toArray s 0 0 A) (F0 m 126 ls []) := by
          intro n
          induction n with
          | zero =>
            intro m9 o9 hn hR hal Gv hM hF H locs hG hS ls hl
            refine lv_iload hx hb dX14_service_126 (lv_at hl 2 rfl) ?_
            refine lv_if_lt (tgt := 217) hx hb dX14_service_128 (by decide) (fun c_128 => ?_) (fun c_128 => ?_)
            · skip
              refine lv_iconst (v := 0) hx hb dX14_service_217 (by decide) ?_
              have ho0 : o9 = none := by cases hq : o9 with | none => rfl | some k => rw [hq] at c_128; exact absurd c_128 (nI_pos (by have y := (hal k hq).2.1.1; omega))
              have hz : RA = 0 := by rw [← hR, ho0]; first | rfl | (cases n <;> rfl)
              exact W.iret (v := 0) hx hb hr (fun t ht hW => ⟨⟨_, _, rfl, ⟨(by rw [hAN, hz]), (by rw [← hIj]; exact hM), hF⟩, mk_end hG ht⟩, hS.F ht⟩) hS.2.2 dX14_service_218
            · skip
              exact Exists.elim (opI_s c_128) (fun k hk => (hVL.up hB.2.1.2.1 (l := l0) (hal k hk).2.1.2 (fun i hi => (hal k hk).2.2 i (by omega))).elim)
          | succ n ih =>
            intro m9 o9 hn hR hal Gv hM hF H locs hG hS ls hl
            refine lv_iload hx hb dX14_service_126 (lv_at hl 2 rfl) ?_
            refine lv_if_lt (tgt := 217) hx hb dX14_service_128 (by decide) (fun c_128 => ?_) (fun c_128 => ?_)
            · skip
              refine lv_iconst (v := 0) hx hb dX14_service_217 (by decide) ?_
              have ho0 : o9 = none := by cases hq : o9 with | none => rfl | some k => rw [hq] at c_128; exact absurd c_128 (nI_pos (by have y := (hal k hq).2.1.1; omega))
              have hz : RA = 0 := by rw [← hR, ho0]; first | rfl | (cases n <;> rfl)
              exact W.iret (v := 0) hx hb hr (fun t ht hW => ⟨⟨_, _, rfl, ⟨(by rw [hAN, hz]), (by rw [← hIj]; exact hM), hF⟩, mk_end hG ht⟩, hS.F ht⟩) hS.2.2 dX14_service_218
            · skip
              obtain ⟨l9, ho9k⟩ := opI_s c_128
              obtain ⟨hlo, ⟨hu9, hl0n⟩, hal9⟩ := hal l9 ho9k
              rw [ho9k] at hl
              replace hl := hl
              refine lv_aload_n hx hb dX14_service_131 rfl (lv_at hl 0 rfl) ?_
              refine lv_aload_n hx hb dX14_service_132 rfl (lv_at hl 0 rfl) ?_
              refine mm_get (v := .int (Ij 42)) hx hb hf_X14 (fun _ h9 => h9) hown hK hG hM.1 rfl 42 (by decide) (tb_use hT tw_1433) (fun _ h9 => h9) (mfs_g42 _ _) dX14_service_133 ?_
              rw [show Ij 42 = nI b9 from h42j]
              refine lv_aload_n hx hb dX14_service_136 rfl (lv_at hl 0 rfl) ?_
              refine mm_get (v := .ref (Ar 20)) hx hb hf_X14 (fun _ h9 => h9) hown hK hG hM.1 rfl 20 (by decide) (tb_use hT tw_1411) (fun _ h9 => h9) (mfs_g20 _ _) dX14_service_137 ?_
              refine lv_bipush (v := 16) hx hb dX14_service_140 (by decide) ?_
              refine lv_aload_n hx hb dX14_service_142 rfl (lv_at hl 0 rfl) ?_
              refine mm_get (v := .int (Ij 42)) hx hb hf_X14 (fun _ h9 => h9) hown hK hG hM.1 rfl 42 (by decide) (tb_use hT tw_1433) (fun _ h9 => h9) (mfs_g42 _ _) dX14_service_143 ?_
              rw [show Ij 42 = nI b9 from h42j]
              refine lv_imul hx hb dX14_service_146 ?_
              refine lv_iload_n hx hb dX14_service_147 rfl (lv_at hl 1 rfl) ?_
              refine lv_iadd hx hb dX14_service_148 ?_
              refine mm_iald (n := 32) (f := F 20) hx hb hK hG 1 (hM.2.1 20 rfl) rfl (by rw [show (16 : Int32) * nI b9 + nI s9 = nI (16 * b9 + s9) from nI_ma 16 b9 s9]; exact nI_in (N := 32) (by omega) (by decide)) dX14_service_149 ?_
              refine lv_topi (fun x9 ex9 => ?_)
              refine lv_iload hx hb dX14_service_150 (lv_at hl 2 rfl) ?_
              refine va_calli (va_runV (As := [.int (nI b9), .int x9, .int (nI l9)]) (rest := []) ⟨hx, hb, hml, hown, (fun _ h9 => absurd h9 List.not_mem_nil : ∀ w ∈ ([] : List Cond), w.before _ s = true)⟩ (c_M_serviceAt l D cy A X hst hXT Gv o Ar Ij F L b9 v9.nS x9 (nI l9) hM hb9 hB.2.2.1.1 hB.2.2.1.2.1) (tb_cw (C := RX14) 3 hT tw_1790 tw_109 tw_1787 tw_1789 tw_91 rfl rfl hq_X14_serviceAt ⟨Nat.le_of_ble_eq_true rfl, Nat.le_of_ble_eq_true rfl⟩) (mk_preC hst hG hK hA hX hS vc_15 hM.1) rfl rfl hl.1 rfl (lv_room (Nat.le_of_ble_eq_true rfl)) dX14_service_152 ⟨Nat.le_of_ble_eq_true rfl, Nat.le_of_ble_eq_true rfl⟩) hS (fun q _ h => h) (fun q h => h) (fun r10 G11 t H locs ht hvm hw hB hz1 hk1 hS => ?_)
              have hG : mm D vwCl A G11 H := by rw [← ht]; exact hB
              clear hB hz1 hk1 hvm ht
              obtain ⟨er10, hw⟩ := hw
              rw [hw] at hG
              refine lv_istore (lv' := [(5, .int r10), (0, .ref o), (3, .int (nI s9)), (4, .int (nI l9))]) hx hb dX14_service_155 hl (by decide) rfl (fun ls hl => ?_)
              have hxn : x9 = F 20 (16 * b9 + s9) := by rw [ex9, show (16 : Int32) * nI b9 + nI s9 = nI (16 * b9 + s9) from nI_ma 16 b9 s9, nI_clamp (by omega)]
              have hfo : r10 = opI (svI v9 l9 (v9.S s9).2.2.1) := by rw [er10, hxn]; exact hB.2.2.1.atI hLS hB.2.1.2.1 hn30 (hB.2.2.1.2.2 s9 hs9).1 hu9
              have hlt9 : ∀ k, svI v9 l9 (v9.S s9).2.2.1 = some k → k < 2 ^ 31 := fun k hk => by have y := svI_lt hk; omega
              refine lv_iload hx hb dX14_service_157 (lv_at hl 0 rfl) ?_
              refine lv_if_lt (tgt := 167) hx hb dX14_service_159 (by decide) (fun c_159 => ?_) (fun c_159 => ?_)
              · skip
                have hno : svI v9 l9 (v9.S s9).2.2.1 = none := by cases hq : svI v9 l9 (v9.S s9).2.2.1 with | none => rfl | some k => exact absurd ((opI_ge hlt9).mpr ⟨k, hq⟩) (Int32.not_le.mpr (by rw [← hfo]; exact c_159))
                have hof := (hB.2.1.2.2 l9 hu9).2
                have hl6 := hB.2.1.2.1
                refine lv_aload_n hx hb dX14_service_167 rfl (lv_at hl 1 rfl) ?_
                refine mm_get (v := .ref (Ar 19)) hx hb hf_X14 (fun _ h9 => h9) hown hK hG hM.1 rfl 19 (by decide) (tb_use hT tw_1410) (fun _ h9 => h9) (mfs_g19 _ _) dX14_service_168 ?_
                refine lv_bipush (v := 6) hx hb dX14_service_171 (by decide) ?_
                refine lv_aload_n hx hb dX14_service_173 rfl (lv_at hl 1 rfl) ?_
                refine mm_get (v := .int (Ij 42)) hx hb hf_X14 (fun _ h9 => h9) hown hK hG hM.1 rfl 42 (by decide) (tb_use hT tw_1433) (fun _ h9 => h9) (mfs_g42 _ _) dX14_service_174 ?_
                rw [show Ij 42 = nI b9 from h42j]
                refine lv_imul hx hb dX14_service_177 ?_
                refine lv_iload hx hb dX14_service_178 (lv_at hl 3 rfl) ?_
                refine lv_iadd hx hb dX14_service_180 ?_
                refine mm_iald (n := 12) (f := F 19) hx hb hK hG 1 (hM.2.1 19 rfl) rfl (by rw [show (6 : Int32) * nI b9 + nI l9 = nI (6 * b9 + l9) from nI_ma 6 b9 l9]; exact nI_in (N := 12) (by omega) (by decide)) dX14_service_181 ?_
                refine lv_topi (fun x12 ex12 => ?_)
                have h19 : x12 = F 19 (6 * b9 + l9) := by rw [ex12, show (6 : Int32) * nI b9 + nI l9 = nI (6 * b9 + l9) from nI_ma 6 b9 l9, nI_clamp (by omega)]
                refine lv_if_ne (tgt := 189) hx hb dX14_service_182 (by decide) (fun c_182 => ?_) (fun c_182 => ?_)
                · skip
                  refine lv_aload_n hx hb dX14_service_189 rfl (lv_at hl 1 rfl) ?_
                  refine lv_aload_n hx hb dX14_service_190 rfl (lv_at hl 1 rfl) ?_
                  refine mm_get (v := .int (Ij 42)) hx hb hf_X14 (fun _ h9 => h9) hown hK hG hM.1 rfl 42 (by decide) (tb_use hT tw_1433) (fun _ h9 => h9) (mfs_g42 _ _) dX14_service_191 ?_
                  rw [show Ij 42 = nI b9 from h42j]
                  refine lv_aload_n hx hb dX14_service_194 rfl (lv_at hl 1 rfl) ?_
                  refine mm_get (v := .ref (Ar 19)) hx hb hf_X14 (fun _ h9 => h9) hown hK hG hM.1 rfl 19 (by decide) (tb_use hT tw_1410) (fun _ h9 => h9) (mfs_g19 _ _) dX14_service_195 ?_
                  refine lv_bipush (v := 6) hx hb dX14_service_198 (by decide) ?_
                  refine lv_aload_n hx hb dX14_service_200 rfl (lv_at hl 1 rfl) ?_
                  refine mm_get (v := .int (Ij 42)) hx hb hf_X14 (fun _ h9 => h9) hown hK hG hM.1 rfl 42 (by decide) (tb_use hT tw_1433) (fun _ h9 => h9) (mfs_g42 _ _) dX14_service_201 ?_
                  rw [show Ij 42 = nI b9 from h42j]
                  refine lv_imul hx hb dX14_service_204 ?_
                  refine lv_iload hx hb dX14_service_205 (lv_at hl 3 rfl) ?_
                  refine lv_iadd hx hb dX14_service_207 ?_
                  refine mm_iald (n := 12) (f := F 19) hx hb hK hG 1 (hM.2.1 19 rfl) rfl (by rw [show (6 : Int32) * nI b9 + nI l9 = nI (6 * b9 + l9) from nI_ma 6 b9 l9]; exact nI_in (N := 12) (by omega) (by decide)) dX14_service_208 ?_
                  refine lv_topi (fun x13 ex13 => ?_)
                  have h19b : x13 = F 19 (6 * b9 + l9) := by rw [ex13, show (6 : Int32) * nI b9 + nI l9 = nI (6 * b9 + l9) from nI_ma 6 b9 l9, nI_clamp (by omega)]
                  refine va_calli (va_runV (As := [.int (nI b9), .int x13]) (rest := []) ⟨hx, hb, hml, hown, (fun _ h9 => absurd h9 List.not_mem_nil : ∀ w ∈ ([] : List Cond), w.before _ s = true)⟩ (c_M_layerAt l D cy A X hst hXT Gv o Ar Ij F L b9 v9.nL x13 hM hb9 hB.2.1.1 hB.2.1.2.1) (tb_cw (C := RX14) 2 hT tw_1786 tw_109 tw_1783 tw_1785 tw_90 rfl rfl hq_X14_layerAt ⟨Nat.le_of_ble_eq_true rfl, Nat.le_of_ble_eq_true rfl⟩) (mk_preC hst hG hK hA hX hS vc_15 hM.1) rfl rfl hl.1 rfl (lv_room (Nat.le_of_ble_eq_true rfl)) dX14_service_209 ⟨Nat.le_of_ble_eq_true rfl, Nat.le_of_ble_eq_true rfl⟩) hS (fun q _ h => h) (fun q h => h) (fun r14 G15 t H locs ht hvm hw hB hz1 hk1 hS => ?_)
                  have hG : mm D vwCl A G15 H := by rw [← ht]; exact hB
                  clear hB hz1 hk1 hvm ht
                  obtain ⟨er14, hw⟩ := hw
                  rw [hw] at hG
                  have hy : r14 = opI (nx v9 l9) := by rw [er14]; unfold nx; rw [if_neg (fun z => c_182 (h19.trans ((hof.z0 hn30).mpr z))), h19b]; exact hB.2.1.at hn30 hof
                  rw [hy]
                  refine lv_topi (fun x16 ex16 => ?_)
                  refine lv_istore (lv' := [(4, .int x16), (5, .int r10), (0, .ref o), (3, .int (nI s9))]) hx hb dX14_service_212 hl (by decide) rfl (fun ls hl => ?_)
                  refine lv_goto (tgt := 126) hx hb dX14_service_214 (by decide) ?_
                  rw [ex16] at hl
                  have hR2 : nIU v9 (v9.S s9).2.2.1 n (nx v9 l9) = RA := by rw [← hR, ho9k, nIU, hno]
                  have hal2 : ∀ k, nx v9 l9 = some k → k = orb v9 l0 (m9 + 1) ∧ (k < v9.nL ∧ l0 < v9.nL) ∧ ∀ i, i < m9 + 1 → nx v9 (orb v9 l0 i) = some (orb v9 l0 (i + 1)) := fun k hk => ⟨(by show k = (nx v9 (orb v9 l0 m9)).getD 0; rw [← hlo, hk]; rfl), ⟨nx_lt hk, hl0n⟩, fun i hi => by rcases Nat.lt_or_ge i m9 with u | u; exact hal9 i u; rw [show i = m9 by omega, ← hlo, hk]; show some k = some ((nx v9 (orb v9 l0 m9)).getD 0); rw [← hlo, hk]; rfl⟩
                  exact ih (m9 + 1) (nx v9 l9) (by omega) hR2 hal2 Gv hM hF _ _ hG hS ls (lv_sub hl [2, 3, 0] rfl)
                · skip
                  refine lv_iconst (v := (-1)) hx hb dX14_service_185 (by decide) ?_
                  refine lv_goto (tgt := 212) hx hb dX14_service_186 (by decide) ?_
                  have hy : (-1 : Int32) = opI (nx v9 l9) := by unfold nx; rw [if_pos ((hof.z0 hn30).mp (h19.symm.trans c_182))]; rfl
                  refine lv_istore (lv' := [(4, .int (-1)), (5, .int r10), (0, .ref o), (3, .int (nI s9))]) hx hb dX14_service_212 hl (by decide) rfl (fun ls hl => ?_)
                  refine lv_goto (tgt := 126) hx hb dX14_service_214 (by decide) ?_
                  rw [hy] at hl
                  have hR2 : nIU v9 (v9.S s9).2.2.1 n (nx v9 l9) = RA := by rw [← hR, ho9k, nIU, hno]
                  have hal2 : ∀ k, nx v9 l9 = some k → k = orb v9 l0 (m9 + 1) ∧ (k < v9.nL ∧ l0 < v9.nL) ∧ ∀ i, i < m9 + 1 → nx v9 (orb v9 l0 i) = some (orb v9 l0 (i + 1)) := fun k hk => ⟨(by show k = (nx v9 (orb v9 l0 m9)).getD 0; rw [← hlo, hk]; rfl), ⟨nx_lt hk, hl0n⟩, fun i hi => by rcases Nat.lt_or_ge i m9 with u | u; exact hal9 i u; rw [show i = m9 by omega, ← hlo, hk]; show some k = some ((nx v9 (orb v9 l0 m9)).getD 0); rw [← hlo, hk]; rfl⟩
                  exact ih (m9 + 1) (nx v9 l9) (by omega) hR2 hal2 Gv hM hF _ _ hG hS ls (lv_sub hl [2, 3, 0] rfl)
              · skip
                obtain ⟨k9, hk9⟩ := (opI_ge hlt9).mp (by rw [← hfo]; exact Int32.not_lt.mp c_159)
                rw [show r10 = nI k9 by rw [hfo, hk9]; rfl] at hl
                refine lv_iload hx hb dX14_service_162 (lv_at hl 0 rfl) ?_
                refine lv_iconst (v := 1) hx hb dX14_service_164 (by decide) ?_
                refine lv_iadd hx hb dX14_service_165 ?_
                have hz : RA = nI k9 + 1 := by rw [← hR, ho9k, nIU, hk9]; exact (nI_1 k9).symm
                exact W.iret (v := ((nI k9) + 1)) hx hb hr (fun t ht hW => ⟨⟨_, _, rfl, ⟨(by rw [hAN, hz]), (by rw [← hIj]; exact hM), hF⟩, mk_end hG ht⟩, hS.F ht⟩) hS.2.2 dX14_service_166
        refine lv_topi (fun x17 ex17 => ?_)
        refine lv_istore (lv' := [(4, .int x17), (3, .int (nI s9)), (0, .ref o), (1, .int iv), (2, .int wv)]) hx hb dX14_service_124 hl (by decide) rfl (fun ls hl => ?_)
        rw [ex17] at hl
        exact hlp 6 0 ui (by omega) hRA (fun k hk => ⟨hl0 k hk, ⟨hui k hk, by rw [← hl0 k hk]; exact hui k hk⟩, fun i hi => absurd hi (Nat.not_lt_zero i)⟩) G2 hM hF _ _ hG hS ls (lv_sub hl [2, 1, 0] rfl)
  · skip
    refine lv_iconst (v := (-1)) hx hb dX14_service_13 (by decide) ?_
    have hno : svO v9 iv = none := by have y : isSv I1 v9.nS iv = false := b2i_f (by rw [← er3]; exact c_10); rw [isSv_t (by rw [eI1]; exact h43)] at y; unfold svO; cases hq : oIx iv v9.nS with | none => rfl | some k => rw [hq] at y; cases y
    exact W.iret (v := (-1)) hx hb hr (fun t ht hW => ⟨⟨_, _, rfl, ⟨(by rw [hno]), (by rw [← eI1]; exact hM), hF⟩, mk_end hG ht⟩, hS.F ht⟩) hS.2.2 dX14_service_14
