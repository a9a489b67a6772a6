theorem MF.ar {G G2 : Nat → Option va_E} {o : Nat} {Ar Ar2 : Nat → Nat} (h : MF G G2 o Ar) (he : ∀ k, mdR k = true → Ar2 k = Ar k) : MF G G2 o Ar2 := fun x e h0 h1 h2 => h x e h0 h1 (fun k hk => by rw [← he k hk]; exact h2 k hk)
theorem IZ_cg {I J : Nat → Int32} (h : ∀ j, ¬ (50 ≤ j ∧ j ≤ 58) → I j = J j) : IZ I = IZ J := by
  funext j
  unfold IZ
  by_cases e : 50 ≤ j ∧ j ≤ 58
  · rw [if_pos e, if_pos e]
  · rw [if_neg e, if_neg e, h j e]
/-- the claims of a text -/
def clFi (K : Nat → Nat) (S : Nat → Int32) (V : Nat → Int64) : Nat → EdV → Nat × Int32 → List CLi
  | 0, _, _ => []
  | n + 1, v, q => if q.2 < 0 ∧ K q.1 ≠ 2 then clT K S V v q ++ clFi K S V n (q_stm K S V v q).1 (q_stm K S V v q).2 else []
theorem clFi_f {K : Nat → Nat} {S : Nat → Int32} {V : Nat → Int64} {n : Nat} {v : EdV} {q : Nat × Int32} (h : ¬ (q.2 < 0 ∧ K q.1 ≠ 2)) : clFi K S V n v q = [] := by
  cases n with
  | zero => rfl
  | succ n => rw [clFi, if_neg h]
theorem q_fill_f {K : Nat → Nat} {S : Nat → Int32} {V : Nat → Int64} {n : Nat} {v : EdV} {q : Nat × Int32} (h : ¬ (q.2 < 0 ∧ K q.1 ≠ 2)) : q_fill K S V n v q = (v, q) := by
  cases n with
  | zero => rfl
  | succ n => rw [q_fill, if_neg h]
theorem clF_fr {F : Nat → Nat → Int32} {bo : Nat} : FrW (wB bo) F (clF F bo) := fun j i h1 h2 => by
  unfold clF
  by_cases h : j < 7
  · rw [if_pos h]
    by_cases e : i = bo
    · exfalso
      exact h2 (Or.inl ⟨by unfold lxA at h1; omega, by omega, e⟩)
    · rw [pk_un e]
  · rw [if_neg h]
theorem clF_at {F : Nat → Nat → Int32} {bo k : Nat} (h : k < 7) : clF F bo k bo = 0 := by
  unfold clF
  rw [if_pos h, pk_us]
theorem BK.nil {K : Nat → Nat} {V : Nat → Int64} {n : Nat} {F : Nat → Nat → Int32} {bo : Nat} (h : ∀ k, 1 ≤ k → k ≤ 6 → F k bo = 0) : BK K V n F bo EdV.nil :=
  ⟨⟨h 1 (by decide) (by decide), Nat.zero_le _, fun _ z => absurd z (Nat.not_lt_zero _)⟩, ⟨h 2 (by decide) (by decide), Nat.zero_le _, fun _ z => absurd z (Nat.not_lt_zero _)⟩, ⟨h 3 (by decide) (by decide), Nat.zero_le _, fun _ z => absurd z (Nat.not_lt_zero _)⟩, ⟨h 4 (by decide) (by decide), Nat.zero_le _, fun _ z => absurd z (Nat.not_lt_zero _)⟩, ⟨h 5 (by decide) (by decide), Nat.zero_le _, fun _ z => absurd z (Nat.not_lt_zero _)⟩, ⟨h 6 (by decide) (by decide), Nat.zero_le _, fun _ z => absurd z (Nat.not_lt_zero _)⟩⟩

set_option maxHeartbeats 4000000 in
set_option maxRecDepth 100000 in
theorem c_M_readInto (l : Launch) (D : va_G) (cy : Nat → ClassId) (A : Nat → Prop) (X : State → Prop) (hst : mk_St A X) (hXT : ∀ U : State, X U → TB U) (G : Nat → Option va_E) (o : Nat) (Az : Nat → Nat) (Iv : Nat → Int32) (F : Nat → Nat → Int32) (L : Nat → Nat → Int64) (ft : Nat → Int32) (sx fr en bo : Nat) (ra : Nat) (hM : MD cy G o Az Iv F L) (hra : ra = Az sx) (hsx : sx = 40 ∨ sx = 46) (hfe : fr + en ≤ mdN sx) (hen : en ≤ 2000) (hbl : bo < 2) (h41 : Iv 41 = nI bo) (htx : ∀ i, i < en → chr (F sx (fr + i)) (ft i)) : Met l yX14_readInto [.code yX14_readInto cX14_readInto 4 (some .int)] ({ frames := 10, cells := 0, slots := 0, locals := 300 }) (mk_Pre D vwCl (tyL cy) A X G [.ref o, .ref ra, .int (nI fr), .int (nI en)]) (va_Qi (fun (r : Int32) (G2 : Nat → Option va_E) => ∃ (A2 : Nat → Nat) (I2 : Nat → Int32) (F2 : Nat → Nat → Int32) (cl2 : List CLi), A2 = va_up Az 47 ra ∧ MD cy G2 o A2 I2 F2 L ∧ MF G G2 o A2 ∧ LXq A2 I2 F2 ft sx fr en bo (q_fill (tkK ft en) (tkS ft en) (tkV ft en) (tkN ft en) EdV.nil (0, -1)).2 ∧ IZ I2 = IZ (upd (upd Iv 48 (nI fr)) 49 (nI (fr + en))) ∧ FrW (wB bo) F F2 ∧ ((q_fill (tkK ft en) (tkS ft en) (tkV ft en) (tkN ft en) EdV.nil (0, -1)).2.2 < 0 → r = 0 ∧ BK (tkK ft en) (tkV ft en) ((q_fill (tkK ft en) (tkS ft en) (tkV ft en) (tkN ft en) EdV.nil (0, -1)).2.1 + 1) F2 bo (q_fill (tkK ft en) (tkS ft en) (tkV ft en) (tkN ft en) EdV.nil (0, -1)).1 ∧ cl2 = clFi (tkK ft en) (tkS ft en) (tkV ft en) (tkN ft en) EdV.nil (0, -1) ∧ CLq I2 F2 ft en cl2 ((q_fill (tkK ft en) (tkS ft en) (tkV ft en) (tkN ft en) EdV.nil (0, -1)).2.1 + 1)) ∧ (¬ (q_fill (tkK ft en) (tkS ft en) (tkV ft en) (tkN ft en) EdV.nil (0, -1)).2.2 < 0 → r = lnc ft (tkS ft en (q_fill (tkK ft en) (tkS ft en) (tkV ft en) (tkN ft en) EdV.nil (0, -1)).2.1).toNatClampNeg)) (mk_B D vwCl A) A) 0 0 A := by
  refine Met.ofW (cc := cX14_readInto) (maxL := 4) (ret := (some .int)) (by decide) rfl ?_
  intro p e s m args below meth c s₁ B hml hv
  obtain ⟨rfl, hG, hK, hA, hX⟩ := hv
  have hx := B.exec
  have hb := B.bytes
  have hr := B.returns
  have hlocks := B.notSynchronized
  have hT := hXT s hX
  have hown : s.vm.findClass RX14 = some m.cls := findClass_of_methodNamed B.named
  have hf_X14 : ∀ w ∈ u_ws RX14 TX14 76, w.before ([.ref o, .ref ra, .int (nI fr), .int (nI en)] : List Value).toArray s = true := tb_list hT fX14
  have hS : va_S A s.heap s.heap [] := va_S.rf
  have hl := lv_entry ([.ref o, .ref ra, .int (nI fr), .int (nI en)]) (n := 4) (Nat.le_of_ble_eq_true rfl)
  rw [lg_entry_eq]
  generalize (lg_sl ([.ref o, .ref ra, .int (nI fr), .int (nI en)]) ++ List.replicate (4 - (lg_sl ([.ref o, .ref ra, .int (nI fr), .int (nI en)])).length) Slot.unset).toArray = ls at hl ⊢
  have hl : lv_has ls 4 [(0, .ref o), (1, .ref ra), (2, .int (nI fr)), (3, .int (nI en))] := hl
  have hF : MF G G o Az := MF.rf
  have hSn : ∀ p, ¬ tkS ft en p < 0 := fun p => tkS_ge hen p
  refine lv_aload_n hx hb dX14_readInto_0 rfl (lv_at hl 0 rfl) ?_
  refine lv_aload_n hx hb dX14_readInto_1 rfl (lv_at hl 1 rfl) ?_
  refine mm_put (v := .ref ra) (ty := .array .int) hx hb hf_X14 (fun _ h9 => h9) tyX14 tyX14_ok nmX14 hown hK hG hS hM.1 rfl 47 (by decide) (tb_use hT tw_1438) (fun _ h9 => h9) rfl (by decide +kernel) rfl rfl (mfs_l47 _ _) dX14_readInto_2 (fun H locs hG hS => ?_)
  have hM := MD.puts (a := ra) hM rfl
  have hF := hF.wo (e' := .inr (15, (mfs Az Iv).set 47 (.ref ra)))
  have hgn := gn_MD hG hM hF
  clear hG hM hF
  obtain ⟨G1, hG, hM, hF⟩ := hgn
  replace hF := hF.ar (Ar2 := va_up Az 47 ra) (fun k hk => va_up_ne _ _ (fun z => by rw [z] at hk; exact absurd hk (by decide)))
  have h47 : va_up Az 47 ra 47 = va_up Az 47 ra sx := by rw [va_up_self, va_up_ne _ _ (by omega), hra]
  obtain ⟨Ar, hAr⟩ : ∃ y, y = va_up Az 47 ra := ⟨_, rfl⟩
  rw [← hAr] at hM hF h47
  refine lv_aload_n hx hb dX14_readInto_5 rfl (lv_at hl 0 rfl) ?_
  refine lv_iload_n hx hb dX14_readInto_6 rfl (lv_at hl 2 rfl) ?_
  refine lv_topi (fun x2 ex2 => ?_)
  refine mm_put (v := .int x2) (ty := .int) hx hb hf_X14 (fun _ h9 => h9) tyX14 tyX14_ok nmX14 hown hK hG hS hM.1 rfl 48 (by decide) (tb_use hT tw_1439) (fun _ h9 => h9) rfl (by decide +kernel) rfl rfl (mfs_l48 _ _) dX14_readInto_7 (fun H locs hG hS => ?_)
  have hM := MD.puti (k := 48) (v := x2) hM (mfs_s48 _ _ _)
  have hF := hF.wo (e' := .inr (15, (mfs Ar Iv).set 48 (.int x2)))
  obtain ⟨I3, eI3⟩ : ∃ g, g = upd Iv 48 x2 := ⟨_, rfl⟩
  rw [← eI3] at hM
  have hgn := gn_MD hG hM hF
  clear hG hM hF
  obtain ⟨G4, hG, hM, hF⟩ := hgn
  refine lv_aload_n hx hb dX14_readInto_10 rfl (lv_at hl 0 rfl) ?_
  refine lv_iload_n hx hb dX14_readInto_11 rfl (lv_at hl 2 rfl) ?_
  refine lv_topi (fun x5 ex5 => ?_)
  refine mm_put (v := .int x5) (ty := .int) hx hb hf_X14 (fun _ h9 => h9) tyX14 tyX14_ok nmX14 hown hK hG hS hM.1 rfl 50 (by decide) (tb_use hT tw_1441) (fun _ h9 => h9) rfl (by decide +kernel) rfl rfl (mfs_l50 _ _) dX14_readInto_12 (fun H locs hG hS => ?_)
  have hM := MD.puti (k := 50) (v := x5) hM (mfs_s50 _ _ _)
  have hF := hF.wo (e' := .inr (15, (mfs Ar I3).set 50 (.int x5)))
  obtain ⟨I6, eI6⟩ : ∃ g, g = upd I3 50 x5 := ⟨_, rfl⟩
  rw [← eI6] at hM
  have hgn := gn_MD hG hM hF
  clear hG hM hF
  obtain ⟨G7, hG, hM, hF⟩ := hgn
  refine lv_aload_n hx hb dX14_readInto_15 rfl (lv_at hl 0 rfl) ?_
  refine lv_iload_n hx hb dX14_readInto_16 rfl (lv_at hl 2 rfl) ?_
  refine lv_iload_n hx hb dX14_readInto_17 rfl (lv_at hl 3 rfl) ?_
  refine lv_iadd hx hb dX14_readInto_18 ?_
  refine lv_topi (fun x8 ex8 => ?_)
  refine mm_put (v := .int x8) (ty := .int) hx hb hf_X14 (fun _ h9 => h9) tyX14 tyX14_ok nmX14 hown hK hG hS hM.1 rfl 49 (by decide) (tb_use hT tw_1440) (fun _ h9 => h9) rfl (by decide +kernel) rfl rfl (mfs_l49 _ _) dX14_readInto_19 (fun H locs hG hS => ?_)
  have hM := MD.puti (k := 49) (v := x8) hM (mfs_s49 _ _ _)
  have hF := hF.wo (e' := .inr (15, (mfs Ar I6).set 49 (.int x8)))
  obtain ⟨I9, eI9⟩ : ∃ g, g = upd I6 49 x8 := ⟨_, rfl⟩
  rw [← eI9] at hM
  have hgn := gn_MD hG hM hF
  clear hG hM hF
  obtain ⟨G10, hG, hM, hF⟩ := hgn
  refine lv_aload_n hx hb dX14_readInto_22 rfl (lv_at hl 0 rfl) ?_
  refine lv_iconst (v := 1) hx hb dX14_readInto_23 (by decide) ?_
  refine mm_put (v := .int 1) (ty := .int) hx hb hf_X14 (fun _ h9 => h9) tyX14 tyX14_ok nmX14 hown hK hG hS hM.1 rfl 51 (by decide) (tb_use hT tw_1442) (fun _ h9 => h9) rfl (by decide +kernel) rfl rfl (mfs_l51 _ _) dX14_readInto_24 (fun H locs hG hS => ?_)
  have hM := MD.puti (k := 51) (v := 1) hM (mfs_s51 _ _ _)
  have hF := hF.wo (e' := .inr (15, (mfs Ar I9).set 51 (.int 1)))
  obtain ⟨I11, eI11⟩ : ∃ g, g = upd I9 51 1 := ⟨_, rfl⟩
  rw [← eI11] at hM
  have hgn := gn_MD hG hM hF
  clear hG hM hF
  obtain ⟨G12, hG, hM, hF⟩ := hgn
  refine lv_aload_n hx hb dX14_readInto_27 rfl (lv_at hl 0 rfl) ?_
  refine lv_iconst (v := 1) hx hb dX14_readInto_28 (by decide) ?_
  refine mm_put (v := .int 1) (ty := .boolean) hx hb hf_X14 (fun _ h9 => h9) tyX14 tyX14_ok nmX14 hown hK hG hS hM.1 rfl 55 (by decide) (tb_use hT tw_1446) (fun _ h9 => h9) rfl (by decide +kernel) rfl rfl (mfs_l55 _ _) dX14_readInto_29 (fun H locs hG hS => ?_)
  have hM := MD.puti (k := 55) (v := 1) hM (mfs_s55 _ _ _)
  have hF := hF.wo (e' := .inr (15, (mfs Ar I11).set 55 (.int 1)))
  obtain ⟨I13, eI13⟩ : ∃ g, g = upd I11 55 1 := ⟨_, rfl⟩
  rw [← eI13] at hM
  have hgn := gn_MD hG hM hF
  clear hG hM hF
  obtain ⟨G14, hG, hM, hF⟩ := hgn
  refine lv_aload_n hx hb dX14_readInto_32 rfl (lv_at hl 0 rfl) ?_
  refine lv_iconst (v := 0) hx hb dX14_readInto_33 (by decide) ?_
  refine mm_put (v := .int 0) (ty := .int) hx hb hf_X14 (fun _ h9 => h9) tyX14 tyX14_ok nmX14 hown hK hG hS hM.1 rfl 58 (by decide) (tb_use hT tw_1449) (fun _ h9 => h9) rfl (by decide +kernel) rfl rfl (mfs_l58 _ _) dX14_readInto_34 (fun H locs hG hS => ?_)
  have hM := MD.puti (k := 58) (v := 0) hM (mfs_s58 _ _ _)
  have hF := hF.wo (e' := .inr (15, (mfs Ar I13).set 58 (.int 0)))
  obtain ⟨I15, eI15⟩ : ∃ g, g = upd I13 58 0 := ⟨_, rfl⟩
  rw [← eI15] at hM
  have hgn := gn_MD hG hM hF
  clear hG hM hF
  obtain ⟨G16, hG, hM, hF⟩ := hgn
  refine lv_aload_n hx hb dX14_readInto_37 rfl (lv_at hl 0 rfl) ?_
  refine va_callv (va_runV (As := []) (rest := []) ⟨hx, hb, hml, hown, (fun _ h9 => absurd h9 List.not_mem_nil : ∀ w ∈ ([] : List Cond), w.before _ s = true)⟩ (c_X14_clear l D cy A X hst hXT G16 o Ar I15 F L hM (by rw [show I15 41 = nI bo by rw [eI15, eI13, eI11, eI9, eI6, eI3]; exact h41]; exact nI_in (N := 2) hbl (by decide))) (tb_cw (C := RX14) 0 hT tw_1636 tw_109 tw_1633 tw_1635 tw_61 rfl rfl hq_X14_clear ⟨Nat.le_of_ble_eq_true rfl, Nat.le_of_ble_eq_true rfl⟩) (mk_preC hst hG hK hA hX hS vc_15 hM.1) rfl rfl hl.1 rfl (lv_room (Nat.le_of_ble_eq_true rfl)) dX14_readInto_38 ⟨Nat.le_of_ble_eq_true rfl, Nat.le_of_ble_eq_true rfl⟩) hS (fun q _ h => h) (fun q h => h) (fun  G17 t H locs ht hvm hw hB hz1 hk1 hS => ?_)
  have hG : mm D vwCl A G17 H := by rw [← ht]; exact hB
  clear hB hz1 hk1 hvm ht
  obtain ⟨hM2, hF2⟩ := hw
  replace hF := hF.tr hF2
  replace hM := hM2; clear hM2 hF2
  rw [show I15 41 = nI bo by rw [eI15, eI13, eI11, eI9, eI6, eI3]; exact h41, nI_clamp (by omega)] at hM
  have hlp : ∀ (n : Nat) (qj : Nat × Int32) (vj : EdV) (Ij : Nat → Int32) (Fj : Nat → Nat → Int32) (clj : List CLi) (cj : Nat) (RP : EdV × (Nat × Int32)) (CR : List CLi), (q_fill (tkK ft en) (tkS ft en) (tkV ft en) n vj qj = RP) → (tkN ft en ≤ n + qj.1 ∨ ¬ qj.2 < 0) → (LXq Ar Ij Fj ft sx fr en bo qj) → (qj.2 < 0 → BK (tkK ft en) (tkV ft en) (qj.1 + 1) Fj bo vj) → (CLq Ij Fj ft en clj cj) → (cj ≤ qj.1 + 1) → (IZ Ij = IZ (upd (upd Iv 48 (nI fr)) 49 (nI (fr + en)))) → (FrW (wB bo) F Fj) → (qj.2 < 0 → clj ++ clFi (tkK ft en) (tkS ft en) (tkV ft en) n vj qj = CR) → (RP = (q_fill (tkK ft en) (tkS ft en) (tkV ft en) (tkN ft en) EdV.nil (0, -1))) → (CR = clFi (tkK ft en) (tkS ft en) (tkV ft en) (tkN ft en) EdV.nil (0, -1)) → ∀ (Gv : Nat → Option va_E), (MD cy Gv o Ar Ij Fj L) → (MF G Gv o Ar) → ∀ (H : Heap) (locs : List Loc), mm D vwCl A Gv H → va_S A s.heap H locs → ∀ ls : Array Slot, lv_has ls 4 [(0, .ref o)] → W p l e (headSpec [.code yX14_readInto cX14_readInto 4 (some .int)] ({ frames := 10, cells := 0, slots := 0, locals := 300 })).room s m ([.ref o, .ref ra, .int (nI fr), .int (nI en)] : List Value).toArray below meth c H locs 0 0 (MQ below (va_Qi (fun (r : Int32) (G2 : Nat → Option va_E) => ∃ (A2 : Nat → Nat) (I2 : Nat → Int32) (F2 : Nat → Nat → Int32) (cl2 : List CLi), A2 = va_up Az 47 ra ∧ MD cy G2 o A2 I2 F2 L ∧ MF G G2 o A2 ∧ LXq A2 I2 F2 ft sx fr en bo (q_fill (tkK ft en) (tkS ft en) (tkV ft en) (tkN ft en) EdV.nil (0, -1)).2 ∧ IZ I2 = IZ (upd (upd Iv 48 (nI fr)) 49 (nI (fr + en))) ∧ FrW (wB bo) F F2 ∧ ((q_fill (tkK ft en) (tkS ft en) (tkV ft en) (tkN ft en) EdV.nil (0, -1)).2.2 < 0 → r = 0 ∧ BK (tkK ft en) (tkV ft en) ((q_fill (tkK ft en) (tkS ft en) (tkV ft en) (tkN ft en) EdV.nil (0, -1)).2.1 + 1) F2 bo (q_fill (tkK ft en) (tkS ft en) (tkV ft en) (tkN ft en) EdV.nil (0, -1)).1 ∧ cl2 = clFi (tkK ft en) (tkS ft en) (tkV ft en) (tkN ft en) EdV.nil (0, -1) ∧ CLq I2 F2 ft en cl2 ((q_fill (tkK ft en) (tkS ft en) (tkV ft en) (tkN ft en) EdV.nil (0, -1)).2.1 + 1)) ∧ (¬ (q_fill (tkK ft en) (tkS ft en) (tkV ft en) (tkN ft en) EdV.nil (0, -1)).2.2 < 0 → r = lnc ft (tkS ft en (q_fill (tkK ft en) (tkS ft en) (tkV ft en) (tkN ft en) EdV.nil (0, -1)).2.1).toNatClampNeg)) (mk_B D vwCl A) A) ([.ref o, .ref ra, .int (nI fr), .int (nI en)] : List Value).toArray s 0 0 A) (F0 m 45 ls []) := by
    intro n
    induction n with
    | zero =>
      intro qj vj Ij Fj clj cj RP CR hR hn hQ hB hC hc1 hIZ hFr hcr hRP hCR Gv hM hF H locs hG hS ls hl
      refine lv_aload_n hx hb dX14_readInto_45 rfl (lv_at hl 0 rfl) ?_
      refine mm_get (v := .int (Ij 55)) hx hb hf_X14 (fun _ h9 => h9) hown hK hG hM.1 rfl 55 (by decide) (tb_use hT tw_1446) (fun _ h9 => h9) (mfs_g55 _ _) dX14_readInto_46 ?_
      refine lv_if_eq (tgt := 66) hx hb dX14_readInto_49 (by decide) (fun c_49 => ?_) (fun c_49 => ?_)
      · skip
        refine lv_aload_n hx hb dX14_readInto_66 rfl (lv_at hl 0 rfl) ?_
        refine mm_get (v := .int (Ij 55)) hx hb hf_X14 (fun _ h9 => h9) hown hK hG hM.1 rfl 55 (by decide) (tb_use hT tw_1446) (fun _ h9 => h9) (mfs_g55 _ _) dX14_readInto_67 ?_
        refine lv_if_eq (tgt := 77) hx hb dX14_readInto_70 (by decide) (fun c_70 => ?_) (fun c_70 => ?_)
        · skip
          refine lv_aload_n hx hb dX14_readInto_77 rfl (lv_at hl 0 rfl) ?_
          refine mm_get (v := .int (Ij 54)) hx hb hf_X14 (fun _ h9 => h9) hown hK hG hM.1 rfl 54 (by decide) (tb_use hT tw_1445) (fun _ h9 => h9) (mfs_g54 _ _) dX14_readInto_78 ?_
          have hno : ¬ (qj.2 < 0 ∧ tkK ft en qj.1 ≠ 2) := fun z => (hQ.g1.mpr z.1) c_49
          have hqe : (q_fill (tkK ft en) (tkS ft en) (tkV ft en) (tkN ft en) EdV.nil (0, -1)) = (vj, qj) := by rw [← hRP, ← hR]; exact q_fill_f hno
          have hnf : ¬ qj.2 < 0 := fun z => (hQ.g1.mpr z) c_70
          obtain ⟨x9, hx1, hx2, hx3⟩ := hQ.2.2.2.1
          exact W.iret (v := (Ij 54)) hx hb hr (fun t ht hW => ⟨⟨_, _, rfl, ⟨Ar, Ij, Fj, clj, hAr, hM, hF, (by rw [hqe]; exact hQ), hIZ, hFr, (by rw [hqe]; exact fun z => absurd z hnf), (by rw [hqe]; intro _; rw [hx2, nI_clamp (by omega)]; exact hx3)⟩, mk_end hG ht⟩, hS.F ht⟩) hS.2.2 dX14_readInto_81
        · skip
          refine lv_iconst (v := 0) hx hb dX14_readInto_73 (by decide) ?_
          refine lv_goto (tgt := 81) hx hb dX14_readInto_74 (by decide) ?_
          have hno : ¬ (qj.2 < 0 ∧ tkK ft en qj.1 ≠ 2) := fun z => (hQ.g1.mpr z.1) c_49
          have hqe : (q_fill (tkK ft en) (tkS ft en) (tkV ft en) (tkN ft en) EdV.nil (0, -1)) = (vj, qj) := by rw [← hRP, ← hR]; exact q_fill_f hno
          have hgd : qj.2 < 0 := hQ.g1.mp c_70
          exact W.iret (v := 0) hx hb hr (fun t ht hW => ⟨⟨_, _, rfl, ⟨Ar, Ij, Fj, clj, hAr, hM, hF, (by rw [hqe]; exact hQ), hIZ, hFr, (by rw [hqe]; intro _; exact ⟨rfl, hB hgd, (by rw [← hCR, ← hcr hgd, clFi_f hno, List.append_nil]), hC.le hc1⟩), (by rw [hqe]; exact fun z => absurd hgd z)⟩, mk_end hG ht⟩, hS.F ht⟩) hS.2.2 dX14_readInto_81
      · skip
        refine lv_aload_n hx hb dX14_readInto_52 rfl (lv_at hl 0 rfl) ?_
        refine mm_get (v := .int (Ij 52)) hx hb hf_X14 (fun _ h9 => h9) hown hK hG hM.1 rfl 52 (by decide) (tb_use hT tw_1443) (fun _ h9 => h9) (mfs_g52 _ _) dX14_readInto_53 ?_
        refine lv_if_eq (tgt := 66) hx hb dX14_readInto_56 (by decide) (fun c_56 => ?_) (fun c_56 => ?_)
        · skip
          refine lv_aload_n hx hb dX14_readInto_66 rfl (lv_at hl 0 rfl) ?_
          refine mm_get (v := .int (Ij 55)) hx hb hf_X14 (fun _ h9 => h9) hown hK hG hM.1 rfl 55 (by decide) (tb_use hT tw_1446) (fun _ h9 => h9) (mfs_g55 _ _) dX14_readInto_67 ?_
          refine lv_if_eq (tgt := 77) hx hb dX14_readInto_70 (by decide) (fun c_70 => ?_) (fun c_70 => ?_)
          · skip
            refine lv_aload_n hx hb dX14_readInto_77 rfl (lv_at hl 0 rfl) ?_
            refine mm_get (v := .int (Ij 54)) hx hb hf_X14 (fun _ h9 => h9) hown hK hG hM.1 rfl 54 (by decide) (tb_use hT tw_1445) (fun _ h9 => h9) (mfs_g54 _ _) dX14_readInto_78 ?_
            have hno : ¬ (qj.2 < 0 ∧ tkK ft en qj.1 ≠ 2) := fun z => z.2 (hQ.kd.end_.mp c_56)
            have hqe : (q_fill (tkK ft en) (tkS ft en) (tkV ft en) (tkN ft en) EdV.nil (0, -1)) = (vj, qj) := by rw [← hRP, ← hR]; exact q_fill_f hno
            have hnf : ¬ qj.2 < 0 := fun z => (hQ.g1.mpr z) c_70
            obtain ⟨x9, hx1, hx2, hx3⟩ := hQ.2.2.2.1
            exact W.iret (v := (Ij 54)) hx hb hr (fun t ht hW => ⟨⟨_, _, rfl, ⟨Ar, Ij, Fj, clj, hAr, hM, hF, (by rw [hqe]; exact hQ), hIZ, hFr, (by rw [hqe]; exact fun z => absurd z hnf), (by rw [hqe]; intro _; rw [hx2, nI_clamp (by omega)]; exact hx3)⟩, mk_end hG ht⟩, hS.F ht⟩) hS.2.2 dX14_readInto_81
          · skip
            refine lv_iconst (v := 0) hx hb dX14_readInto_73 (by decide) ?_
            refine lv_goto (tgt := 81) hx hb dX14_readInto_74 (by decide) ?_
            have hno : ¬ (qj.2 < 0 ∧ tkK ft en qj.1 ≠ 2) := fun z => z.2 (hQ.kd.end_.mp c_56)
            have hqe : (q_fill (tkK ft en) (tkS ft en) (tkV ft en) (tkN ft en) EdV.nil (0, -1)) = (vj, qj) := by rw [← hRP, ← hR]; exact q_fill_f hno
            have hgd : qj.2 < 0 := hQ.g1.mp c_70
            exact W.iret (v := 0) hx hb hr (fun t ht hW => ⟨⟨_, _, rfl, ⟨Ar, Ij, Fj, clj, hAr, hM, hF, (by rw [hqe]; exact hQ), hIZ, hFr, (by rw [hqe]; intro _; exact ⟨rfl, hB hgd, (by rw [← hCR, ← hcr hgd, clFi_f hno, List.append_nil]), hC.le hc1⟩), (by rw [hqe]; exact fun z => absurd hgd z)⟩, mk_end hG ht⟩, hS.F ht⟩) hS.2.2 dX14_readInto_81
        · skip
          exact absurd hQ.2.1.1 (by rcases hn with z | z; omega; exact absurd (hQ.g1.mp c_49) z)
    | succ n ih =>
      intro qj vj Ij Fj clj cj RP CR hR hn hQ hB hC hc1 hIZ hFr hcr hRP hCR Gv hM hF H locs hG hS ls hl
      refine lv_aload_n hx hb dX14_readInto_45 rfl (lv_at hl 0 rfl) ?_
      refine mm_get (v := .int (Ij 55)) hx hb hf_X14 (fun _ h9 => h9) hown hK hG hM.1 rfl 55 (by decide) (tb_use hT tw_1446) (fun _ h9 => h9) (mfs_g55 _ _) dX14_readInto_46 ?_
      refine lv_if_eq (tgt := 66) hx hb dX14_readInto_49 (by decide) (fun c_49 => ?_) (fun c_49 => ?_)
      · skip
        refine lv_aload_n hx hb dX14_readInto_66 rfl (lv_at hl 0 rfl) ?_
        refine mm_get (v := .int (Ij 55)) hx hb hf_X14 (fun _ h9 => h9) hown hK hG hM.1 rfl 55 (by decide) (tb_use hT tw_1446) (fun _ h9 => h9) (mfs_g55 _ _) dX14_readInto_67 ?_
        refine lv_if_eq (tgt := 77) hx hb dX14_readInto_70 (by decide) (fun c_70 => ?_) (fun c_70 => ?_)
        · skip
          refine lv_aload_n hx hb dX14_readInto_77 rfl (lv_at hl 0 rfl) ?_
          refine mm_get (v := .int (Ij 54)) hx hb hf_X14 (fun _ h9 => h9) hown hK hG hM.1 rfl 54 (by decide) (tb_use hT tw_1445) (fun _ h9 => h9) (mfs_g54 _ _) dX14_readInto_78 ?_
          have hno : ¬ (qj.2 < 0 ∧ tkK ft en qj.1 ≠ 2) := fun z => (hQ.g1.mpr z.1) c_49
          have hqe : (q_fill (tkK ft en) (tkS ft en) (tkV ft en) (tkN ft en) EdV.nil (0, -1)) = (vj, qj) := by rw [← hRP, ← hR]; exact q_fill_f hno
          have hnf : ¬ qj.2 < 0 := fun z => (hQ.g1.mpr z) c_70
          obtain ⟨x9, hx1, hx2, hx3⟩ := hQ.2.2.2.1
          exact W.iret (v := (Ij 54)) hx hb hr (fun t ht hW => ⟨⟨_, _, rfl, ⟨Ar, Ij, Fj, clj, hAr, hM, hF, (by rw [hqe]; exact hQ), hIZ, hFr, (by rw [hqe]; exact fun z => absurd z hnf), (by rw [hqe]; intro _; rw [hx2, nI_clamp (by omega)]; exact hx3)⟩, mk_end hG ht⟩, hS.F ht⟩) hS.2.2 dX14_readInto_81
        · skip
          refine lv_iconst (v := 0) hx hb dX14_readInto_73 (by decide) ?_
          refine lv_goto (tgt := 81) hx hb dX14_readInto_74 (by decide) ?_
          have hno : ¬ (qj.2 < 0 ∧ tkK ft en qj.1 ≠ 2) := fun z => (hQ.g1.mpr z.1) c_49
          have hqe : (q_fill (tkK ft en) (tkS ft en) (tkV ft en) (tkN ft en) EdV.nil (0, -1)) = (vj, qj) := by rw [← hRP, ← hR]; exact q_fill_f hno
          have hgd : qj.2 < 0 := hQ.g1.mp c_70
          exact W.iret (v := 0) hx hb hr (fun t ht hW => ⟨⟨_, _, rfl, ⟨Ar, Ij, Fj, clj, hAr, hM, hF, (by rw [hqe]; exact hQ), hIZ, hFr, (by rw [hqe]; intro _; exact ⟨rfl, hB hgd, (by rw [← hCR, ← hcr hgd, clFi_f hno, List.append_nil]), hC.le hc1⟩), (by rw [hqe]; exact fun z => absurd hgd z)⟩, mk_end hG ht⟩, hS.F ht⟩) hS.2.2 dX14_readInto_81
      · skip
        refine lv_aload_n hx hb dX14_readInto_52 rfl (lv_at hl 0 rfl) ?_
        refine mm_get (v := .int (Ij 52)) hx hb hf_X14 (fun _ h9 => h9) hown hK hG hM.1 rfl 52 (by decide) (tb_use hT tw_1443) (fun _ h9 => h9) (mfs_g52 _ _) dX14_readInto_53 ?_
        refine lv_if_eq (tgt := 66) hx hb dX14_readInto_56 (by decide) (fun c_56 => ?_) (fun c_56 => ?_)
        · skip
          refine lv_aload_n hx hb dX14_readInto_66 rfl (lv_at hl 0 rfl) ?_
          refine mm_get (v := .int (Ij 55)) hx hb hf_X14 (fun _ h9 => h9) hown hK hG hM.1 rfl 55 (by decide) (tb_use hT tw_1446) (fun _ h9 => h9) (mfs_g55 _ _) dX14_readInto_67 ?_
          refine lv_if_eq (tgt := 77) hx hb dX14_readInto_70 (by decide) (fun c_70 => ?_) (fun c_70 => ?_)
          · skip
            refine lv_aload_n hx hb dX14_readInto_77 rfl (lv_at hl 0 rfl) ?_
            refine mm_get (v := .int (Ij 54)) hx hb hf_X14 (fun _ h9 => h9) hown hK hG hM.1 rfl 54 (by decide) (tb_use hT tw_1445) (fun _ h9 => h9) (mfs_g54 _ _) dX14_readInto_78 ?_
            have hno : ¬ (qj.2 < 0 ∧ tkK ft en qj.1 ≠ 2) := fun z => z.2 (hQ.kd.end_.mp c_56)
            have hqe : (q_fill (tkK ft en) (tkS ft en) (tkV ft en) (tkN ft en) EdV.nil (0, -1)) = (vj, qj) := by rw [← hRP, ← hR]; exact q_fill_f hno
            have hnf : ¬ qj.2 < 0 := fun z => (hQ.g1.mpr z) c_70
            obtain ⟨x9, hx1, hx2, hx3⟩ := hQ.2.2.2.1
            exact W.iret (v := (Ij 54)) hx hb hr (fun t ht hW => ⟨⟨_, _, rfl, ⟨Ar, Ij, Fj, clj, hAr, hM, hF, (by rw [hqe]; exact hQ), hIZ, hFr, (by rw [hqe]; exact fun z => absurd z hnf), (by rw [hqe]; intro _; rw [hx2, nI_clamp (by omega)]; exact hx3)⟩, mk_end hG ht⟩, hS.F ht⟩) hS.2.2 dX14_readInto_81
          · skip
            refine lv_iconst (v := 0) hx hb dX14_readInto_73 (by decide) ?_
            refine lv_goto (tgt := 81) hx hb dX14_readInto_74 (by decide) ?_
            have hno : ¬ (qj.2 < 0 ∧ tkK ft en qj.1 ≠ 2) := fun z => z.2 (hQ.kd.end_.mp c_56)
            have hqe : (q_fill (tkK ft en) (tkS ft en) (tkV ft en) (tkN ft en) EdV.nil (0, -1)) = (vj, qj) := by rw [← hRP, ← hR]; exact q_fill_f hno
            have hgd : qj.2 < 0 := hQ.g1.mp c_70
            exact W.iret (v := 0) hx hb hr (fun t ht hW => ⟨⟨_, _, rfl, ⟨Ar, Ij, Fj, clj, hAr, hM, hF, (by rw [hqe]; exact hQ), hIZ, hFr, (by rw [hqe]; intro _; exact ⟨rfl, hB hgd, (by rw [← hCR, ← hcr hgd, clFi_f hno, List.append_nil]), hC.le hc1⟩), (by rw [hqe]; exact fun z => absurd hgd z)⟩, mk_end hG ht⟩, hS.F ht⟩) hS.2.2 dX14_readInto_81
        · skip
          have hgd : qj.2 < 0 ∧ tkK ft en qj.1 ≠ 2 := ⟨hQ.g1.mp c_49, fun z => c_56 (hQ.kd.end_.mpr z)⟩
          refine lv_aload_n hx hb dX14_readInto_59 rfl (lv_at hl 0 rfl) ?_
          refine va_callv (va_runV (As := []) (rest := []) ⟨hx, hb, hml, hown, (fun _ h9 => absurd h9 List.not_mem_nil : ∀ w ∈ ([] : List Cond), w.before _ s = true)⟩ (c_M_stm l D cy A X hst hXT Gv o Ar Ij Fj L ft sx fr en bo qj clj cj vj hM hQ hC hc1 hgd.1 (hB hgd.1)) (tb_cw (C := RX14) 0 hT tw_1693 tw_109 tw_1690 tw_1692 tw_67 rfl rfl hq_X14_statement ⟨Nat.le_of_ble_eq_true rfl, Nat.le_of_ble_eq_true rfl⟩) (mk_preC hst hG hK hA hX hS vc_15 hM.1) rfl rfl hl.1 rfl (lv_room (Nat.le_of_ble_eq_true rfl)) dX14_readInto_60 ⟨Nat.le_of_ble_eq_true rfl, Nat.le_of_ble_eq_true rfl⟩) hS (fun q _ h => h) (fun q h => h) (fun  G19 t H locs ht hvm hw hB hz1 hk1 hS => ?_)
          have hG : mm D vwCl A G19 H := by rw [← ht]; exact hB
          clear hB hz1 hk1 hvm ht
          obtain ⟨a9, ea9⟩ : ∃ y, y = q_stm (tkK ft en) (tkS ft en) (tkV ft en) vj qj := ⟨_, rfl⟩
          rw [← ea9] at hw
          obtain ⟨I9, F9, cl9, hM2, hF2, hQ2, hI2, hFr2, hC2, hg2, hs2⟩ := hw
          replace hF := hF.tr hF2; replace hM := hM2; clear hM2 hF2
          refine lv_goto (tgt := 45) hx hb dX14_readInto_63 (by decide) ?_
          have hR2 : q_fill (tkK ft en) (tkS ft en) (tkV ft en) n a9.1 a9.2 = RP := by rw [← hR, q_fill, if_pos hgd, ← ea9]
          have hn2 : tkN ft en ≤ n + a9.2.1 ∨ ¬ a9.2.2 < 0 := by rcases Decidable.em (a9.2.2 < 0) with z | z; (have y := adv_stm hSn (K := tkK ft en) (V := tkV ft en) (v := vj) (q := qj) (by rw [← ea9]; exact z); rw [← ea9] at y; rcases hn with w1 | w1; exact Or.inl (by omega); exact absurd hgd.1 w1); exact Or.inr z
          exact ih a9.2 a9.1 I9 F9 cl9 (a9.2.1 + 1) RP CR hR2 hn2 hQ2 (fun z => (hs2 z).1) hC2 (Nat.le_refl _) (hI2.trans hIZ) (hFr.tr hFr2) (fun z => by rw [(hs2 z).2, List.append_assoc, ← hcr hgd.1, clFi, if_pos hgd, ← ea9]) hRP hCR G19 hM hF _ _ hG hS ls (lv_sub hl [0] rfl)
  refine lv_aload_n hx hb dX14_readInto_41 rfl (lv_at hl 0 rfl) ?_
  have hLs0 : LXs Ar I15 (clF F bo) ft sx fr en bo := ⟨hsx, h47, hfe, hen, hbl, (by rw [eI15, eI13, eI11, eI9, eI6, eI3]; exact h41), (by rw [eI15, eI13, eI11, eI9, eI6, eI3]; show x8 = _; rw [ex8, nI_add]), (by rcases hsx with z | z <;> (rw [z] at htx ⊢; exact htx))⟩
  have hLp0 : LXp Ar I15 (clF F bo) ft sx fr en bo 0 0 := ⟨hLs0, PA.zero, (by rw [eI15, eI13, eI11, eI9, eI6, eI3]; show x5 = _; rw [ex5]; rfl), (by rw [eI15, eI13, eI11, eI9, eI6, eI3]; rfl), ⟨clF_at (by decide), fun j hj => absurd hj (Nat.not_lt_zero j)⟩⟩
  refine va_callv (va_runV (As := []) (rest := []) ⟨hx, hb, hml, hown, (fun _ h9 => absurd h9 List.not_mem_nil : ∀ w ∈ ([] : List Cond), w.before _ s = true)⟩ (c_M_next l D cy A X hst hXT G17 o Ar I15 (clF F bo) L ft sx fr en bo 0 0 (-1) hM hLp0 (by rw [eI15, eI13, eI11, eI9, eI6, eI3]; rfl) (by decide)) (tb_cw (C := RX14) 0 hT tw_1640 tw_109 tw_1637 tw_1639 tw_62 rfl rfl hq_X14_next ⟨Nat.le_of_ble_eq_true rfl, Nat.le_of_ble_eq_true rfl⟩) (mk_preC hst hG hK hA hX hS vc_15 hM.1) rfl rfl hl.1 rfl (lv_room (Nat.le_of_ble_eq_true rfl)) dX14_readInto_42 ⟨Nat.le_of_ble_eq_true rfl, Nat.le_of_ble_eq_true rfl⟩) hS (fun q _ h => h) (fun q h => h) (fun  G20 t H locs ht hvm hw hB hz1 hk1 hS => ?_)
  have hG : mm D vwCl A G20 H := by rw [← ht]; exact hB
  clear hB hz1 hk1 hvm ht
  obtain ⟨I9, F9, hM2, hF2, hQ, hI2, hX2⟩ := hw
  replace hF := hF.tr hF2; replace hM := hM2; clear hM2 hF2
  have hIZ : IZ I9 = IZ (upd (upd Iv 48 (nI fr)) 49 (nI (fr + en))) := IZ_cg (fun j hj => by rw [IXe hI2 (by omega), eI15, pk_un (by omega), eI13, pk_un (by omega), eI11, pk_un (by omega), eI9]; by_cases z1 : j = 49; (rw [z1, pk_us, pk_us, ex8, nI_add]); (rw [pk_un z1, pk_un z1, eI6, pk_un (by omega), eI3, ex2]))
  have hFr : FrW (wB bo) F F9 := clF_fr.fx hX2
  have hC : CLq I9 F9 ft en [] 1 := ⟨(by rw [IXe hI2 (by decide)]; rw [eI15, eI13, eI11, eI9, eI6, eI3]; rfl), Nat.zero_lt_one, fun k x hk => by cases hk⟩
  have hB : BK (tkK ft en) (tkV ft en) ((0, (-1 : Int32)).1 + 1) F9 bo EdV.nil := BK.nil (fun k h1 h2 => by rw [FXe hX2 (by omega)]; exact clF_at (by omega))
  exact hlp (tkN ft en) (0, -1) EdV.nil I9 F9 [] 1 (q_fill (tkK ft en) (tkS ft en) (tkV ft en) (tkN ft en) EdV.nil (0, -1)) (clFi (tkK ft en) (tkS ft en) (tkV ft en) (tkN ft en) EdV.nil (0, -1)) rfl (Or.inl (Nat.le_refl _)) hQ (fun _ => hB) hC (Nat.le_refl _) hIZ hFr (fun _ => rfl) rfl rfl G20 hM hF _ _ hG hS ls (lv_sub hl [0] rfl)
