/-- the rows that find leaves: which parameters are there, where, how long, their raws -/
def RFP (F : Nat → Nat → Int32) (L : Nat → Nat → Int64) (T : PdT) (m : Nat) : Prop := ∀ i, i < m → F 71 i = (if (T i).2.1 = 0 then 0 else 1) ∧ (¬ (T i).2.1 = 0 → F 72 i = (T i).1 ∧ F 73 i = (T i).2.1 ∧ L 74 i = (T i).2.2.1)
theorem RFP.step {F F2 : Nat → Nat → Int32} {L L2 : Nat → Nat → Int64} {T T2 : PdT} {m : Nat} (h : RFP F L T m) (hF : ∀ j i, 71 ≤ j → j ≤ 73 → i ≠ m → F2 j i = F j i) (hu : ∀ i, i ≠ m → L2 74 i = L 74 i) (hT : ∀ i, i < m → T2 i = T i) (h0 : F2 71 m = (if (T2 m).2.1 = 0 then 0 else 1) ∧ (¬ (T2 m).2.1 = 0 → F2 72 m = (T2 m).1 ∧ F2 73 m = (T2 m).2.1 ∧ L2 74 m = (T2 m).2.2.1)) : RFP F2 L2 T2 (m + 1) := by
  intro i hi
  by_cases e : i = m
  · rw [e]
    exact h0
  · rw [hT i (by omega), hF 71 i (by decide) (by decide) e, hF 72 i (by decide) (by decide) e, hF 73 i (by decide) (by decide) e, hu i e]
    exact h i (by omega)
theorem VLD.pe {v : EdV} (h : VLD v) {s i : Nat} (hs : s < v.nS) (hi : i < v.nP s) (hk : ¬ (v.P s i).2.2.2.2.1 = 0) : ∃ u, u < i ∧ paN v s (v.P s i).2.2.2.2.2.1 = some u ∧ peI v s i = some u := by
  have hw := h 11 s (8 * s + i) _ ⟨hs, i, hi, rfl, hk, rfl⟩
  rw [w_11] at hw
  unfold eB at hw
  unfold peI
  rw [if_neg hk]
  cases hq : paN v s (v.P s i).2.2.2.2.2.1 with
  | none =>
    rw [hq] at hw
    have y : (!false) = false := hw
    cases y
  | some k =>
    rw [hq] at hw
    have y : (!(decide (k < i))) = false := hw
    rw [Bool.not_eq_false'] at y
    have z := of_decide_eq_true y
    exact ⟨k, z, rfl, if_pos z⟩
theorem VLD.cd {v : EdV} (h : VLD v) {s i : Nat} (h8 : v.nP s ≤ 8) (hs : s < v.nS) (hi : i < v.nP s) : ∃ c, cdN v (v.P s i).2.2.1 = some c ∧ c < v.nC := by
  have hw := h 10 (8 * s + i) 0 _ ⟨s, hs, i, hi, rfl, rfl, rfl⟩
  rw [w_10 (by omega)] at hw
  cases hq : cdN v (v.P s i).2.2.1 with
  | none => rw [hq] at hw; cases hw
  | some c => exact ⟨c, rfl, cdN_lt hq⟩
theorem gr_eq {F : Nat → Nat → Int32} {L : Nat → Nat → Int64} {v : EdV} {c p q u : Nat} {P : PdT} (h26 : F 26 q = (v.P c p).2.2.2.2.1) (h28 : F 28 q = (v.P c p).2.2.2.2.2.2.2) (hu : ¬ (v.P c p).2.2.2.2.1 = 0 → peI v c p = some u ∧ F 71 u = (if (P u).2.1 = 0 then 0 else 1) ∧ (¬ (P u).2.1 = 0 → L 74 u = (P u).2.2.1)) : grM F L q u = nI (grN v c p P) := by
  unfold grM grN
  rw [h26, h28]
  by_cases hk : (v.P c p).2.2.2.2.1 = 0
  · rw [if_pos hk, if_pos hk]
    rfl
  · obtain ⟨h1, h2, h3⟩ := hu hk
    rw [if_neg hk, if_neg hk, h1, h2]
    dsimp only
    by_cases h0 : (P u).2.1 = 0
    · rw [if_pos h0, if_pos h0, if_pos rfl]
      rfl
    · rw [if_neg h0, if_neg h0, if_neg (by decide), h3 h0]
      by_cases h5 : (v.P c p).2.2.2.2.1 = 1
      · rw [if_pos h5, if_pos h5]
        split <;> rfl
      · rw [if_neg h5, if_neg h5, ← (clN_ok (P u).2.2.1).1]
        generalize (P u).2.2.1 = r
        unfold lmax lmin
        by_cases a1 : r < 0
        · have a2 : r ≤ 8 := Int64.le_iff_toInt_le.mpr (by have y := Int64.lt_iff_toInt_lt.mp a1; rw [show (0 : Int64).toInt = 0 by decide] at y; rw [show (8 : Int64).toInt = 8 by decide]; omega)
          rw [if_pos a1, if_pos a2, if_pos (Int64.le_of_lt a1)]
          rfl
        · rw [if_neg a1]
          by_cases a2 : 8 < r
          · rw [if_pos a2, if_neg (Int64.not_le.mpr a2), if_neg (by decide)]
            rfl
          · rw [if_neg a2, if_pos (Int64.not_lt.mp a2)]
            by_cases a3 : r ≤ 0
            · rw [if_pos a3, Int64.le_antisymm a3 (Int64.not_lt.mp a1)]
            · rw [if_neg a3]
theorem rwL_cg {g g2 : Nat → Int32} : ∀ {w : Nat}, (∀ j, j < w → g j = g2 j) → rwL g w = rwL g2 w := by
  intro w
  induction w with
  | zero => intro _; rfl
  | succ w ih => intro h; rw [rwL, rwL, ih (fun j hj => h j (by omega)), h w (Nat.lt_succ_self w)]
theorem sg_of {K : Nat → Nat} {V : Nat → Int64} {n : Nat} {F : Nat → Nat → Int32} {i : Nat} {x : (Int32 × Int64 × Int32) × (Int32 × Int32 × Int64 × Int64 × Int64)} (h : CDf K V n F i x) : (x.2.1 = 0 ∨ x.2.1 = 1) ∧ (F 11 i = 1 ↔ x.2.1 = 1) := by
  rcases h.2.2 with ⟨a, b⟩ | ⟨a, b⟩ | ⟨a, b⟩
  · rw [a, b]
    exact ⟨Or.inr rfl, ⟨fun _ => rfl, fun _ => rfl⟩⟩
  · rw [a, b]
    exact ⟨Or.inl rfl, ⟨fun z => absurd z (by decide), fun z => absurd z (by show ¬ (0 : Int32) = 1; decide)⟩⟩
  · rw [b]
    refine ⟨Or.inl rfl, ⟨fun z => ?_, fun z => absurd z (by decide)⟩⟩
    rcases a with a | a <;> (rw [a] at z; exact absurd z (by decide))
theorem updL_eq {f : Nat → Int64} {i : Nat} {x : Int64} : vp_updL f i x i = x := by unfold vp_updL; exact if_pos rfl
theorem updL_ne {f : Nat → Int64} {i j : Nat} {x : Int64} (h : j ≠ i) : vp_updL f i x j = f j := by unfold vp_updL; exact if_neg h
set_option maxHeartbeats 4000000 in
set_option maxRecDepth 100000 in
theorem c_M_findA (l : Launch) (D : va_G) (cy : Nat → ClassId) (A : Nat → Prop) (X : State → Prop) (hst : mk_St A X) (hXT : ∀ U : State, X U → TB U) (G : Nat → Option va_E) (o : Nat) (Ar : Nat → Nat) (Iv : Nat → Int32) (F : Nat → Nat → Int32) (L : Nat → Nat → Int64) (ft : Nat → Int32) (en b9 n9 : Nat) (v9 : EdV) (s9 ln : Nat) (f9 : Nat → Int32) (P0 : PdT) (hM : MD cy G o Ar Iv F L) (hB : BK (tkK ft en) (tkV ft en) n9 F b9 v9) (hVL : VLD v9) (hWd : WDv v9) (hn30 : n9 < 2 ^ 30) (hb9 : b9 < 2) (hbk : Iv 42 = nI b9) (hs9 : s9 < v9.nS) (hln : ln ≤ 64) (hoc : ∀ i, i < ln → F 65 i = oc_at (nI ln) f9 (nI i) ∧ 0 ≤ (F 65 i).toInt ∧ (F 65 i).toInt < 256) : Met l yX14_find [.code yX14_find cX14_find 13 (some .int)] ({ frames := 2, cells := 0, slots := 0, locals := 60 }) (mk_Pre D vwCl (tyL cy) A X G [.ref o, .int (nI s9), .ref (Ar 65), .int (nI ln), .int 0]) (va_Qi (fun (r : Int32) (G2 : Nat → Option va_E) => ∃ (F2 : Nat → Nat → Int32) (L2 : Nat → Nat → Int64), MD cy G2 o Ar Iv F2 L2 ∧ MF G G2 o Ar ∧ (∀ j, ¬ (71 ≤ j ∧ j ≤ 73) → F2 j = F j) ∧ (∀ j, ¬ j = 74 → L2 j = L j) ∧ RFP F2 L2 (teF v9 s9 ln f9 P0) (v9.nP s9)) (mk_B D vwCl A) A) 0 0 A := by
  refine Met.ofW (cc := cX14_find) (maxL := 13) (ret := (some .int)) (by decide) rfl ?_
  intro p e s m args below meth c s₁ B hml hv
  obtain ⟨rfl, hG, hK, hA, hX⟩ := hv
  have hx := B.exec
  have hb := B.bytes
  have hr := B.returns
  have hlocks := B.notSynchronized
  have hT := hXT s hX
  have hown : s.vm.findClass RX14 = some m.cls := findClass_of_methodNamed B.named
  have hf_X14 : ∀ w ∈ u_ws RX14 TX14 76, w.before ([.ref o, .int (nI s9), .ref (Ar 65), .int (nI ln), .int 0] : List Value).toArray s = true := tb_list hT fX14
  have hS : va_S A s.heap s.heap [] := va_S.rf
  have hl := lv_entry ([.ref o, .int (nI s9), .ref (Ar 65), .int (nI ln), .int 0]) (n := 13) (Nat.le_of_ble_eq_true rfl)
  rw [lg_entry_eq]
  generalize (lg_sl ([.ref o, .int (nI s9), .ref (Ar 65), .int (nI ln), .int 0]) ++ List.replicate (13 - (lg_sl ([.ref o, .int (nI s9), .ref (Ar 65), .int (nI ln), .int 0])).length) Slot.unset).toArray = ls at hl ⊢
  have hl : lv_has ls 13 [(0, .ref o), (1, .int (nI s9)), (2, .ref (Ar 65)), (3, .int (nI ln)), (4, .int 0)] := hl
  have hF : MF G G o Ar := MF.rf
  have hs16 := hB.2.2.1.2.1
  have hsr := hB.2.2.1.2.2 s9 hs9
  have hp8 := hsr.2.2.2.2.1
  obtain ⟨RT, hRT0⟩ : ∃ y, teF v9 s9 ln f9 P0 = y := ⟨_, rfl⟩
  have hlf : ∀ (n : Nat) (i9 k9 : Nat) (xg : Int32) (Pj : PdT) (Fj : Nat → Nat → Int32) (Lj : Nat → Nat → Int64), (n + i9 = v9.nP s9) → (1 ≤ k9 ∧ k9 ≤ 64) → ((xg = 0 ∧ tlF v9 s9 ln f9 n i9 k9 Pj = RT ∧ k9 ≤ ln) ∨ (xg = 1 ∧ Pj = RT)) → (∀ i, i9 ≤ i → i < v9.nP s9 → (Pj i).2.1 = 0) → (RFP Fj Lj Pj i9) → (∀ j, ¬ (71 ≤ j ∧ j ≤ 73) → Fj j = F j) → (∀ j, ¬ j = 74 → Lj j = L j) → ∀ (Gv : Nat → Option va_E), (MD cy Gv o Ar Iv Fj Lj) → (MF G Gv o Ar) → ∀ (H : Heap) (locs : List Loc), mm D vwCl A Gv H → va_S A s.heap H locs → ∀ ls : Array Slot, lv_has ls 13 [(0, .ref o), (1, .int (nI s9)), (2, .ref (Ar 65)), (3, .int (nI ln)), (4, .int 0), (5, .int (nI k9)), (6, .int xg), (7, .int (nI i9))] → W p l e (headSpec [.code yX14_find cX14_find 13 (some .int)] ({ frames := 2, cells := 0, slots := 0, locals := 60 })).room s m ([.ref o, .int (nI s9), .ref (Ar 65), .int (nI ln), .int 0] : List Value).toArray below meth c H locs 0 0 (MQ below (va_Qi (fun (r : Int32) (G2 : Nat → Option va_E) => ∃ (F2 : Nat → Nat → Int32) (L2 : Nat → Nat → Int64), MD cy G2 o Ar Iv F2 L2 ∧ MF G G2 o Ar ∧ (∀ j, ¬ (71 ≤ j ∧ j ≤ 73) → F2 j = F j) ∧ (∀ j, ¬ j = 74 → L2 j = L j) ∧ RFP F2 L2 (teF v9 s9 ln f9 P0) (v9.nP s9)) (mk_B D vwCl A) A) ([.ref o, .int (nI s9), .ref (Ar 65), .int (nI ln), .int 0] : List Value).toArray s 0 0 A) (F0 m 45 ls []) := by
    intro n
    induction n with
    | zero =>
      intro i9 k9 xg Pj Fj Lj hin hk9 hR hz hTt hFo hLo Gv hM hF H locs hG hS ls hl
      refine lv_iload hx hb dX14_find_45 (lv_at hl 7 rfl) ?_
      refine lv_aload_n hx hb dX14_find_47 rfl (lv_at hl 0 rfl) ?_
      refine mm_get (v := .ref (Ar 23)) hx hb hf_X14 (fun _ h9 => h9) hown hK hG hM.1 rfl 23 (by decide) (tb_use hT tw_1414) (fun _ h9 => h9) (mfs_g23 _ _) dX14_find_48 ?_
      refine lv_bipush (v := 16) hx hb dX14_find_51 (by decide) ?_
      refine lv_aload_n hx hb dX14_find_53 rfl (lv_at hl 0 rfl) ?_
      refine mm_get (v := .int (Iv 42)) hx hb hf_X14 (fun _ h9 => h9) hown hK hG hM.1 rfl 42 (by decide) (tb_use hT tw_1433) (fun _ h9 => h9) (mfs_g42 _ _) dX14_find_54 ?_
      rw [hbk]
      refine lv_imul hx hb dX14_find_57 ?_
      refine lv_iload_n hx hb dX14_find_58 rfl (lv_at hl 1 rfl) ?_
      refine lv_iadd hx hb dX14_find_59 ?_
      refine mm_iald (n := 32) (f := Fj 23) hx hb hK hG 1 (hM.2.1 23 rfl) rfl (by rw [show (16 : Int32) * nI b9 + nI s9 = nI (16 * b9 + s9) from nI_ma 16 b9 s9]; exact nI_in (N := 32) (by omega) (by decide)) dX14_find_60 ?_
      refine lv_topi (fun x1 ex1 => ?_)
      refine lv_icmp_ge (tgt := 384) hx hb dX14_find_61 (by decide) (fun c_61 => ?_) (fun c_61 => ?_)
      · skip
        refine lv_iload hx hb dX14_find_384 (lv_at hl 5 rfl) ?_
        have hRT : Pj = RT := by rcases hR with z | z; exact z.2.1; exact z.2
        exact W.iret (v := (nI k9)) hx hb hr (fun t ht hW => ⟨⟨_, _, rfl, ⟨Fj, Lj, hM, hF, hFo, hLo, (by rw [hRT0, ← hRT]; intro i hi; exact hTt i (by omega))⟩, mk_end hG ht⟩, hS.F ht⟩) hS.2.2 dX14_find_386
      · skip
        exact absurd (by rw [ex1, show (16 : Int32) * nI b9 + nI s9 = nI (16 * b9 + s9) from nI_ma 16 b9 s9, nI_clamp (by omega), hFo 23 (by decide), hsr.2.2.2.1, show i9 = v9.nP s9 by omega]; exact Int32.le_refl _) c_61
    | succ n ih =>
      intro i9 k9 xg Pj Fj Lj hin hk9 hR hz hTt hFo hLo Gv hM hF H locs hG hS ls hl
      have hi9 : i9 < v9.nP s9 := by omega
      have hpr := hsr.2.2.2.2.2 i9 hi9
      refine lv_iload hx hb dX14_find_45 (lv_at hl 7 rfl) ?_
      refine lv_aload_n hx hb dX14_find_47 rfl (lv_at hl 0 rfl) ?_
      refine mm_get (v := .ref (Ar 23)) hx hb hf_X14 (fun _ h9 => h9) hown hK hG hM.1 rfl 23 (by decide) (tb_use hT tw_1414) (fun _ h9 => h9) (mfs_g23 _ _) dX14_find_48 ?_
      refine lv_bipush (v := 16) hx hb dX14_find_51 (by decide) ?_
      refine lv_aload_n hx hb dX14_find_53 rfl (lv_at hl 0 rfl) ?_
      refine mm_get (v := .int (Iv 42)) hx hb hf_X14 (fun _ h9 => h9) hown hK hG hM.1 rfl 42 (by decide) (tb_use hT tw_1433) (fun _ h9 => h9) (mfs_g42 _ _) dX14_find_54 ?_
      rw [hbk]
      refine lv_imul hx hb dX14_find_57 ?_
      refine lv_iload_n hx hb dX14_find_58 rfl (lv_at hl 1 rfl) ?_
      refine lv_iadd hx hb dX14_find_59 ?_
      refine mm_iald (n := 32) (f := Fj 23) hx hb hK hG 1 (hM.2.1 23 rfl) rfl (by rw [show (16 : Int32) * nI b9 + nI s9 = nI (16 * b9 + s9) from nI_ma 16 b9 s9]; exact nI_in (N := 32) (by omega) (by decide)) dX14_find_60 ?_
      refine lv_topi (fun x2 ex2 => ?_)
      refine lv_icmp_ge (tgt := 384) hx hb dX14_find_61 (by decide) (fun c_61 => ?_) (fun c_61 => ?_)
      · skip
        exact absurd (by have z := c_61; rw [ex2, show (16 : Int32) * nI b9 + nI s9 = nI (16 * b9 + s9) from nI_ma 16 b9 s9, nI_clamp (by omega), hFo 23 (by decide), hsr.2.2.2.1] at z; exact z) (nI_ge (a := i9) (b := v9.nP s9) (by omega) (by omega))
      · skip
        refine lv_bipush (v := 8) hx hb dX14_find_64 (by decide) ?_
        refine lv_iload_n hx hb dX14_find_66 rfl (lv_at hl 1 rfl) ?_
        refine lv_imul hx hb dX14_find_67 ?_
        refine lv_iload hx hb dX14_find_68 (lv_at hl 7 rfl) ?_
        refine lv_iadd hx hb dX14_find_70 ?_
        rw [show (8 : Int32) * nI s9 + nI i9 = nI (8 * s9 + i9) from nI_ma 8 s9 i9]
        refine lv_istore (lv' := [(8, .int (nI (8 * s9 + i9))), (0, .ref o), (1, .int (nI s9)), (2, .ref (Ar 65)), (3, .int (nI ln)), (4, .int 0), (5, .int (nI k9)), (6, .int xg), (7, .int (nI i9))]) hx hb dX14_find_71 hl (by decide) rfl (fun ls hl => ?_)
        refine lv_aload_n hx hb dX14_find_73 rfl (lv_at hl 1 rfl) ?_
        refine lv_aload_n hx hb dX14_find_74 rfl (lv_at hl 1 rfl) ?_
        refine mm_get (v := .int (Iv 42)) hx hb hf_X14 (fun _ h9 => h9) hown hK hG hM.1 rfl 42 (by decide) (tb_use hT tw_1433) (fun _ h9 => h9) (mfs_g42 _ _) dX14_find_75 ?_
        rw [hbk]
        refine lv_aload_n hx hb dX14_find_78 rfl (lv_at hl 1 rfl) ?_
        refine mm_get (v := .ref (Ar 25)) hx hb hf_X14 (fun _ h9 => h9) hown hK hG hM.1 rfl 25 (by decide) (tb_use hT tw_1416) (fun _ h9 => h9) (mfs_g25 _ _) dX14_find_79 ?_
        refine lv_sipush (v := 128) hx hb dX14_find_82 (by decide) ?_
        refine lv_aload_n hx hb dX14_find_85 rfl (lv_at hl 1 rfl) ?_
        refine mm_get (v := .int (Iv 42)) hx hb hf_X14 (fun _ h9 => h9) hown hK hG hM.1 rfl 42 (by decide) (tb_use hT tw_1433) (fun _ h9 => h9) (mfs_g42 _ _) dX14_find_86 ?_
        rw [hbk]
        refine lv_imul hx hb dX14_find_89 ?_
        refine lv_iload hx hb dX14_find_90 (lv_at hl 0 rfl) ?_
        refine lv_iadd hx hb dX14_find_92 ?_
        refine mm_iald (n := 256) (f := Fj 25) hx hb hK hG 1 (hM.2.1 25 rfl) rfl (by rw [show (128 : Int32) * nI b9 + nI (8 * s9 + i9) = nI (128 * b9 + (8 * s9 + i9)) from nI_ma 128 b9 (8 * s9 + i9)]; exact nI_in (N := 256) (by omega) (by decide)) dX14_find_93 ?_
        refine lv_topi (fun x3 ex3 => ?_)
        refine va_calli (va_runV (As := [.int (nI b9), .int x3]) (rest := []) ⟨hx, hb, hml, hown, (fun _ h9 => absurd h9 List.not_mem_nil : ∀ w ∈ ([] : List Cond), w.before _ s = true)⟩ (c_M_codingAt l D cy A X hst hXT Gv o Ar Iv Fj Lj b9 v9.nC x3 hM hb9 (by rw [hFo 1 (by decide)]; exact hB.1.1) hB.1.2.1) (tb_cw (C := RX14) 2 hT tw_1782 tw_109 tw_1779 tw_1781 tw_89 rfl rfl hq_X14_codingAt ⟨Nat.le_of_ble_eq_true rfl, Nat.le_of_ble_eq_true rfl⟩) (mk_preC hst hG hK hA hX hS vc_15 hM.1) rfl rfl hl.1 rfl (lv_room (Nat.le_of_ble_eq_true rfl)) dX14_find_94 ⟨Nat.le_of_ble_eq_true rfl, Nat.le_of_ble_eq_true rfl⟩) hS (fun q _ h => h) (fun q h => h) (fun r4 G5 t H locs ht hvm hw hB hz1 hk1 hS => ?_)
        have hG : mm D vwCl A G5 H := by rw [← ht]; exact hB
        clear hB hz1 hk1 hvm ht
        obtain ⟨er4, hw⟩ := hw
        rw [hw] at hG
        obtain ⟨c9, hc9, hcl⟩ := hVL.cd hp8 hs9 hi9
        have hc12 := hB.1.2.1
        have hxc : x3 = F 25 (128 * b9 + (8 * s9 + i9)) := by rw [ex3, show (128 : Int32) * nI b9 + nI (8 * s9 + i9) = nI (128 * b9 + (8 * s9 + i9)) from nI_ma 128 b9 (8 * s9 + i9), nI_clamp (by omega), hFo 25 (by decide)]
        have hrc : r4 = nI c9 := by rw [er4, hFo 9 (by decide), hxc]; exact (hB.1.at hn30 hpr.2.1).trans (by rw [hc9])
        rw [hrc]
        obtain ⟨hw1, hw2, hw3⟩ := hWd c9 hcl
        obtain ⟨w9, hw9⟩ : ∃ y, wdN v9 c9 = y := ⟨_, rfl⟩
        rw [hw9] at hw1 hw2 hw3
        refine lv_istore (lv' := [(9, .int (nI c9)), (8, .int (nI (8 * s9 + i9))), (0, .ref o), (1, .int (nI s9)), (2, .ref (Ar 65)), (3, .int (nI ln)), (4, .int 0), (5, .int (nI k9)), (6, .int xg), (7, .int (nI i9))]) hx hb dX14_find_97 hl (by decide) rfl (fun ls hl => ?_)
        refine lv_aload_n hx hb dX14_find_99 rfl (lv_at hl 2 rfl) ?_
        refine mm_get (v := .ref (Ar 10)) hx hb hf_X14 (fun _ h9 => h9) hown hK hG hM.1 rfl 10 (by decide) (tb_use hT tw_1401) (fun _ h9 => h9) (mfs_g10 _ _) dX14_find_100 ?_
        refine lv_bipush (v := 12) hx hb dX14_find_103 (by decide) ?_
        refine lv_aload_n hx hb dX14_find_105 rfl (lv_at hl 2 rfl) ?_
        refine mm_get (v := .int (Iv 42)) hx hb hf_X14 (fun _ h9 => h9) hown hK hG hM.1 rfl 42 (by decide) (tb_use hT tw_1433) (fun _ h9 => h9) (mfs_g42 _ _) dX14_find_106 ?_
        rw [hbk]
        refine lv_imul hx hb dX14_find_109 ?_
        refine lv_iload hx hb dX14_find_110 (lv_at hl 0 rfl) ?_
        refine lv_iadd hx hb dX14_find_112 ?_
        refine mm_iald (n := 24) (f := Fj 10) hx hb hK hG 1 (hM.2.1 10 rfl) rfl (by rw [show (12 : Int32) * nI b9 + nI c9 = nI (12 * b9 + c9) from nI_ma 12 b9 c9]; exact nI_in (N := 24) (by omega) (by decide)) dX14_find_113 ?_
        refine lv_topi (fun x6 ex6 => ?_)
        rw [show x6 = nI w9 by rw [ex6, show (12 : Int32) * nI b9 + nI c9 = nI (12 * b9 + c9) from nI_ma 12 b9 c9, nI_clamp (by omega), hFo 10 (by decide)]; exact (hB.1.2.2 c9 hcl).1.2.1.trans hw1]
        refine lv_istore (lv' := [(10, .int (nI w9)), (9, .int (nI c9)), (8, .int (nI (8 * s9 + i9))), (0, .ref o), (1, .int (nI s9)), (2, .ref (Ar 65)), (3, .int (nI ln)), (4, .int 0), (5, .int (nI k9)), (6, .int xg), (7, .int (nI i9))]) hx hb dX14_find_114 hl (by decide) rfl (fun ls hl => ?_)
        obtain ⟨u9, hu8, hu9⟩ : ∃ u, u < 8 ∧ (¬ (v9.P s9 i9).2.2.2.2.1 = 0 → u < i9 ∧ paN v9 s9 (v9.P s9 i9).2.2.2.2.2.1 = some u ∧ peI v9 s9 i9 = some u) := by
          by_cases y : (v9.P s9 i9).2.2.2.2.1 = 0
          · exact ⟨0, by decide, fun z => absurd y z⟩
          · obtain ⟨u, a1, a2, a3⟩ := hVL.pe hs9 hi9 y; exact ⟨u, by omega, fun _ => ⟨a1, a2, a3⟩⟩
        refine lv_aload_n hx hb dX14_find_116 rfl (lv_at hl 3 rfl) ?_
        refine lv_iload hx hb dX14_find_117 (lv_at hl 2 rfl) ?_
        refine lv_iload_n hx hb dX14_find_119 rfl (lv_at hl 4 rfl) ?_
        refine va_calli (va_runV (As := [.int (nI (8 * s9 + i9)), .int (nI s9)]) (rest := []) ⟨hx, hb, hml, hown, (fun _ h9 => absurd h9 List.not_mem_nil : ∀ w ∈ ([] : List Cond), w.before _ s = true)⟩ (c_M_groups l D cy A X hst hXT Gv o Ar Iv Fj Lj b9 s9 (8 * s9 + i9) (v9.nP s9) u9 hM hb9 hbk (by omega) (by omega) (by rw [hFo 23 (by decide)]; exact hsr.2.2.2.1) hp8 (fun z => by rw [hFo 24 (by decide), hFo 27 (by decide)]; rw [hFo 26 (by decide)] at z; exact ⟨(hB.2.2.1.atP hn30 hpr.2.2.2.1 hs9).trans (by rw [(hu9 (fun y => z (hpr.2.2.1.trans y))).2.1]), hu8⟩)) (tb_cw (C := RX14) 2 hT tw_1836 tw_109 tw_1833 tw_1835 tw_97 rfl rfl hq_X14_groups ⟨Nat.le_of_ble_eq_true rfl, Nat.le_of_ble_eq_true rfl⟩) (mk_preC hst hG hK hA hX hS vc_15 hM.1) rfl rfl hl.1 rfl (lv_room (Nat.le_of_ble_eq_true rfl)) dX14_find_120 ⟨Nat.le_of_ble_eq_true rfl, Nat.le_of_ble_eq_true rfl⟩) hS (fun q _ h => h) (fun q h => h) (fun r7 G8 t H locs ht hvm hw hB hz1 hk1 hS => ?_)
        have hG : mm D vwCl A G8 H := by rw [← ht]; exact hB
        clear hB hz1 hk1 hvm ht
        obtain ⟨er7, hw⟩ := hw
        rw [hw] at hG
        have hgr : r7 = nI (grN v9 s9 i9 Pj) := by rw [er7]; exact gr_eq (by rw [hFo 26 (by decide)]; exact hpr.2.2.1) (by rw [hFo 28 (by decide)]; exact hpr.2.2.2.2) (fun z => ⟨(hu9 z).2.2, (hTt u9 (hu9 z).1).1, fun y => ((hTt u9 (hu9 z).1).2 y).2.2⟩)
        have hg8 := grN_le v9 s9 i9 Pj
        have hws : wsN v9 s9 i9 Pj = grN v9 s9 i9 Pj * w9 := by unfold wsN; rw [hc9]; dsimp only; rw [hw9]
        obtain ⟨g9, hg9⟩ : ∃ y, grN v9 s9 i9 Pj = y := ⟨_, rfl⟩
        rw [hg9] at hgr hg8 hws
        rw [hgr]
        have hgw : g9 * w9 ≤ 32 := Nat.le_trans (Nat.mul_le_mul hg8 hw3) (by decide)
        refine lv_istore (lv' := [(11, .int (nI g9)), (10, .int (nI w9)), (9, .int (nI c9)), (8, .int (nI (8 * s9 + i9))), (0, .ref o), (1, .int (nI s9)), (2, .ref (Ar 65)), (3, .int (nI ln)), (4, .int 0), (5, .int (nI k9)), (6, .int xg), (7, .int (nI i9))]) hx hb dX14_find_123 hl (by decide) rfl (fun ls hl => ?_)
        refine lv_aload_n hx hb dX14_find_125 rfl (lv_at hl 4 rfl) ?_
        refine mm_get (v := .ref (Ar 71)) hx hb hf_X14 (fun _ h9 => h9) hown hK hG hM.1 rfl 71 (by decide) (tb_use hT tw_1462) (fun _ h9 => h9) (mfs_g71 _ _) dX14_find_126 ?_
        refine lv_iload hx hb dX14_find_129 (lv_at hl 11 rfl) ?_
        refine lv_iconst (v := 0) hx hb dX14_find_131 (by decide) ?_
        refine mm_zast (n := mdN 71) (f := Fj 71) hx hb hK hG hS 3 hM.2.2.2.1 rfl (nI_in (N := 8) (by omega) (by decide)) dX14_find_132 (fun H locs hG hS => ?_)
        have hM := MD.setz (upd (Fj 71) (nI i9).toNatClampNeg (vp_nar .boolean 0)) hM
        have hF := hF.wa (k := 71) (e' := .inl (cy 3, mdN 71, .inl (upd (Fj 71) (nI i9).toNatClampNeg (vp_nar .boolean 0)))) rfl
        obtain ⟨F9, eF9⟩ : ∃ g, g = va_up Fj 71 (upd (Fj 71) (nI i9).toNatClampNeg (vp_nar .boolean 0)) := ⟨_, rfl⟩
        rw [← eF9] at hM
        have hgn := gn_MD hG hM hF
        clear hG hM hF
        obtain ⟨G10, hG, hM, hF⟩ := hgn
        refine lv_iload hx hb dX14_find_133 (lv_at hl 10 rfl) ?_
        refine lv_if_ne (tgt := 378) hx hb dX14_find_135 (by decide) (fun c_135 => ?_) (fun c_135 => ?_)
        · skip
          obtain ⟨x11, ex11⟩ : ∃ y : Int32, y = (nI i9) + 1 := ⟨_, rfl⟩
          refine lv_iinc (v := x11) (lv' := [(7, .int x11), (11, .int (nI g9)), (10, .int (nI w9)), (9, .int (nI c9)), (8, .int (nI (8 * s9 + i9))), (0, .ref o), (1, .int (nI s9)), (2, .ref (Ar 65)), (3, .int (nI ln)), (4, .int 0), (5, .int (nI k9)), (6, .int xg)]) hx hb dX14_find_378 hl (k := 11) rfl (by rw [ex11]; rfl) (by decide) rfl (fun ls hl => ?_)
          refine lv_goto (tgt := 45) hx hb dX14_find_381 (by decide) ?_
          rw [show x11 = nI (i9 + 1) by rw [ex11]; exact (nI_succ i9).symm] at hl
          have hFo2 : ∀ j, ¬ (71 ≤ j ∧ j ≤ 73) → F9 j = F j := fun j hj => by rw [eF9, va_up_ne _ _ (by omega)]; exact hFo j hj
          have hP0 : (Pj i9).2.1 = 0 := hz i9 (Nat.le_refl _) hi9
          have hTt2 : RFP F9 Lj Pj (i9 + 1) := hTt.step (fun j i a b z => by rw [eF9]; by_cases y : j = 71; (rw [y, va_up_self, nI_clamp (by omega), pk_un z]); (rw [va_up_ne _ _ y])) (fun _ _ => rfl) (fun _ _ => rfl) ⟨(by rw [eF9, va_up_self, nI_clamp (by omega), pk_us, if_pos hP0]; rfl), fun z => absurd hP0 z⟩
          have hgo : xg = 1 ∧ Pj = RT := hR.resolve_left (fun z => c_135 z.1)
          exact ih (i9 + 1) k9 xg Pj F9 Lj (by omega) hk9 (Or.inr hgo) (fun i h1 h2 => hz i (by omega) h2) hTt2 hFo2 hLo G10 hM hF _ _ hG hS ls (lv_sub hl [5, 6, 7, 8, 9, 10, 11, 0] rfl)
        · skip
          refine lv_iload hx hb dX14_find_138 (lv_at hl 0 rfl) ?_
          refine lv_if_ne (tgt := 146) hx hb dX14_find_140 (by decide) (fun c_140 => ?_) (fun c_140 => ?_)
          · skip
            refine lv_iload hx hb dX14_find_146 (lv_at hl 9 rfl) ?_
            refine lv_iload hx hb dX14_find_148 (lv_at hl 0 rfl) ?_
            refine lv_iload hx hb dX14_find_150 (lv_at hl 1 rfl) ?_
            refine lv_imul hx hb dX14_find_152 ?_
            refine lv_iadd hx hb dX14_find_153 ?_
            rw [show ((nI k9) + ((nI g9) * (nI w9))) = nI (k9 + g9 * w9) by rw [mul_nI, nI_add]]
            refine lv_iload_n hx hb dX14_find_154 rfl (lv_at hl 7 rfl) ?_
            refine lv_icmp_le (tgt := 162) hx hb dX14_find_155 (by decide) (fun c_155 => ?_) (fun c_155 => ?_)
            · skip
              refine lv_iconst (v := 0) hx hb dX14_find_162 (by decide) ?_
              refine lv_istore (lv' := [(6, .int 0), (11, .int (nI g9)), (10, .int (nI w9)), (9, .int (nI c9)), (8, .int (nI (8 * s9 + i9))), (0, .ref o), (1, .int (nI s9)), (2, .ref (Ar 65)), (3, .int (nI ln)), (4, .int 0), (5, .int (nI k9)), (7, .int (nI i9))]) hx hb dX14_find_163 hl (by decide) rfl (fun ls hl => ?_)
              refine lv_iload hx hb dX14_find_165 (lv_at hl 0 rfl) ?_
              refine lv_if_eq (tgt := 173) hx hb dX14_find_167 (by decide) (fun c_167 => ?_) (fun c_167 => ?_)
              · skip
                refine lv_aload_n hx hb dX14_find_173 rfl (lv_at hl 5 rfl) ?_
                refine mm_get (v := .ref (Ar 71)) hx hb hf_X14 (fun _ h9 => h9) hown hK hG hM.1 rfl 71 (by decide) (tb_use hT tw_1462) (fun _ h9 => h9) (mfs_g71 _ _) dX14_find_174 ?_
                refine lv_iload hx hb dX14_find_177 (lv_at hl 11 rfl) ?_
                refine lv_iconst (v := 1) hx hb dX14_find_179 (by decide) ?_
                refine mm_zast (n := mdN 71) (f := F9 71) hx hb hK hG hS 3 hM.2.2.2.1 rfl (nI_in (N := 8) (by omega) (by decide)) dX14_find_180 (fun H locs hG hS => ?_)
                have hM := MD.setz (upd (F9 71) (nI i9).toNatClampNeg (vp_nar .boolean 1)) hM
                have hF := hF.wa (k := 71) (e' := .inl (cy 3, mdN 71, .inl (upd (F9 71) (nI i9).toNatClampNeg (vp_nar .boolean 1)))) rfl
                obtain ⟨F12, eF12⟩ : ∃ g, g = va_up F9 71 (upd (F9 71) (nI i9).toNatClampNeg (vp_nar .boolean 1)) := ⟨_, rfl⟩
                rw [← eF12] at hM
                have hgn := gn_MD hG hM hF
                clear hG hM hF
                obtain ⟨G13, hG, hM, hF⟩ := hgn
                refine lv_aload_n hx hb dX14_find_181 rfl (lv_at hl 5 rfl) ?_
                refine mm_get (v := .ref (Ar 72)) hx hb hf_X14 (fun _ h9 => h9) hown hK hG hM.1 rfl 72 (by decide) (tb_use hT tw_1463) (fun _ h9 => h9) (mfs_g72 _ _) dX14_find_182 ?_
                refine lv_iload hx hb dX14_find_185 (lv_at hl 11 rfl) ?_
                refine lv_iload hx hb dX14_find_187 (lv_at hl 10 rfl) ?_
                refine lv_topi (fun x14 ex14 => ?_)
                refine mm_iast (n := mdN 72) (f := F12 72) hx hb hK hG hS 1 (hM.2.1 72 rfl) rfl (nI_in (N := mdN 72) (by show _ < 8; omega) (by decide)) dX14_find_189 (fun H locs hG hS => ?_)
                have hM := MD.seti (k := 72) (upd (F12 72) (nI i9).toNatClampNeg x14) hM rfl
                have hF := hF.wa (k := 72) (e' := .inl (cy 1, mdN 72, .inl (upd (F12 72) (nI i9).toNatClampNeg x14))) rfl
                obtain ⟨F15, eF15⟩ : ∃ g, g = va_up F12 72 (upd (F12 72) (nI i9).toNatClampNeg x14) := ⟨_, rfl⟩
                rw [← eF15] at hM
                have hgn := gn_MD hG hM hF
                clear hG hM hF
                obtain ⟨G16, hG, hM, hF⟩ := hgn
                refine lv_aload_n hx hb dX14_find_190 rfl (lv_at hl 5 rfl) ?_
                refine mm_get (v := .ref (Ar 73)) hx hb hf_X14 (fun _ h9 => h9) hown hK hG hM.1 rfl 73 (by decide) (tb_use hT tw_1464) (fun _ h9 => h9) (mfs_g73 _ _) dX14_find_191 ?_
                refine lv_iload hx hb dX14_find_194 (lv_at hl 11 rfl) ?_
                refine lv_iload hx hb dX14_find_196 (lv_at hl 1 rfl) ?_
                refine lv_iload hx hb dX14_find_198 (lv_at hl 2 rfl) ?_
                refine lv_imul hx hb dX14_find_200 ?_
                rw [show ((nI g9) * (nI w9)) = nI (g9 * w9) from mul_nI]
                refine lv_topi (fun x17 ex17 => ?_)
                refine mm_iast (n := mdN 73) (f := F15 73) hx hb hK hG hS 1 (hM.2.1 73 rfl) rfl (nI_in (N := mdN 73) (by show _ < 8; omega) (by decide)) dX14_find_201 (fun H locs hG hS => ?_)
                have hM := MD.seti (k := 73) (upd (F15 73) (nI i9).toNatClampNeg x17) hM rfl
                have hF := hF.wa (k := 73) (e' := .inl (cy 1, mdN 73, .inl (upd (F15 73) (nI i9).toNatClampNeg x17))) rfl
                obtain ⟨F18, eF18⟩ : ∃ g, g = va_up F15 73 (upd (F15 73) (nI i9).toNatClampNeg x17) := ⟨_, rfl⟩
                rw [← eF18] at hM
                have hgn := gn_MD hG hM hF
                clear hG hM hF
                obtain ⟨G19, hG, hM, hF⟩ := hgn
                refine lv_iload hx hb dX14_find_202 (lv_at hl 9 rfl) ?_
                refine lv_if_eq (tgt := 284) hx hb dX14_find_204 (by decide) (fun c_204 => ?_) (fun c_204 => ?_)
                · skip
                  obtain ⟨sb, hsb⟩ : ∃ y, y = (decide ((v9.C c9).2.1 = 1) && decide (127 < F 65 (k9 + 0))) := ⟨_, rfl⟩
                  have hsg0 := sg_of (hB.1.2.2 c9 hcl).1
                  have hfit0 : k9 + g9 * w9 ≤ ln := nI_ge_of (a := ln) (b := k9 + g9 * w9) (by omega) (by omega) c_155
                  have hgp : w9 ≤ g9 * w9 := Nat.le_mul_of_pos_left w9 (Nat.pos_of_ne_zero (fun y => c_140 (by rw [y]; rfl)))
                  have hF65 : F18 65 = F 65 := by rw [eF18, va_up_ne _ _ (by decide), eF15, va_up_ne _ _ (by decide), eF12, va_up_ne _ _ (by decide), eF9, va_up_ne _ _ (by decide)]; exact hFo 65 (by decide)
                  have hF11 : F18 11 = F 11 := by rw [eF18, va_up_ne _ _ (by decide), eF15, va_up_ne _ _ (by decide), eF12, va_up_ne _ _ (by decide), eF9, va_up_ne _ _ (by decide)]; exact hFo 11 (by decide)
                  have hlq : ∀ (nq : Nat) (j9 : Nat) (Lq : Nat → Nat → Int64), (nq + j9 = w9) → (Lq 74 i9 = rwR (fun j => F 65 (k9 + j)) sb j9) → (∀ j i, ¬ (j = 74 ∧ i = i9) → Lq j i = Lj j i) → ∀ (Gv : Nat → Option va_E), (MD cy Gv o Ar Iv F18 Lq) → (MF G Gv o Ar) → ∀ (H : Heap) (locs : List Loc), mm D vwCl A Gv H → va_S A s.heap H locs → ∀ ls : Array Slot, lv_has ls 13 [(0, .ref o), (1, .int (nI s9)), (2, .ref (Ar 65)), (3, .int (nI ln)), (4, .int 0), (5, .int (nI k9)), (6, .int 0), (7, .int (nI i9)), (8, .int (nI (8 * s9 + i9))), (9, .int (nI c9)), (10, .int (nI w9)), (11, .int (nI g9)), (12, .int (nI j9))] → W p l e (headSpec [.code yX14_find cX14_find 13 (some .int)] ({ frames := 2, cells := 0, slots := 0, locals := 60 })).room s m ([.ref o, .int (nI s9), .ref (Ar 65), .int (nI ln), .int 0] : List Value).toArray below meth c H locs 0 0 (MQ below (va_Qi (fun (r : Int32) (G2 : Nat → Option va_E) => ∃ (F2 : Nat → Nat → Int32) (L2 : Nat → Nat → Int64), MD cy G2 o Ar Iv F2 L2 ∧ MF G G2 o Ar ∧ (∀ j, ¬ (71 ≤ j ∧ j ≤ 73) → F2 j = F j) ∧ (∀ j, ¬ j = 74 → L2 j = L j) ∧ RFP F2 L2 (teF v9 s9 ln f9 P0) (v9.nP s9)) (mk_B D vwCl A) A) ([.ref o, .int (nI s9), .ref (Ar 65), .int (nI ln), .int 0] : List Value).toArray s 0 0 A) (F0 m 329 ls []) := by
                    intro nq
                    induction nq with
                    | zero =>
                      intro j9 Lq hjw0 hq74 hqo Gv hM hF H locs hG hS ls hl
                      refine lv_iload hx hb dX14_find_329 (lv_at hl 12 rfl) ?_
                      refine lv_iload hx hb dX14_find_331 (lv_at hl 10 rfl) ?_
                      refine lv_icmp_ge (tgt := 368) hx hb dX14_find_333 (by decide) (fun c_333 => ?_) (fun c_333 => ?_)
                      · skip
                        refine lv_iload hx hb dX14_find_368 (lv_at hl 5 rfl) ?_
                        refine lv_iload hx hb dX14_find_370 (lv_at hl 11 rfl) ?_
                        refine lv_iload hx hb dX14_find_372 (lv_at hl 10 rfl) ?_
                        refine lv_imul hx hb dX14_find_374 ?_
                        refine lv_iadd hx hb dX14_find_375 ?_
                        rw [show ((nI k9) + ((nI g9) * (nI w9))) = nI (k9 + g9 * w9) by rw [mul_nI, nI_add]]
                        refine lv_istore (lv' := [(5, .int (nI (k9 + g9 * w9))), (0, .ref o), (1, .int (nI s9)), (2, .ref (Ar 65)), (3, .int (nI ln)), (4, .int 0), (6, .int 0), (7, .int (nI i9)), (8, .int (nI (8 * s9 + i9))), (9, .int (nI c9)), (10, .int (nI w9)), (11, .int (nI g9)), (12, .int (nI j9))]) hx hb dX14_find_376 hl (by decide) rfl (fun ls hl => ?_)
                        obtain ⟨x20, ex20⟩ : ∃ y : Int32, y = (nI i9) + 1 := ⟨_, rfl⟩
                        refine lv_iinc (v := x20) (lv' := [(7, .int x20), (5, .int (nI (k9 + g9 * w9))), (0, .ref o), (1, .int (nI s9)), (2, .ref (Ar 65)), (3, .int (nI ln)), (4, .int 0), (6, .int 0), (8, .int (nI (8 * s9 + i9))), (9, .int (nI c9)), (10, .int (nI w9)), (11, .int (nI g9)), (12, .int (nI j9))]) hx hb dX14_find_378 hl (k := 7) rfl (by rw [ex20]; rfl) (by decide) rfl (fun ls hl => ?_)
                        refine lv_goto (tgt := 45) hx hb dX14_find_381 (by decide) ?_
                        rw [show x20 = nI (i9 + 1) by rw [ex20]; exact (nI_succ i9).symm] at hl
                        have hFo2 : ∀ j, ¬ (71 ≤ j ∧ j ≤ 73) → F18 j = F j := fun j hj => by rw [eF18, va_up_ne _ _ (by omega), eF15, va_up_ne _ _ (by omega), eF12, va_up_ne _ _ (by omega), eF9, va_up_ne _ _ (by omega)]; exact hFo j hj
                        have hfit : k9 + g9 * w9 ≤ ln := nI_ge_of (a := ln) (b := k9 + g9 * w9) (by omega) (by omega) c_155
                        have hgo : xg = 0 ∧ tlF v9 s9 ln f9 (n + 1) i9 k9 Pj = RT ∧ k9 ≤ ln := hR.resolve_right (fun z => absurd (z.1.symm.trans c_135) (by decide))
                        have hjw : j9 = w9 := by omega
                        have hpos : 0 < g9 * w9 := Nat.mul_pos (Nat.pos_of_ne_zero (fun y => c_140 (by rw [y]; rfl))) hw2
                        obtain ⟨P2, hP2⟩ : ∃ y, y = up1 Pj i9 (nI k9, nI (g9 * w9), rwO v9 s9 i9 ln f9 k9, (Pj i9).2.2.2) := ⟨_, rfl⟩
                        have hR2 : tlF v9 s9 ln f9 n (i9 + 1) (k9 + g9 * w9) P2 = RT := by rw [← hgo.2.1, tlF, hws, if_pos hfit, if_pos hpos, hP2]
                        have hby : ∀ j, j < w9 → F 65 (k9 + j) = oc_at (nI ln) f9 (nI k9 + nI j) ∧ 0 ≤ (F 65 (k9 + j)).toInt ∧ (F 65 (k9 + j)).toInt < 256 := fun j hj => by have y : k9 + j < ln := (by have u := Nat.le_mul_of_pos_left w9 (Nat.pos_of_mul_pos_right hpos); omega); rw [nI_add]; exact hoc (k9 + j) y
                        have hsg := sg_of (hB.1.2.2 c9 hcl).1
                        have hA9 : rwR (fun j => F 65 (k9 + j)) sb w9 = rwA (v9.C c9).2.1 (nI w9) w9 (fun j => F 65 (k9 + j)) := by rw [hsb]; exact rwR_A hsg.1 hw2 hw3 (fun i hi => (hby i hi).2)
                        have hrw : rwO v9 s9 i9 ln f9 k9 = rwR (fun j => F 65 (k9 + j)) sb w9 := by unfold rwO; rw [hc9]; dsimp only; rw [hw1, hw9, hA9]; unfold rwA; rw [rwL_cg (fun j hj => ((hby j hj).1).symm)]
                        have hn0 : ¬ nI (g9 * w9) = 0 := fun y => absurd (nI_inj (b := 0) (by omega) (by decide) y) (by omega)
                        have hF71 : F18 71 = upd (upd (Fj 71) i9 0) i9 1 := by rw [eF18, va_up_ne _ _ (by decide), eF15, va_up_ne _ _ (by decide), eF12, va_up_self, nI_clamp (by omega), eF9, va_up_self, nI_clamp (by omega)]; rfl
                        have hF72 : F18 72 = upd (Fj 72) i9 (nI k9) := by rw [eF18, va_up_ne _ _ (by decide), eF15, va_up_self, nI_clamp (by omega), eF12, va_up_ne _ _ (by decide), eF9, va_up_ne _ _ (by decide), ex14]
                        have hF73 : F18 73 = upd (Fj 73) i9 (nI (g9 * w9)) := by rw [eF18, va_up_self, nI_clamp (by omega), eF15, va_up_ne _ _ (by decide), eF12, va_up_ne _ _ (by decide), eF9, va_up_ne _ _ (by decide), ex17]
                        have hTt2 : RFP F18 Lq P2 (i9 + 1) := hTt.step (fun j i a b z => by rcases (show j = 71 ∨ j = 72 ∨ j = 73 by omega) with y | y | y; (rw [y, hF71, pk_un z, pk_un z]); (rw [y, hF72, pk_un z]); (rw [y, hF73, pk_un z])) (fun i z => hqo 74 i (fun y => z y.2)) (fun i hi => by rw [hP2, up1_ne (by omega)]) ⟨(by rw [hP2, up1_eq]; dsimp only; rw [if_neg hn0, hF71, pk_us]), fun _ => by rw [hP2, up1_eq]; dsimp only; exact ⟨(by rw [hF72, pk_us]), (by rw [hF73, pk_us]), (by rw [hq74, hjw, hrw])⟩⟩
                        have hz2 : ∀ i, i9 + 1 ≤ i → i < v9.nP s9 → (P2 i).2.1 = 0 := fun i h1 h2 => by rw [hP2, up1_ne (by omega)]; exact hz i (by omega) h2
                        exact ih (i9 + 1) (k9 + g9 * w9) 0 P2 F18 Lq (by omega) ⟨by omega, by omega⟩ (Or.inl ⟨rfl, hR2, hfit⟩) hz2 hTt2 hFo2 (fun j hj => by funext i; rw [hqo j i (fun y => hj y.1), hLo j hj]) Gv hM hF _ _ hG hS ls (lv_sub hl [2, 3, 4, 5, 6, 1, 7, 0] rfl)
                      · skip
                        exact absurd (by rw [show j9 = w9 by omega]; exact Int32.le_refl _) c_333
                    | succ nq ihq =>
                      intro j9 Lq hjw0 hq74 hqo Gv hM hF H locs hG hS ls hl
                      refine lv_iload hx hb dX14_find_329 (lv_at hl 12 rfl) ?_
                      refine lv_iload hx hb dX14_find_331 (lv_at hl 10 rfl) ?_
                      refine lv_icmp_ge (tgt := 368) hx hb dX14_find_333 (by decide) (fun c_333 => ?_) (fun c_333 => ?_)
                      · skip
                        exact absurd c_333 (nI_ge (a := j9) (b := w9) (by omega) (by omega))
                      · skip
                        refine lv_aload_n hx hb dX14_find_336 rfl (lv_at hl 0 rfl) ?_
                        refine mm_get (v := .ref (Ar 74)) hx hb hf_X14 (fun _ h9 => h9) hown hK hG hM.1 rfl 74 (by decide) (tb_use hT tw_1465) (fun _ h9 => h9) (mfs_g74 _ _) dX14_find_337 ?_
                        refine lv_iload hx hb dX14_find_340 (lv_at hl 7 rfl) ?_
                        refine lv_aload_n hx hb dX14_find_342 rfl (lv_at hl 0 rfl) ?_
                        refine mm_get (v := .ref (Ar 74)) hx hb hf_X14 (fun _ h9 => h9) hown hK hG hM.1 rfl 74 (by decide) (tb_use hT tw_1465) (fun _ h9 => h9) (mfs_g74 _ _) dX14_find_343 ?_
                        refine lv_iload hx hb dX14_find_346 (lv_at hl 7 rfl) ?_
                        refine mm_lald (n := 8) (f := Lq 74) hx hb hK hG 2 (hM.2.2.1 74 rfl) rfl (nI_in (N := 8) (by omega) (by decide)) dX14_find_348 ?_
                        refine lv_topl (fun x21 ex21 => ?_)
                        refine lv_bipush (v := 8) hx hb dX14_find_349 (by decide) ?_
                        obtain ⟨x22, ex22⟩ : ∃ y, y = (x21 : Int64) <<< ((8 : Int32).toInt64 &&& 63) := ⟨_, rfl⟩
                        refine lv_lshl (v := x22) hx hb dX14_find_351 ex22.symm ?_
                        refine lv_aload_n hx hb dX14_find_352 rfl (lv_at hl 2 rfl) ?_
                        refine lv_iload hx hb dX14_find_353 (lv_at hl 5 rfl) ?_
                        refine lv_iload hx hb dX14_find_355 (lv_at hl 12 rfl) ?_
                        refine lv_iadd hx hb dX14_find_357 ?_
                        refine mm_iald (n := 64) (f := F18 65) hx hb hK hG 1 (hM.2.1 65 rfl) rfl (by rw [nI_add]; exact nI_in (N := 64) (by omega) (by decide)) dX14_find_358 ?_
                        refine lv_topi (fun x23 ex23 => ?_)
                        obtain ⟨x24, ex24⟩ : ∃ y, y = (x23 : Int32).toInt64 := ⟨_, rfl⟩
                        refine lv_i2l (v := x24) hx hb dX14_find_359 ex24.symm ?_
                        refine lv_lor hx hb dX14_find_360 ?_
                        refine lv_topl (fun x25 ex25 => ?_)
                        refine mm_last (n := mdN 74) (f := Lq 74) hx hb hK hG hS 2 (hM.2.2.1 74 rfl) rfl (nI_in (N := mdN 74) (by show _ < 8; omega) (by decide)) dX14_find_361 (fun H locs hG hS => ?_)
                        have hM := MD.setj (k := 74) (vp_updL (Lq 74) (nI i9).toNatClampNeg x25) hM rfl
                        have hF := hF.wa (k := 74) (e' := .inl (cy 2, mdN 74, .inr (.inl (vp_updL (Lq 74) (nI i9).toNatClampNeg x25)))) rfl
                        obtain ⟨L26, eL26⟩ : ∃ g, g = va_up Lq 74 (vp_updL (Lq 74) (nI i9).toNatClampNeg x25) := ⟨_, rfl⟩
                        rw [← eL26] at hM
                        have hgn := gn_MD hG hM hF
                        clear hG hM hF
                        obtain ⟨G27, hG, hM, hF⟩ := hgn
                        obtain ⟨x28, ex28⟩ : ∃ y : Int32, y = (nI j9) + 1 := ⟨_, rfl⟩
                        refine lv_iinc (v := x28) (lv' := [(12, .int x28), (0, .ref o), (1, .int (nI s9)), (2, .ref (Ar 65)), (3, .int (nI ln)), (4, .int 0), (5, .int (nI k9)), (6, .int 0), (7, .int (nI i9)), (8, .int (nI (8 * s9 + i9))), (9, .int (nI c9)), (10, .int (nI w9)), (11, .int (nI g9))]) hx hb dX14_find_362 hl (k := 12) rfl (by rw [ex28]; rfl) (by decide) rfl (fun ls hl => ?_)
                        refine lv_goto (tgt := 329) hx hb dX14_find_365 (by decide) ?_
                        rw [show x28 = nI (j9 + 1) by rw [ex28]; exact (nI_succ j9).symm] at hl
                        have hq2 : L26 74 i9 = rwR (fun j => F 65 (k9 + j)) sb (j9 + 1) := by rw [eL26, va_up_self, nI_clamp (by omega), updL_eq, ex25, ex24, ex23, ex22, ex21, nI_clamp (by omega), hq74, nI_add, nI_clamp (by omega), hF65, rwR]
                        have hqo2 : ∀ j i, ¬ (j = 74 ∧ i = i9) → L26 j i = Lj j i := fun j i z => by rw [eL26]; by_cases y : j = 74; (rw [y, va_up_self, nI_clamp (by omega), updL_ne (fun u => z ⟨y, u⟩), ← y]; exact hqo j i z); (rw [va_up_ne _ _ y]; exact hqo j i z)
                        exact ihq (j9 + 1) L26 (by omega) hq2 hqo2 G27 hM hF _ _ hG hS ls (lv_sub hl [1, 2, 3, 4, 5, 6, 7, 8, 9, 10, 11, 12, 0] rfl)
                  refine lv_aload_n hx hb dX14_find_284 rfl (lv_at hl 5 rfl) ?_
                  refine mm_get (v := .ref (Ar 74)) hx hb hf_X14 (fun _ h9 => h9) hown hK hG hM.1 rfl 74 (by decide) (tb_use hT tw_1465) (fun _ h9 => h9) (mfs_g74 _ _) dX14_find_285 ?_
                  refine lv_iload hx hb dX14_find_288 (lv_at hl 11 rfl) ?_
                  refine lv_aload_n hx hb dX14_find_290 rfl (lv_at hl 5 rfl) ?_
                  refine mm_get (v := .ref (Ar 11)) hx hb hf_X14 (fun _ h9 => h9) hown hK hG hM.1 rfl 11 (by decide) (tb_use hT tw_1402) (fun _ h9 => h9) (mfs_g11 _ _) dX14_find_291 ?_
                  refine lv_bipush (v := 12) hx hb dX14_find_294 (by decide) ?_
                  refine lv_aload_n hx hb dX14_find_296 rfl (lv_at hl 5 rfl) ?_
                  refine mm_get (v := .int (Iv 42)) hx hb hf_X14 (fun _ h9 => h9) hown hK hG hM.1 rfl 42 (by decide) (tb_use hT tw_1433) (fun _ h9 => h9) (mfs_g42 _ _) dX14_find_297 ?_
                  rw [hbk]
                  refine lv_imul hx hb dX14_find_300 ?_
                  refine lv_iload hx hb dX14_find_301 (lv_at hl 3 rfl) ?_
                  refine lv_iadd hx hb dX14_find_303 ?_
                  refine mm_iald (n := 24) (f := F18 11) hx hb hK hG 1 (hM.2.1 11 rfl) rfl (by rw [show (12 : Int32) * nI b9 + nI c9 = nI (12 * b9 + c9) from nI_ma 12 b9 c9]; exact nI_in (N := 24) (by omega) (by decide)) dX14_find_304 ?_
                  refine lv_topi (fun x29 ex29 => ?_)
                  refine lv_iconst (v := 1) hx hb dX14_find_305 (by decide) ?_
                  refine lv_icmp_ne (tgt := 324) hx hb dX14_find_306 (by decide) (fun c_306 => ?_) (fun c_306 => ?_)
                  · skip
                    refine lv_lconst (v := 0) hx hb dX14_find_324 (by decide) ?_
                    refine mm_last (n := mdN 74) (f := Lj 74) hx hb hK hG hS 2 (hM.2.2.1 74 rfl) rfl (nI_in (N := mdN 74) (by show _ < 8; omega) (by decide)) dX14_find_325 (fun H locs hG hS => ?_)
                    have hM := MD.setj (k := 74) (vp_updL (Lj 74) (nI i9).toNatClampNeg 0) hM rfl
                    have hF := hF.wa (k := 74) (e' := .inl (cy 2, mdN 74, .inr (.inl (vp_updL (Lj 74) (nI i9).toNatClampNeg 0)))) rfl
                    obtain ⟨L30, eL30⟩ : ∃ g, g = va_up Lj 74 (vp_updL (Lj 74) (nI i9).toNatClampNeg 0) := ⟨_, rfl⟩
                    rw [← eL30] at hM
                    have hgn := gn_MD hG hM hF
                    clear hG hM hF
                    obtain ⟨G31, hG, hM, hF⟩ := hgn
                    refine lv_iconst (v := 0) hx hb dX14_find_326 (by decide) ?_
                    refine lv_istore (lv' := [(12, .int 0), (6, .int 0), (11, .int (nI g9)), (10, .int (nI w9)), (9, .int (nI c9)), (8, .int (nI (8 * s9 + i9))), (0, .ref o), (1, .int (nI s9)), (2, .ref (Ar 65)), (3, .int (nI ln)), (4, .int 0), (5, .int (nI k9)), (7, .int (nI i9))]) hx hb dX14_find_327 hl (by decide) rfl (fun ls hl => ?_)
                    have hs0 : sb = false := by rw [hsb, decide_eq_false (fun z => c_306 (by rw [ex29, show (12 : Int32) * nI b9 + nI c9 = nI (12 * b9 + c9) from nI_ma 12 b9 c9, nI_clamp (by omega), hF11]; exact hsg0.2.mpr z))]; rfl
                    have hq0 : L30 74 i9 = rwR (fun j => F 65 (k9 + j)) sb 0 := by rw [eL30, va_up_self, nI_clamp (by omega), updL_eq, rwR, hs0]; rfl
                    have hqo0 : ∀ j i, ¬ (j = 74 ∧ i = i9) → L30 j i = Lj j i := fun j i z => by rw [eL30]; by_cases y : j = 74; (rw [y, va_up_self, nI_clamp (by omega), updL_ne (fun u => z ⟨y, u⟩)]); (rw [va_up_ne _ _ y])
                    exact hlq w9 0 L30 (by omega) hq0 hqo0 G31 hM hF _ _ hG hS ls (lv_sub hl [6, 7, 8, 9, 10, 11, 1, 12, 5, 4, 3, 2, 0] rfl)
                  · skip
                    refine lv_aload_n hx hb dX14_find_309 rfl (lv_at hl 7 rfl) ?_
                    refine lv_iload hx hb dX14_find_310 (lv_at hl 10 rfl) ?_
                    refine mm_iald (n := 64) (f := F18 65) hx hb hK hG 1 (hM.2.1 65 rfl) rfl (nI_in (N := 64) (by omega) (by decide)) dX14_find_312 ?_
                    refine lv_topi (fun x32 ex32 => ?_)
                    refine lv_bipush (v := 127) hx hb dX14_find_313 (by decide) ?_
                    refine lv_icmp_le (tgt := 324) hx hb dX14_find_315 (by decide) (fun c_315 => ?_) (fun c_315 => ?_)
                    · skip
                      refine lv_lconst (v := 0) hx hb dX14_find_324 (by decide) ?_
                      refine mm_last (n := mdN 74) (f := Lj 74) hx hb hK hG hS 2 (hM.2.2.1 74 rfl) rfl (nI_in (N := mdN 74) (by show _ < 8; omega) (by decide)) dX14_find_325 (fun H locs hG hS => ?_)
                      have hM := MD.setj (k := 74) (vp_updL (Lj 74) (nI i9).toNatClampNeg 0) hM rfl
                      have hF := hF.wa (k := 74) (e' := .inl (cy 2, mdN 74, .inr (.inl (vp_updL (Lj 74) (nI i9).toNatClampNeg 0)))) rfl
                      obtain ⟨L33, eL33⟩ : ∃ g, g = va_up Lj 74 (vp_updL (Lj 74) (nI i9).toNatClampNeg 0) := ⟨_, rfl⟩
                      rw [← eL33] at hM
                      have hgn := gn_MD hG hM hF
                      clear hG hM hF
                      obtain ⟨G34, hG, hM, hF⟩ := hgn
                      refine lv_iconst (v := 0) hx hb dX14_find_326 (by decide) ?_
                      refine lv_istore (lv' := [(12, .int 0), (6, .int 0), (11, .int (nI g9)), (10, .int (nI w9)), (9, .int (nI c9)), (8, .int (nI (8 * s9 + i9))), (0, .ref o), (1, .int (nI s9)), (2, .ref (Ar 65)), (3, .int (nI ln)), (4, .int 0), (5, .int (nI k9)), (7, .int (nI i9))]) hx hb dX14_find_327 hl (by decide) rfl (fun ls hl => ?_)
                      have hs0 : sb = false := by rw [hsb, decide_eq_false (fun z => absurd z (Int32.not_lt.mpr (by have u := c_315; rw [ex32, nI_clamp (by omega), hF65] at u; exact u))), Bool.and_false]
                      have hq0 : L33 74 i9 = rwR (fun j => F 65 (k9 + j)) sb 0 := by rw [eL33, va_up_self, nI_clamp (by omega), updL_eq, rwR, hs0]; rfl
                      have hqo0 : ∀ j i, ¬ (j = 74 ∧ i = i9) → L33 j i = Lj j i := fun j i z => by rw [eL33]; by_cases y : j = 74; (rw [y, va_up_self, nI_clamp (by omega), updL_ne (fun u => z ⟨y, u⟩)]); (rw [va_up_ne _ _ y])
                      exact hlq w9 0 L33 (by omega) hq0 hqo0 G34 hM hF _ _ hG hS ls (lv_sub hl [6, 7, 8, 9, 10, 11, 1, 12, 5, 4, 3, 2, 0] rfl)
                    · skip
                      refine lv_ldc2 hx hb hown (tb_use hT tw_1827) dX14_find_318 ?_
                      refine lv_goto (tgt := 325) hx hb dX14_find_321 (by decide) ?_
                      refine lv_topl (fun x35 ex35 => ?_)
                      refine mm_last (n := mdN 74) (f := Lj 74) hx hb hK hG hS 2 (hM.2.2.1 74 rfl) rfl (nI_in (N := mdN 74) (by show _ < 8; omega) (by decide)) dX14_find_325 (fun H locs hG hS => ?_)
                      have hM := MD.setj (k := 74) (vp_updL (Lj 74) (nI i9).toNatClampNeg x35) hM rfl
                      have hF := hF.wa (k := 74) (e' := .inl (cy 2, mdN 74, .inr (.inl (vp_updL (Lj 74) (nI i9).toNatClampNeg x35)))) rfl
                      obtain ⟨L36, eL36⟩ : ∃ g, g = va_up Lj 74 (vp_updL (Lj 74) (nI i9).toNatClampNeg x35) := ⟨_, rfl⟩
                      rw [← eL36] at hM
                      have hgn := gn_MD hG hM hF
                      clear hG hM hF
                      obtain ⟨G37, hG, hM, hF⟩ := hgn
                      refine lv_iconst (v := 0) hx hb dX14_find_326 (by decide) ?_
                      refine lv_istore (lv' := [(12, .int 0), (6, .int 0), (11, .int (nI g9)), (10, .int (nI w9)), (9, .int (nI c9)), (8, .int (nI (8 * s9 + i9))), (0, .ref o), (1, .int (nI s9)), (2, .ref (Ar 65)), (3, .int (nI ln)), (4, .int 0), (5, .int (nI k9)), (7, .int (nI i9))]) hx hb dX14_find_327 hl (by decide) rfl (fun ls hl => ?_)
                      have hs0 : sb = true := by rw [hsb, decide_eq_true (hsg0.2.mp (by have u := c_306; rw [ex29, show (12 : Int32) * nI b9 + nI c9 = nI (12 * b9 + c9) from nI_ma 12 b9 c9, nI_clamp (by omega), hF11] at u; exact u)), decide_eq_true (Int32.not_le.mp (by have u := c_315; rw [ex32, nI_clamp (by omega), hF65] at u; exact u))]; rfl
                      have hq0 : L36 74 i9 = rwR (fun j => F 65 (k9 + j)) sb 0 := by rw [eL36, va_up_self, nI_clamp (by omega), updL_eq, ex35, rwR, hs0]; rfl
                      have hqo0 : ∀ j i, ¬ (j = 74 ∧ i = i9) → L36 j i = Lj j i := fun j i z => by rw [eL36]; by_cases y : j = 74; (rw [y, va_up_self, nI_clamp (by omega), updL_ne (fun u => z ⟨y, u⟩)]); (rw [va_up_ne _ _ y])
                      exact hlq w9 0 L36 (by omega) hq0 hqo0 G37 hM hF _ _ hG hS ls (lv_sub hl [6, 7, 8, 9, 10, 11, 1, 12, 5, 4, 3, 2, 0] rfl)
                · skip
                  exact absurd (by decide) c_204
              · skip
                exact absurd (by decide) c_167
            · skip
              refine lv_iconst (v := 1) hx hb dX14_find_158 (by decide) ?_
              refine lv_goto (tgt := 163) hx hb dX14_find_159 (by decide) ?_
              refine lv_istore (lv' := [(6, .int 1), (11, .int (nI g9)), (10, .int (nI w9)), (9, .int (nI c9)), (8, .int (nI (8 * s9 + i9))), (0, .ref o), (1, .int (nI s9)), (2, .ref (Ar 65)), (3, .int (nI ln)), (4, .int 0), (5, .int (nI k9)), (7, .int (nI i9))]) hx hb dX14_find_163 hl (by decide) rfl (fun ls hl => ?_)
              refine lv_iload hx hb dX14_find_165 (lv_at hl 0 rfl) ?_
              refine lv_if_eq (tgt := 173) hx hb dX14_find_167 (by decide) (fun c_167 => ?_) (fun c_167 => ?_)
              · skip
                exact absurd c_167 (by decide)
              · skip
                refine lv_goto (tgt := 378) hx hb dX14_find_170 (by decide) ?_
                obtain ⟨x38, ex38⟩ : ∃ y : Int32, y = (nI i9) + 1 := ⟨_, rfl⟩
                refine lv_iinc (v := x38) (lv' := [(7, .int x38), (6, .int 1), (11, .int (nI g9)), (10, .int (nI w9)), (9, .int (nI c9)), (8, .int (nI (8 * s9 + i9))), (0, .ref o), (1, .int (nI s9)), (2, .ref (Ar 65)), (3, .int (nI ln)), (4, .int 0), (5, .int (nI k9))]) hx hb dX14_find_378 hl (k := 11) rfl (by rw [ex38]; rfl) (by decide) rfl (fun ls hl => ?_)
                refine lv_goto (tgt := 45) hx hb dX14_find_381 (by decide) ?_
                rw [show x38 = nI (i9 + 1) by rw [ex38]; exact (nI_succ i9).symm] at hl
                have hFo2 : ∀ j, ¬ (71 ≤ j ∧ j ≤ 73) → F9 j = F j := fun j hj => by rw [eF9, va_up_ne _ _ (by omega)]; exact hFo j hj
                have hP0 : (Pj i9).2.1 = 0 := hz i9 (Nat.le_refl _) hi9
                have hTt2 : RFP F9 Lj Pj (i9 + 1) := hTt.step (fun j i a b z => by rw [eF9]; by_cases y : j = 71; (rw [y, va_up_self, nI_clamp (by omega), pk_un z]); (rw [va_up_ne _ _ y])) (fun _ _ => rfl) (fun _ _ => rfl) ⟨(by rw [eF9, va_up_self, nI_clamp (by omega), pk_us, if_pos hP0]; rfl), fun z => absurd hP0 z⟩
                have hgo : xg = 0 ∧ tlF v9 s9 ln f9 (n + 1) i9 k9 Pj = RT ∧ k9 ≤ ln := hR.resolve_right (fun z => absurd (z.1.symm.trans c_135) (by decide))
                have hbig : ¬ k9 + g9 * w9 ≤ ln := fun z => c_155 (nI_le z (by omega))
                have hR2 : Pj = RT := by rw [← hgo.2.1, tlF, hws, if_neg hbig]
                exact ih (i9 + 1) k9 1 Pj F9 Lj (by omega) hk9 (Or.inr ⟨rfl, hR2⟩) (fun i h1 h2 => hz i (by omega) h2) hTt2 hFo2 hLo G10 hM hF _ _ hG hS ls (lv_sub hl [6, 7, 8, 9, 10, 11, 1, 0] rfl)
          · skip
            refine lv_goto (tgt := 378) hx hb dX14_find_143 (by decide) ?_
            obtain ⟨x39, ex39⟩ : ∃ y : Int32, y = (nI i9) + 1 := ⟨_, rfl⟩
            refine lv_iinc (v := x39) (lv' := [(7, .int x39), (11, .int (nI g9)), (10, .int (nI w9)), (9, .int (nI c9)), (8, .int (nI (8 * s9 + i9))), (0, .ref o), (1, .int (nI s9)), (2, .ref (Ar 65)), (3, .int (nI ln)), (4, .int 0), (5, .int (nI k9)), (6, .int xg)]) hx hb dX14_find_378 hl (k := 11) rfl (by rw [ex39]; rfl) (by decide) rfl (fun ls hl => ?_)
            refine lv_goto (tgt := 45) hx hb dX14_find_381 (by decide) ?_
            rw [show x39 = nI (i9 + 1) by rw [ex39]; exact (nI_succ i9).symm] at hl
            have hFo2 : ∀ j, ¬ (71 ≤ j ∧ j ≤ 73) → F9 j = F j := fun j hj => by rw [eF9, va_up_ne _ _ (by omega)]; exact hFo j hj
            have hP0 : (Pj i9).2.1 = 0 := hz i9 (Nat.le_refl _) hi9
            have hTt2 : RFP F9 Lj Pj (i9 + 1) := hTt.step (fun j i a b z => by rw [eF9]; by_cases y : j = 71; (rw [y, va_up_self, nI_clamp (by omega), pk_un z]); (rw [va_up_ne _ _ y])) (fun _ _ => rfl) (fun _ _ => rfl) ⟨(by rw [eF9, va_up_self, nI_clamp (by omega), pk_us, if_pos hP0]; rfl), fun z => absurd hP0 z⟩
            have hgo : xg = 0 ∧ tlF v9 s9 ln f9 (n + 1) i9 k9 Pj = RT ∧ k9 ≤ ln := hR.resolve_right (fun z => absurd (z.1.symm.trans c_135) (by decide))
            have hg0 : g9 = 0 := nI_inj (b := 0) (by omega) (by decide) c_140
            have hw0 : wsN v9 s9 i9 Pj = 0 := by rw [hws, hg0, Nat.zero_mul]
            have hR2 : tlF v9 s9 ln f9 n (i9 + 1) k9 Pj = RT := by rw [← hgo.2.1, tlF, hw0, if_pos (show k9 + 0 ≤ ln from hgo.2.2), if_neg (Nat.lt_irrefl 0)]; rfl
            exact ih (i9 + 1) k9 xg Pj F9 Lj (by omega) hk9 (Or.inl ⟨hgo.1, hR2, hgo.2.2⟩) (fun i h1 h2 => hz i (by omega) h2) hTt2 hFo2 hLo G10 hM hF _ _ hG hS ls (lv_sub hl [5, 6, 7, 8, 9, 10, 11, 0] rfl)
  refine lv_iconst (v := 1) hx hb dX14_find_0 (by decide) ?_
  refine lv_istore (lv' := [(5, .int 1), (0, .ref o), (1, .int (nI s9)), (2, .ref (Ar 65)), (3, .int (nI ln)), (4, .int 0)]) hx hb dX14_find_1 hl (by decide) rfl (fun ls hl => ?_)
  refine lv_iload hx hb dX14_find_3 (lv_at hl 5 rfl) ?_
  refine lv_if_ne (tgt := 39) hx hb dX14_find_5 (by decide) (fun c_5 => ?_) (fun c_5 => ?_)
  · skip
    exact absurd (by decide) c_5
  · skip
    refine lv_iload_n hx hb dX14_find_8 rfl (lv_at hl 4 rfl) ?_
    refine lv_if_eq (tgt := 35) hx hb dX14_find_9 (by decide) (fun c_9 => ?_) (fun c_9 => ?_)
    · skip
      refine lv_iconst (v := 1) hx hb dX14_find_35 (by decide) ?_
      refine lv_goto (tgt := 40) hx hb dX14_find_36 (by decide) ?_
      refine lv_istore (lv' := [(6, .int 1), (5, .int 1), (0, .ref o), (1, .int (nI s9)), (2, .ref (Ar 65)), (3, .int (nI ln)), (4, .int 0)]) hx hb dX14_find_40 hl (by decide) rfl (fun ls hl => ?_)
      refine lv_iconst (v := 0) hx hb dX14_find_42 (by decide) ?_
      refine lv_istore (lv' := [(7, .int 0), (6, .int 1), (5, .int 1), (0, .ref o), (1, .int (nI s9)), (2, .ref (Ar 65)), (3, .int (nI ln)), (4, .int 0)]) hx hb dX14_find_43 hl (by decide) rfl (fun ls hl => ?_)
      have hfg : ∀ i, 0 ≤ i → i < v9.nP s9 → (fgF (v9.nP s9) P0 i).2.1 = 0 := fun i _ hi => by unfold fgF; rw [if_pos hi]
      have hg1 : fgF (v9.nP s9) P0 = RT := by rw [← hRT0]; unfold teF; rw [if_pos (Or.inl (nI_inj (b := 0) (by omega) (by decide) c_9))]
      exact hlf (v9.nP s9) 0 1 1 (fgF (v9.nP s9) P0) F L (by omega) ⟨by decide, by decide⟩ (Or.inr ⟨rfl, hg1⟩) hfg (fun i hi => absurd hi (Nat.not_lt_zero i)) (fun _ _ => rfl) (fun _ _ => rfl) G hM hF _ _ hG hS ls (lv_sub hl [3, 4, 5, 6, 7, 2, 1, 0] rfl)
    · skip
      refine lv_aload_n hx hb dX14_find_12 rfl (lv_at hl 3 rfl) ?_
      refine lv_iconst (v := 0) hx hb dX14_find_13 (by decide) ?_
      refine mm_iald (n := 64) (f := F 65) hx hb hK hG 1 (hM.2.1 65 rfl) rfl (nI_in (c := 0) (N := 64) (by decide) (by decide)) dX14_find_14 ?_
      refine lv_topi (fun x40 ex40 => ?_)
      refine lv_aload_n hx hb dX14_find_15 rfl (lv_at hl 1 rfl) ?_
      refine mm_get (v := .ref (Ar 21)) hx hb hf_X14 (fun _ h9 => h9) hown hK hG hM.1 rfl 21 (by decide) (tb_use hT tw_1412) (fun _ h9 => h9) (mfs_g21 _ _) dX14_find_16 ?_
      refine lv_bipush (v := 16) hx hb dX14_find_19 (by decide) ?_
      refine lv_aload_n hx hb dX14_find_21 rfl (lv_at hl 1 rfl) ?_
      refine mm_get (v := .int (Iv 42)) hx hb hf_X14 (fun _ h9 => h9) hown hK hG hM.1 rfl 42 (by decide) (tb_use hT tw_1433) (fun _ h9 => h9) (mfs_g42 _ _) dX14_find_22 ?_
      rw [hbk]
      refine lv_imul hx hb dX14_find_25 ?_
      refine lv_iload_n hx hb dX14_find_26 rfl (lv_at hl 2 rfl) ?_
      refine lv_iadd hx hb dX14_find_27 ?_
      refine mm_iald (n := 32) (f := F 21) hx hb hK hG 1 (hM.2.1 21 rfl) rfl (by rw [show (16 : Int32) * nI b9 + nI s9 = nI (16 * b9 + s9) from nI_ma 16 b9 s9]; exact nI_in (N := 32) (by omega) (by decide)) dX14_find_28 ?_
      refine lv_topi (fun x41 ex41 => ?_)
      refine lv_bipush (v := 64) hx hb dX14_find_29 (by decide) ?_
      refine lv_iadd hx hb dX14_find_31 ?_
      refine lv_icmp_eq (tgt := 39) hx hb dX14_find_32 (by decide) (fun c_32 => ?_) (fun c_32 => ?_)
      · skip
        refine lv_iconst (v := 0) hx hb dX14_find_39 (by decide) ?_
        refine lv_istore (lv' := [(6, .int 0), (5, .int 1), (0, .ref o), (1, .int (nI s9)), (2, .ref (Ar 65)), (3, .int (nI ln)), (4, .int 0)]) hx hb dX14_find_40 hl (by decide) rfl (fun ls hl => ?_)
        refine lv_iconst (v := 0) hx hb dX14_find_42 (by decide) ?_
        refine lv_istore (lv' := [(7, .int 0), (6, .int 0), (5, .int 1), (0, .ref o), (1, .int (nI s9)), (2, .ref (Ar 65)), (3, .int (nI ln)), (4, .int 0)]) hx hb dX14_find_43 hl (by decide) rfl (fun ls hl => ?_)
        have hfg : ∀ i, 0 ≤ i → i < v9.nP s9 → (fgF (v9.nP s9) P0 i).2.1 = 0 := fun i _ hi => by unfold fgF; rw [if_pos hi]
        have hl0 : 0 < ln := Nat.pos_of_ne_zero (fun y => c_9 (by rw [y]; rfl))
        have hc0 : oc_at (nI ln) f9 0 = F 65 0 := (hoc 0 hl0).1.symm
        have hzz : x41 + 64 = (v9.S s9).2.2.2 + 64 := by rw [ex41, show (16 : Int32) * nI b9 + nI s9 = nI (16 * b9 + s9) from nI_ma 16 b9 s9, nI_clamp (by omega), hsr.2.1]
        have hg1 : tlF v9 s9 ln f9 (v9.nP s9) 0 1 (fgF (v9.nP s9) P0) = RT := by rw [← hRT0]; unfold teF; rw [if_neg (fun y => y.elim (fun u => absurd u (by omega)) (fun u => u (by rw [hc0, ← hzz, ← c_32, ex40]; rfl)))]
        exact hlf (v9.nP s9) 0 1 0 (fgF (v9.nP s9) P0) F L (by omega) ⟨by decide, by decide⟩ (Or.inl ⟨rfl, hg1, hl0⟩) hfg (fun i hi => absurd hi (Nat.not_lt_zero i)) (fun _ _ => rfl) (fun _ _ => rfl) G hM hF _ _ hG hS ls (lv_sub hl [3, 4, 5, 6, 7, 2, 1, 0] rfl)
      · skip
        refine lv_iconst (v := 1) hx hb dX14_find_35 (by decide) ?_
        refine lv_goto (tgt := 40) hx hb dX14_find_36 (by decide) ?_
        refine lv_istore (lv' := [(6, .int 1), (5, .int 1), (0, .ref o), (1, .int (nI s9)), (2, .ref (Ar 65)), (3, .int (nI ln)), (4, .int 0)]) hx hb dX14_find_40 hl (by decide) rfl (fun ls hl => ?_)
        refine lv_iconst (v := 0) hx hb dX14_find_42 (by decide) ?_
        refine lv_istore (lv' := [(7, .int 0), (6, .int 1), (5, .int 1), (0, .ref o), (1, .int (nI s9)), (2, .ref (Ar 65)), (3, .int (nI ln)), (4, .int 0)]) hx hb dX14_find_43 hl (by decide) rfl (fun ls hl => ?_)
        have hfg : ∀ i, 0 ≤ i → i < v9.nP s9 → (fgF (v9.nP s9) P0 i).2.1 = 0 := fun i _ hi => by unfold fgF; rw [if_pos hi]
        have hl0 : 0 < ln := Nat.pos_of_ne_zero (fun y => c_9 (by rw [y]; rfl))
        have hc0 : oc_at (nI ln) f9 0 = F 65 0 := (hoc 0 hl0).1.symm
        have hzz : x41 + 64 = (v9.S s9).2.2.2 + 64 := by rw [ex41, show (16 : Int32) * nI b9 + nI s9 = nI (16 * b9 + s9) from nI_ma 16 b9 s9, nI_clamp (by omega), hsr.2.1]
        have hg1 : fgF (v9.nP s9) P0 = RT := by rw [← hRT0]; unfold teF; rw [if_pos (Or.inr (fun u => c_32 (by rw [hc0, ← hzz] at u; rw [← u, ex40]; rfl)))]
        exact hlf (v9.nP s9) 0 1 1 (fgF (v9.nP s9) P0) F L (by omega) ⟨by decide, by decide⟩ (Or.inr ⟨rfl, hg1⟩) hfg (fun i hi => absurd hi (Nat.not_lt_zero i)) (fun _ _ => rfl) (fun _ _ => rfl) G hM hF _ _ hG hS ls (lv_sub hl [3, 4, 5, 6, 7, 2, 1, 0] rfl)
