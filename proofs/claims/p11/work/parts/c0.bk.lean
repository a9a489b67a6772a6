/-! ===== the reference's statements: what they leave as it was, and their claims ===== -/
section

variable {K : Nat → Nat} {S : Nat → Int32} {V : Nat → Int64}
theorem ad_take (hS : ∀ p, ¬ S p < 0) {j : Nat} {q : Nat × Int32} (h : (q_take K S j q).2 < 0) : q.2 < 0 ∧ K q.1 = j ∧ (q_take K S j q).1 = q.1 + 1 := by
  unfold q_take at h ⊢
  split at h
  · rename_i hs
    rw [if_pos hs]
    exact ⟨(se_t hs).1, (se_t hs).2, rfl⟩
  · exact absurd h (fl_ge hS)
theorem ad_name (hS : ∀ p, ¬ S p < 0) {q : Nat × Int32} (h : (q_name K S V q).2.2 < 0) : q.2 < 0 ∧ K q.1 = 0 ∧ (q_name K S V q).2.1 = q.1 + 1 := by
  unfold q_name at h ⊢
  split at h
  · rename_i hs
    rw [if_pos hs]
    exact ⟨(se_t hs).1, (se_t hs).2, rfl⟩
  · exact absurd h (fl_ge hS)
theorem ad_num (hS : ∀ p, ¬ S p < 0) {lo hi : Int32} {q : Nat × Int32} (h : (q_num K S V lo hi q).2.2 < 0) : q.2 < 0 ∧ K q.1 = 1 ∧ (q_num K S V lo hi q).2.1 = q.1 + 1 := by
  unfold q_num at h ⊢
  split at h
  · rename_i hs
    rw [if_pos hs]
    exact ⟨(se_t hs.1).1, (se_t hs.1).2, rfl⟩
  · exact absurd h (fl_ge hS)
theorem ad_begin (hS : ∀ p, ¬ S p < 0) {hv mo : Int32} {q : Nat × Int32} (h : (q_begin S hv mo q).2 < 0) : q.2 < 0 ∧ hv < mo ∧ (q_begin S hv mo q).1 = q.1 + 1 := by
  unfold q_begin at h ⊢
  split at h
  · rename_i hs
    split at h
    · rename_i h2
      rw [if_pos hs, if_pos h2]
      exact ⟨h, hs, rfl⟩
    · rename_i h2
      exact absurd h h2
  · exact absurd h (fl_ge hS)
theorem ad_val (hS : ∀ p, ¬ S p < 0) {q : Nat × Int32} (h : (q_val K S V q).2.2 < 0) : q.2 < 0 ∧ q.1 + 1 ≤ (q_val K S V q).2.1 := by
  unfold q_val at h ⊢
  split at h
  · rename_i hs
    rw [if_pos hs]
    have := ad_num hS h
    dsimp only at this ⊢
    exact ⟨this.1, by omega⟩
  · rename_i hs
    rw [if_neg hs]
    have := ad_num hS h
    exact ⟨this.1, by omega⟩
theorem ge_take {j : Nat} {q : Nat × Int32} : q.1 ≤ (q_take K S j q).1 := by unfold q_take; split <;> dsimp only <;> omega
theorem ge_name {q : Nat × Int32} : q.1 ≤ (q_name K S V q).2.1 := by unfold q_name; split <;> dsimp only <;> omega
theorem ge_num {lo hi : Int32} {q : Nat × Int32} : q.1 ≤ (q_num K S V lo hi q).2.1 := by unfold q_num; split <;> dsimp only <;> omega
theorem ge_begin {hv mo : Int32} {q : Nat × Int32} : q.1 ≤ (q_begin S hv mo q).1 := by
  unfold q_begin
  split
  · split
    · dsimp only; omega
    · exact Nat.le_refl _
  · exact Nat.le_refl _
theorem ge_val {q : Nat × Int32} : q.1 ≤ (q_val K S V q).2.1 := by
  unfold q_val
  split
  · have := @ge_num K S V 0 999999 (q.1 + 1, q.2)
    dsimp only at this ⊢
    omega
  · exact ge_num
end
theorem nI_mu (a b : Nat) : nI a * nI b = nI (a * b) := (Int32.ofNat_mul a b).symm
/-- all ints but the reader's -/
def IZ (Iv : Nat → Int32) : Nat → Int32 := fun j => if 50 ≤ j ∧ j ≤ 58 then 0 else Iv j
theorem IZ_x {I J : Nat → Int32} (h : IX I = IX J) : IZ I = IZ J := by
  funext j
  unfold IZ
  by_cases e : 50 ≤ j ∧ j ≤ 58
  · rw [if_pos e, if_pos e]
  · rw [if_neg e, if_neg e, IXe h (by omega)]
theorem IZe {I J : Nat → Int32} (h : IZ I = IZ J) {j : Nat} (hj : ¬ (50 ≤ j ∧ j ≤ 58)) : I j = J j := by
  have := congrFun h j
  rw [IZ, IZ, if_neg hj, if_neg hj] at this
  exact this
theorem IZ_up {Iv : Nat → Int32} {j : Nat} {x : Int32} (hj : 50 ≤ j ∧ j ≤ 58) : IZ (upd Iv j x) = IZ Iv := by
  funext k
  unfold IZ
  by_cases h : 50 ≤ k ∧ k ≤ 58
  · rw [if_pos h, if_pos h]
  · rw [if_neg h, if_neg h, pk_un (fun e => h (by rw [e]; exact hj))]
def lxA (j : Nat) : Prop := j = 0 ∨ j = 7 ∨ j = 8 ∨ (59 ≤ j ∧ j ≤ 62)
/-- nothing but W, and what the reader itself uses, has changed -/
def FrW (W : Nat → Nat → Prop) (F F2 : Nat → Nat → Int32) : Prop := ∀ j i, ¬ lxA j → ¬ W j i → F2 j i = F j i
section

variable {W W2 : Nat → Nat → Prop} {F F1 F2 : Nat → Nat → Int32}
theorem FrW.rf : FrW W F F := fun _ _ _ _ => rfl
theorem FrW.fx (h : FrW W F F1) (hx : FX F2 = FX F1) : FrW W F F2 := fun j i h1 h2 => by
  rw [FXe hx (fun z => h1 (by unfold lxA; omega))]
  exact h j i h1 h2
theorem FrW.up {j i : Nat} {x : Int32} (h : FrW W F F1) (hw : W j i) : FrW W F (va_up F1 j (upd (F1 j) i x)) := fun k m h1 h2 => by
  by_cases e : k = j
  · subst e
    rw [va_up_self, pk_un (fun e => h2 (by rw [e]; exact hw))]
    exact h k m h1 h2
  · rw [va_up_ne _ _ e]
    exact h k m h1 h2
theorem FrW.cl {k : Nat} {g : Nat → Int32} (h : FrW W F F1) (hk : lxA k) : FrW W F (va_up F1 k g) := fun j i h1 h2 => by
  rw [va_up_ne _ _ (fun e => h1 (by rw [e]; exact hk))]
  exact h j i h1 h2
theorem FrW.mono (h : FrW W F F2) (hW : ∀ j i, W j i → W2 j i) : FrW W2 F F2 := fun j i h1 h2 => h j i h1 (fun z => h2 (hW j i z))
theorem FrW.tr (h : FrW W F F1) (h' : FrW W F1 F2) : FrW W F F2 := fun j i h1 h2 => (h' j i h1 h2).trans (h j i h1 h2)
end
/-- claims: kind, token, and two numbers -/
abbrev CLi : Type := Nat × Nat × Nat × Nat
def CLq (Iv : Nat → Int32) (F : Nat → Nat → Int32) (ft : Nat → Int32) (en : Nat) (cl : List CLi) (c : Nat) : Prop := Iv 58 = nI cl.length ∧ cl.length < c ∧ ∀ k x, cl[k]? = some x → F 59 k = nI x.1 ∧ F 60 k = lnc ft (tkS ft en x.2.1).toNatClampNeg ∧ F 61 k = nI x.2.2.1 ∧ F 62 k = nI x.2.2.2
def clA (q : Nat × Int32) (cl : List CLi) (x : CLi) : List CLi := if q.2 < 0 then cl ++ [x] else cl
section

variable {Iv I2 : Nat → Int32} {F F2 : Nat → Nat → Int32} {ft : Nat → Int32} {en : Nat} {cl : List CLi} {c c2 : Nat}
theorem CLq.mv (h : CLq Iv F ft en cl c) (h8 : I2 58 = Iv 58) (h59 : F2 59 = F 59) (h60 : F2 60 = F 60) (h61 : F2 61 = F 61) (h62 : F2 62 = F 62) : CLq I2 F2 ft en cl c := by
  unfold CLq
  rw [h8, h59, h60, h61, h62]
  exact h
theorem CLq.fx (h : CLq Iv F ft en cl c) (hI : IX I2 = IX Iv) (hF : FX F2 = FX F) : CLq I2 F2 ft en cl c := h.mv (IXe hI (by decide)) (FXe hF (by decide)) (FXe hF (by decide)) (FXe hF (by decide)) (FXe hF (by decide))
theorem CLq.wF {k : Nat} {g : Nat → Int32} (h : CLq Iv F ft en cl c) (hk : ¬ (59 ≤ k ∧ k ≤ 62)) : CLq Iv (va_up F k g) ft en cl c := h.mv rfl (va_up_ne _ _ (by omega)) (va_up_ne _ _ (by omega)) (va_up_ne _ _ (by omega)) (va_up_ne _ _ (by omega))
theorem CLq.wI {k : Nat} {x : Int32} (h : CLq Iv F ft en cl c) (hk : k ≠ 58) : CLq (upd Iv k x) F ft en cl c := h.mv (pk_un (Ne.symm hk)) rfl rfl rfl rfl
theorem CLq.le (h : CLq Iv F ft en cl c) (hc : c ≤ c2) : CLq Iv F ft en cl c2 := ⟨h.1, Nat.lt_of_lt_of_le h.2.1 hc, h.2.2⟩
end
theorem c_M_claimq (l : Launch) (D : va_G) (cy : Nat → ClassId) (A : Nat → Prop) (X : State → Prop) (hst : mk_St A X) (hXT : ∀ U : State, X U → TB U) (G : Nat → Option va_E) (o : Nat) (Ar : Nat → Nat) (Iv : Nat → Int32) (F : Nat → Nat → Int32) (L : Nat → Nat → Int64) (ft : Nat → Int32) (sx fr en bo : Nat) (q : Nat × Int32) (cl : List CLi) (c9 k9 a9 b9 : Nat) (hM : MD cy G o Ar Iv F L) (hQ : LXq Ar Iv F ft sx fr en bo q) (hC : CLq Iv F ft en cl c9) (hc1 : c9 ≤ q.1 + 1) (hc2 : q.2 < 0 → c9 ≤ q.1) : Met l yX14_claim [.code yX14_claim cX14_claim 4 none] ({ frames := 0, cells := 0, slots := 0, locals := 0 }) (mk_Pre D vwCl (tyL cy) A X G [.ref o, .int (nI k9), .int (nI a9), .int (nI b9)]) (va_Qv (fun (G2 : Nat → Option va_E) => ∃ (I2 : Nat → Int32) (F2 : Nat → Nat → Int32), MD cy G2 o Ar I2 F2 L ∧ MF G G2 o Ar ∧ LXq Ar I2 F2 ft sx fr en bo q ∧ CLq I2 F2 ft en (clA q cl (k9, q.1, a9, b9)) (q.1 + 1) ∧ IZ I2 = IZ Iv ∧ ∀ j, ¬ (59 ≤ j ∧ j ≤ 62) → F2 j = F j) (mk_B D vwCl A) A) 0 0 A := by
  have hen := hQ.1.2.2.2.1
  have hq1 := hQ.2.1
  have hl := hC.2.1
  refine (c_M_claim l D cy A X hst hXT G o Ar Iv F L (nI k9) (nI a9) (nI b9) hM (fun z => by rw [hC.1]; exact vp_in_nI (by have := hc2 (hQ.g1.mp z); omega) (by decide))).mono (Nat.le_refl _) (Nat.le_refl _) (Nat.le_refl _) (Nat.le_refl _) (Nat.le_refl _) (Nat.le_refl _) (fun _ _ h => h) ?_
  rintro a s o2 t ⟨⟨G2, h1, ⟨h2, h3⟩, h4⟩, h5⟩
  refine ⟨⟨G2, h1, ⟨cmI Iv, cmF Iv F (nI k9) (nI a9) (nI b9), h2, h3, ?_⟩, h4⟩, h5⟩
  unfold clA cmI cmF
  by_cases hq : q.2 < 0
  · have h55 : ¬ Iv 55 = 0 := hQ.g1.mpr hq
    have hcl : (Iv 58).toNatClampNeg = cl.length := by rw [hC.1, nI_clamp (by omega)]
    have h2 := hc2 hq
    rw [if_neg h55, if_neg h55, if_pos hq, hcl]
    refine ⟨?_, ⟨?_, ?_, ?_⟩, IZ_up (by decide), ?_⟩
    · exact ((((hQ.wF (by decide)).wF (by decide)).wF (by decide)).wF (by decide)).wI (by decide)
    · rw [pk_us, hC.1, List.length_append]
      exact nI_1 _
    · rw [List.length_append]
      show cl.length + 1 < q.1 + 1
      omega
    · intro k x hk
      obtain ⟨x9, e1, e2⟩ := hQ.2.2.2.1
      rcases Nat.lt_or_ge k cl.length with hlt | hge
      · rw [List.getElem?_append_left hlt] at hk
        obtain ⟨y1, y2, y3, y4⟩ := hC.2.2 k x hk
        have hne : k ≠ cl.length := by omega
        refine ⟨?_, ?_, ?_, ?_⟩
        · show upd (F 59) cl.length (nI k9) k = _
          rw [pk_un hne]; exact y1
        · show upd (F 60) cl.length (Iv 54) k = _
          rw [pk_un hne]; exact y2
        · show upd (F 61) cl.length (nI a9) k = _
          rw [pk_un hne]; exact y3
        · show upd (F 62) cl.length (nI b9) k = _
          rw [pk_un hne]; exact y4
      · rw [List.getElem?_append_right hge] at hk
        have hk0 : k = cl.length := by
          rcases Nat.eq_zero_or_pos (k - cl.length) with z | z
          · omega
          · rw [show k - cl.length = (k - cl.length - 1) + 1 by omega] at hk
            cases hk
        rw [hk0, Nat.sub_self] at hk
        injection hk with hk
        rw [← hk, hk0]
        refine ⟨?_, ?_, ?_, ?_⟩
        · show upd (F 59) cl.length (nI k9) cl.length = _
          rw [pk_us]
        · show upd (F 60) cl.length (Iv 54) cl.length = _
          rw [pk_us]
          show Iv 54 = lnc ft (tkS ft en q.1).toNatClampNeg
          rw [e2.1, nI_clamp (by omega)]
          exact e2.2
        · show upd (F 61) cl.length (nI a9) cl.length = _
          rw [pk_us]
        · show upd (F 62) cl.length (nI b9) cl.length = _
          rw [pk_us]
    · intro j hj
      rw [va_up_ne _ _ (by omega), va_up_ne _ _ (by omega), va_up_ne _ _ (by omega), va_up_ne _ _ (by omega)]
  · have h55 : Iv 55 = 0 := by
      rcases Decidable.em (Iv 55 = 0) with z | z
      · exact z
      · exact absurd (hQ.g1.mp z) hq
    rw [if_pos h55, if_pos h55, if_neg hq]
    exact ⟨hQ, hC.le hc1, rfl, fun _ _ => rfl⟩
