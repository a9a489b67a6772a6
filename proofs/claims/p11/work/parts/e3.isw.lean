/-- the ring that was found, in the reference's row -/
def RGS (v : EdV) (I2 : Nat → Int32) (F2 : Nat → Nat → Int32) (l9 : Nat) : Prop := ∃ m, 1 ≤ m ∧ m ≤ 6 ∧ I2 63 = nI m ∧ RGp v F2 l9 m ∧ RGe v l9 m
/-- what isWrong answers of a claim -/
def isQ (cy : Nat → ClassId) (o : Nat) (Ar : Nat → Nat) (Iv : Nat → Int32) (F : Nat → Nat → Int32) (L : Nat → Nat → Int64) (v : EdV) (k a b : Nat) (G : Nat → Option va_E) (r : Int32) (G2 : Nat → Option va_E) : Prop := r = b2i (wrC v k a b) ∧ ∃ (I2 : Nat → Int32) (F2 : Nat → Nat → Int32), MD cy G2 o Ar I2 F2 L ∧ MF G G2 o Ar ∧ (∀ j, ¬ j = 63 → I2 j = Iv j) ∧ (∀ j, ¬ j = 64 → F2 j = F j) ∧ (rgC v k a = none → Iv 63 = 0 → I2 63 = 0) ∧ ∀ l9, rgC v k a = some l9 → RGS v I2 F2 l9
theorem isQ.same {cy : Nat → ClassId} {o : Nat} {Ar : Nat → Nat} {Iv : Nat → Int32} {F : Nat → Nat → Int32} {L : Nat → Nat → Int64} {v : EdV} {k a b : Nat} {G : Nat → Option va_E} {r : Int32} {G2 : Nat → Option va_E} (hM : MD cy G o Ar Iv F L) (h9 : k ≠ 9) (h : r = b2i (wrC v k a b) ∧ G2 = G) : isQ cy o Ar Iv F L v k a b G r G2 :=
  ⟨h.1, Iv, F, by rw [h.2]; exact hM, by rw [h.2]; exact MF.rf, fun _ _ => rfl, fun _ _ => rfl, fun _ z => z, fun l z => by rw [rgC_n h9] at z; cases z⟩
theorem w_10 {v : EdV} {s i b : Nat} (h : i < 8) : wrC v 10 (8 * s + i) b = (cdN v (v.P s i).2.2.1).isNone := by
  show (cdN v (v.P ((8 * s + i) / 8) ((8 * s + i) % 8)).2.2.1).isNone = _
  rw [show (8 * s + i) / 8 = s by omega, show (8 * s + i) % 8 = i by omega]
theorem w_11 {v : EdV} {s i : Nat} : wrC v 11 s (8 * s + i) = !(eB v s i) := by
  show (!(eB v s (8 * s + i - 8 * s))) = _
  rw [show 8 * s + i - 8 * s = i by omega]
theorem w_13 {v : EdV} {s i b : Nat} (h : i < 100) : wrC v 13 (100 * s + i) b = (svN v (v.O s i).2.2.1).isNone := by
  show (svN v (v.O ((100 * s + i) / 100) ((100 * s + i) % 100)).2.2.1).isNone = _
  rw [show (100 * s + i) / 100 = s by omega, show (100 * s + i) % 100 = i by omega]
theorem w_14 {v : EdV} {s i b : Nat} (h : i < 100) : wrC v 14 (100 * s + i) b = (opP v (v.O s i)).isNone := by
  show (opP v (v.O ((100 * s + i) / 100) ((100 * s + i) % 100))).isNone = _
  rw [show (100 * s + i) / 100 = s by omega, show (100 * s + i) % 100 = i by omega]
theorem rgC_w {v : EdV} {k a b : Nat} (h : wrC v k a b = false) : rgC v k a = none := by
  unfold rgC
  refine if_neg (fun z => ?_)
  rw [z.1] at h
  have h2 : ((lyN v (v.L a).2.2.1).isNone || inR v a 6 (nx v a)) = false := h
  rw [z.2, Bool.or_true] at h2
  cases h2
theorem BK.f {K : Nat → Nat} {V : Nat → Int64} {n : Nat} {F F2 : Nat → Nat → Int32} {bo : Nat} {v : EdV} (h : BK K V n F bo v) (hF : ∀ j, ¬ j = 64 → F2 j = F j) : BK K V n F2 bo v :=
  ⟨h.1.mv (Nat.le_refl _) (fun k i hk => by rw [hF k (by omega)]) rfl rfl rfl rfl, h.2.1.mv (Nat.le_refl _) (fun k i hk => by rw [hF k (by omega)]) rfl rfl, h.2.2.1.mv (Nat.le_refl _) (fun k i hk => by rw [hF k (by omega)]) rfl rfl rfl rfl, h.2.2.2.1.mv (Nat.le_refl _) (fun k i hk => by rw [hF k (by omega)]) rfl rfl, h.2.2.2.2.1.mv (Nat.le_refl _) (fun k i hk => by rw [hF k (by omega)]) rfl rfl, h.2.2.2.2.2.mv (Nat.le_refl _) (fun k i hk => by rw [hF k (by omega)]) rfl rfl rfl rfl⟩

theorem c_M_isWrong (l : Launch) (D : va_G) (cy : Nat → ClassId) (A : Nat → Prop) (X : State → Prop) (hst : mk_St A X) (hXT : ∀ U : State, X U → TB U) (G : Nat → Option va_E) (o : Nat) (Ar : Nat → Nat) (Iv : Nat → Int32) (F : Nat → Nat → Int32) (L : Nat → Nat → Int64) (ft : Nat → Int32) (en bo n9 k9 a9 b9 : Nat) (p9 : Int32) (v9 : EdV) (hM : MD cy G o Ar Iv F L) (hB : BK (tkK ft en) (tkV ft en) n9 F bo v9) (hLS : LSv v9) (hn30 : n9 < 2 ^ 30) (hbl : bo < 2) (h41 : Iv 41 = nI bo) (hk : PK v9 k9 a9 b9 p9) : Met l yX14_isWrong [.code yX14_isWrong cX14_isWrong 11 (some .boolean)] ({ frames := 2, cells := 0, slots := 0, locals := 60 }) (mk_Pre D vwCl (tyL cy) A X G [.ref o, .int (nI k9), .int (nI a9), .int (nI b9)]) (va_Qi (fun (r : Int32) (G2 : Nat → Option va_E) => isQ cy o Ar Iv F L v9 k9 a9 b9 G r G2) (mk_B D vwCl A) A) 0 0 A := by
  match k9, hk with
  | 0, hk => exact False.elim hk
  | 1, hk => exact (c_M_isW1 l D cy A X hst hXT G o Ar Iv F L ft en bo n9 a9 (nI b9) v9 hM hB.1 hn30 hbl h41 hk.1).mono (Nat.le_of_ble_eq_true rfl) (Nat.le_refl _) (Nat.le_refl _) (Nat.le_of_ble_eq_true rfl) (Nat.le_refl _) (Nat.le_refl _) (fun _ _ h => h) (fun a s o t ⟨⟨r, G2, e1, hp, k6⟩, k7⟩ => ⟨⟨r, G2, e1, isQ.same hM (by decide) hp, k6⟩, k7⟩)
  | 2, hk => exact (c_M_isW2 l D cy A X hst hXT G o Ar Iv F L ft en bo n9 a9 (nI b9) v9 hM hB.2.1 hn30 hbl h41 hk.1).mono (Nat.le_of_ble_eq_true rfl) (Nat.le_refl _) (Nat.le_refl _) (Nat.le_of_ble_eq_true rfl) (Nat.le_refl _) (Nat.le_refl _) (fun _ _ h => h) (fun a s o t ⟨⟨r, G2, e1, hp, k6⟩, k7⟩ => ⟨⟨r, G2, e1, isQ.same hM (by decide) hp, k6⟩, k7⟩)
  | 3, hk => exact (c_M_isW3 l D cy A X hst hXT G o Ar Iv F L ft en bo n9 a9 (nI b9) v9 hM hB.2.2.2.2.2 hn30 hbl h41 hk.1).mono (Nat.le_of_ble_eq_true rfl) (Nat.le_refl _) (Nat.le_refl _) (Nat.le_of_ble_eq_true rfl) (Nat.le_refl _) (Nat.le_refl _) (fun _ _ h => h) (fun a s o t ⟨⟨r, G2, e1, hp, k6⟩, k7⟩ => ⟨⟨r, G2, e1, isQ.same hM (by decide) hp, k6⟩, k7⟩)
  | 4, hk => exact (c_M_isW4 l D cy A X hst hXT G o Ar Iv F L ft en bo n9 a9 (nI b9) v9 hM hB.2.2.1 hLS hB.2.1.2.1 hn30 hbl h41 hk.1).mono (Nat.le_of_ble_eq_true rfl) (Nat.le_refl _) (Nat.le_refl _) (Nat.le_of_ble_eq_true rfl) (Nat.le_refl _) (Nat.le_refl _) (fun _ _ h => h) (fun a s o t ⟨⟨r, G2, e1, hp, k6⟩, k7⟩ => ⟨⟨r, G2, e1, isQ.same hM (by decide) hp, k6⟩, k7⟩)
  | 5, hk => exact (c_M_isW5 l D cy A X hst hXT G o Ar Iv F L ft en bo n9 a9 b9 v9 hM hB.2.2.1 hn30 hbl h41 hk.1 hk.2.1).mono (Nat.le_of_ble_eq_true rfl) (Nat.le_refl _) (Nat.le_refl _) (Nat.le_of_ble_eq_true rfl) (Nat.le_refl _) (Nat.le_refl _) (fun _ _ h => h) (fun a s o t ⟨⟨r, G2, e1, hp, k6⟩, k7⟩ => ⟨⟨r, G2, e1, isQ.same hM (by decide) hp, k6⟩, k7⟩)
  | 6, hk => exact (c_M_isW6 l D cy A X hst hXT G o Ar Iv F L ft en bo n9 a9 b9 v9 hM hB.1 hk.1 hn30 hbl h41 hk.2.1).mono (Nat.le_of_ble_eq_true rfl) (Nat.le_refl _) (Nat.le_refl _) (Nat.le_of_ble_eq_true rfl) (Nat.le_refl _) (Nat.le_refl _) (fun _ _ h => h) (fun a s o t ⟨⟨r, G2, e1, hp, k6⟩, k7⟩ => ⟨⟨r, G2, e1, isQ.same hM (by decide) hp, k6⟩, k7⟩)
  | 7, hk => exact (c_M_isW7 l D cy A X hst hXT G o Ar Iv F L ft en bo n9 a9 (nI b9) v9 hM hB.2.2.2.1 hn30 hbl h41 hk.1).mono (Nat.le_of_ble_eq_true rfl) (Nat.le_refl _) (Nat.le_refl _) (Nat.le_of_ble_eq_true rfl) (Nat.le_refl _) (Nat.le_refl _) (fun _ _ h => h) (fun a s o t ⟨⟨r, G2, e1, hp, k6⟩, k7⟩ => ⟨⟨r, G2, e1, isQ.same hM (by decide) hp, k6⟩, k7⟩)
  | 8, hk => exact (c_M_isW8 l D cy A X hst hXT G o Ar Iv F L ft en bo n9 a9 (nI b9) v9 hM hB.2.2.2.2.1 hn30 hbl h41 hk.1).mono (Nat.le_of_ble_eq_true rfl) (Nat.le_refl _) (Nat.le_refl _) (Nat.le_of_ble_eq_true rfl) (Nat.le_refl _) (Nat.le_refl _) (fun _ _ h => h) (fun a s o t ⟨⟨r, G2, e1, hp, k6⟩, k7⟩ => ⟨⟨r, G2, e1, isQ.same hM (by decide) hp, k6⟩, k7⟩)
  | 9, hk =>
    refine (c_M_isW9 l D cy A X hst hXT G o Ar Iv F L ft en bo n9 a9 (nI b9) v9 hM hB.2.1 hn30 hbl h41 hk.1 hk.2.2.1).mono (Nat.le_refl _) (Nat.le_refl _) (Nat.le_refl _) (Nat.le_refl _) (Nat.le_refl _) (Nat.le_refl _) (fun _ _ h => h) ?_
    rintro a s o t ⟨⟨r, G2, e1, ⟨hp, I2, F2, g1, g2, g3, g4, g5, g6⟩, k6⟩, k7⟩
    refine ⟨⟨r, G2, e1, ⟨hp, I2, F2, g1, g2, g3, g4, fun z => ?_, fun l9 z => ?_⟩, k6⟩, k7⟩
    · refine g5 ?_
      cases hq : inR v9 a9 6 (nx v9 a9) with
      | false => rfl
      | true => rw [rgC, if_pos ⟨rfl, hq⟩] at z; cases z
    · cases hq : inR v9 a9 6 (nx v9 a9) with
      | false => rw [rgC, if_neg (fun y => Bool.false_ne_true (hq.symm.trans y.2))] at z; cases z
      | true =>
        rw [rgC, if_pos ⟨rfl, hq⟩] at z
        injection z with z
        rw [← z]
        exact g6 hq
  | 10, hk =>
    obtain ⟨s9, hs, i9, hi, ha, -, -⟩ := hk
    subst ha
    have h8 := (hB.2.2.1.2.2 s9 hs).2.2.2.2.1
    exact (c_M_isW10 l D cy A X hst hXT G o Ar Iv F L ft en bo n9 s9 i9 (nI b9) v9 hM hB.1 hn30 hbl h41 hB.2.2.1 hs hi).mono (Nat.le_of_ble_eq_true rfl) (Nat.le_refl _) (Nat.le_refl _) (Nat.le_of_ble_eq_true rfl) (Nat.le_refl _) (Nat.le_refl _) (fun _ _ h => h) (fun a s o t ⟨⟨r, G2, e1, hp, k6⟩, k7⟩ => ⟨⟨r, G2, e1, isQ.same hM (by decide) ⟨hp.1.trans (by rw [w_10 (by omega)]), hp.2⟩, k6⟩, k7⟩)
  | 11, hk =>
    obtain ⟨hs, i9, hi, ha, -, -⟩ := hk
    subst ha
    exact (c_M_isW11 l D cy A X hst hXT G o Ar Iv F L ft en bo n9 a9 i9 v9 hM hB.2.2.1 hn30 hbl h41 hs hi).mono (Nat.le_of_ble_eq_true rfl) (Nat.le_refl _) (Nat.le_refl _) (Nat.le_of_ble_eq_true rfl) (Nat.le_refl _) (Nat.le_refl _) (fun _ _ h => h) (fun a s o t ⟨⟨r, G2, e1, hp, k6⟩, k7⟩ => ⟨⟨r, G2, e1, isQ.same hM (by decide) ⟨hp.1.trans (by rw [w_11]), hp.2⟩, k6⟩, k7⟩)
  | 12, hk => exact (c_M_isW12 l D cy A X hst hXT G o Ar Iv F L ft en bo n9 a9 (nI b9) v9 hM hB.2.1 hn30 hbl h41 hB.2.2.2.2.1 hk.1).mono (Nat.le_of_ble_eq_true rfl) (Nat.le_refl _) (Nat.le_refl _) (Nat.le_of_ble_eq_true rfl) (Nat.le_refl _) (Nat.le_refl _) (fun _ _ h => h) (fun a s o t ⟨⟨r, G2, e1, hp, k6⟩, k7⟩ => ⟨⟨r, G2, e1, isQ.same hM (by decide) hp, k6⟩, k7⟩)
  | 13, hk =>
    obtain ⟨j9, hj, i9, hi, ha, -, h26, -⟩ := hk
    subst ha
    have h80 := (hB.2.2.2.2.2.2.2 j9 hj).2.2.1
    exact (c_M_isW13 l D cy A X hst hXT G o Ar Iv F L ft en bo n9 j9 i9 (nI b9) v9 hM hB.2.2.1 hB.2.2.2.2.2 hn30 hbl h41 hj hi h26).mono (Nat.le_of_ble_eq_true rfl) (Nat.le_refl _) (Nat.le_refl _) (Nat.le_of_ble_eq_true rfl) (Nat.le_refl _) (Nat.le_refl _) (fun _ _ h => h) (fun a s o t ⟨⟨r, G2, e1, hp, k6⟩, k7⟩ => ⟨⟨r, G2, e1, isQ.same hM (by decide) ⟨hp.1.trans (by rw [w_13 (by omega)]), hp.2⟩, k6⟩, k7⟩)
  | 14, hk =>
    obtain ⟨j9, hj, i9, hi, ha, -, h26, -⟩ := hk
    subst ha
    have h80 := (hB.2.2.2.2.2.2.2 j9 hj).2.2.1
    exact (c_M_isW14 l D cy A X hst hXT G o Ar Iv F L ft en bo n9 j9 i9 (nI b9) v9 hM hB.2.2.1 hB.2.2.2.2.2 hn30 hbl h41 hj hi h26).mono (Nat.le_of_ble_eq_true rfl) (Nat.le_refl _) (Nat.le_refl _) (Nat.le_of_ble_eq_true rfl) (Nat.le_refl _) (Nat.le_refl _) (fun _ _ h => h) (fun a s o t ⟨⟨r, G2, e1, hp, k6⟩, k7⟩ => ⟨⟨r, G2, e1, isQ.same hM (by decide) ⟨hp.1.trans (by rw [w_14 (by omega)]), hp.2⟩, k6⟩, k7⟩)
  | _ + 15, hk => exact False.elim hk
