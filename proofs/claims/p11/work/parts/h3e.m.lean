theorem cutL_cnt {f : Nat → Int32} {en : Nat} : ∀ {n : Nat} {x : CuS}, (cutL f en n x).2.1 ≤ x.2.1 + n := by
  intro n
  induction n with
  | zero => intro x; exact Nat.le_refl _
  | succ n ih =>
    intro x
    rw [cutL]
    split
    · split
      · have h := @ih (x.1 + 1, x.2)
        have h2 : (cutL f en n (x.1 + 1, x.2)).2.1 ≤ x.2.1 + n := h
        omega
      · have h := @ih ((c1R f x.1 en).2, x.2.1 + 1, kup x.2.2.1 x.2.1 (c1R f x.1 en).1.1, kup x.2.2.2.1 x.2.1 (c1R f x.1 en).1.2.1, kup x.2.2.2.2 x.2.1 (c1R f x.1 en).1.2.2)
        have h2 : _ ≤ x.2.1 + 1 + n := h
        omega
    · omega
theorem tkN_le {f : Nat → Int32} {en : Nat} (h : en ≤ 2000) : tkN f en ≤ 2001 := by
  have h2 := @cutL_cnt f en en CuS.nil
  have h3 : (cutL f en en CuS.nil).2.1 ≤ 0 + en := h2
  unfold tkN cutT
  omega
/-- the class's number of a name is the reference's -/
theorem tkV_n0 {f : Nat → Int32} {n j : Nat} {x : Int64} (hn : n < 2 ^ 30) (hj : j < (ntL (tkK f n) (tkV f n) (tkN f n)).1) : (ntL (tkK f n) (tkV f n) (tkN f n)).2 j ≠ 0 := by
  have h : ∀ m, ∀ j, j < (ntL (tkK f n) (tkV f n) m).1 → (ntL (tkK f n) (tkV f n) m).2 j ≠ 0 := by
    intro m
    induction m with
    | zero => intro j hj; exact absurd hj (Nat.not_lt_zero j)
    | succ m ih =>
      intro j hj
      rw [ntL] at hj ⊢
      split at hj
      · next z =>
        rw [if_pos z]
        show kup (ntL (tkK f n) (tkV f n) m).2 (ntL (tkK f n) (tkV f n) m).1 (tkV f n m) j ≠ 0
        by_cases y : j = (ntL (tkK f n) (tkV f n) m).1
        · rw [y, kup_eq]; exact tkV_ne z.1
        · rw [kup_ne y]
          have hj2 : j < (ntL (tkK f n) (tkV f n) m).1 + 1 := hj
          exact ih j (by omega)
      · next z =>
        rw [if_neg z]
        exact ih j hj
  exact h _ j hj
theorem nof_at {m : Nat} {T : Nat → Int64} {j : Nat} (hj : j < m) (hi : ∀ i, i < m → T i = T j → i = j) : nof (fun i => decide (T i = T j)) m = nI (j + 1) := by
  unfold nof
  cases h : fndF (fun i => decide (T i = T j)) m 0 with
  | none => exact absurd (fnd_none h j (by omega) (by omega)) (by simp)
  | some k =>
    obtain ⟨-, h2, h1⟩ := fndF_some h
    have e : k = j := hi k (by omega) (of_decide_eq_true h1)
    rw [e]
theorem nm_rd {f : Nat → Int32} {n n9 : Nat} (hn : n ≤ 2000) (h9 : n9 < 2 ^ 30) (hg : (rdF f n).2.2 < 0) : ∀ r x, NMt (tkK f n) (tkV f n) n9 r x → r = NMf f n x := by
  intro r x h
  have hN : rdN f n = ntL (tkK f n) (tkV f n) (tkN f n) := by rw [rdN, if_pos hg]
  have hT : tkN f n ≤ 2001 := tkN_le hn
  have h2 : NMt (tkK f n) (tkV f n) (tkN f n) r x := by
    by_cases z : n9 ≤ tkN f n
    · exact h.mono z
    · have e := @ntL_hi f n (n9 - tkN f n)
      rw [show tkN f n + (n9 - tkN f n) = n9 by omega] at e
      unfold NMt at h ⊢
      rw [e] at h
      exact h
  unfold NMf
  rw [hN]
  rcases h2 with ⟨h3, h4⟩ | ⟨h0, j, h3, h4, h5⟩
  · rw [h3, h4]
    unfold nof
    cases h : fndF (fun i => decide ((ntL (tkK f n) (tkV f n) (tkN f n)).2 i = 0)) (ntL (tkK f n) (tkV f n) (tkN f n)).1 0 with
    | none => rfl
    | some k =>
      obtain ⟨-, hk, y1⟩ := fndF_some h
      exact absurd (of_decide_eq_true y1) (tkV_n0 (x := 0) (by omega) (by omega))
  · rw [h4, ← h5]
    exact (nof_at h3 (fun i hi e => ntL_inj (by omega) hi h3 e)).symm
/-! ===== the ring ===== -/
theorem rgF_orb {v : EdV} {b m : Nat} (h : RGe v b m) (hm : 1 ≤ m) : ∀ n j, j < m → rgF v b n (some (orb v b j)) = if j + n < m then some (orb v b (j + n)) else none := by
  intro n
  induction n with
  | zero => intro j hj; rw [if_pos (by omega)]; rfl
  | succ n ih =>
    intro j hj
    rw [rgF]
    by_cases z : j + 1 < m
    · obtain ⟨h1, k, h2⟩ := h.2 j z
      have e : orb v b (j + 1) = k := by show (nx v (orb v b j)).getD 0 = k; rw [h2]; rfl
      rw [if_neg h1, h2, ← e, ih (j + 1) z, show j + 1 + n = j + (n + 1) by omega]
    · have e : j = m - 1 := by omega
      rw [e, if_pos h.1, rgF_none, if_neg (by omega)]
theorem ring_eq {v : EdV} {Iv : Nat → Int32} {F : Nat → Nat → Int32} {b : Nat} {iv : Int32} (h : RGS v Iv F b) : rgM Iv F iv = if 0 ≤ iv ∧ iv < 6 then nu1 (rgF v b iv.toNatClampNeg (some b)) else 0 := by
  obtain ⟨m, h1, h2, h3, h4, h5⟩ := h
  unfold rgM
  rw [h3]
  by_cases z : 0 ≤ iv ∧ iv < 6
  · obtain ⟨i, hi, e⟩ := nI_of (Int32.not_lt.mpr z.1)
    have h6 : i < 6 := (nI_ltI hi (by decide)).mp (show nI i < nI 6 by rw [← e]; exact z.2)
    rw [if_pos z, e, nI_clamp hi]
    have o := rgF_orb h5 h1 i 0 h1
    by_cases y : i < m
    · rw [if_pos (by omega), Nat.zero_add] at o
      rw [if_pos ⟨nI_pos hi, nI_lt y (by omega)⟩, h4 i y, show rgF v b i (some b) = some (orb v b i) from o]
      rfl
    · rw [if_neg (by omega)] at o
      rw [if_neg (fun q => nI_nlt (by omega) hi q.2), show rgF v b i (some b) = none from o]
      rfl
  · rw [if_neg z, if_neg]
    intro y
    exact z ⟨Int32.not_lt.mp y.1, Int32.lt_of_lt_of_le y.2 (nI_le (b := 6) h2 (by decide))⟩
def RGK (lf : Nat → Int32) (lt : Nat) (x : Int32) (g : Nat → Int32) : Prop := x ≤ nI 6 ∧ ((rdG lf lt).2 = none → x = 0) ∧ ∀ b, (rdG lf lt).2 = some b → ∃ m, 1 ≤ m ∧ m ≤ 6 ∧ x = nI m ∧ (∀ i, i < m → g i = nI (orb (rdV lf lt) b i + 1)) ∧ RGe (rdV lf lt) b m
theorem ring_rg {lf : Nat → Int32} {lt : Nat} {Iv : Nat → Int32} {F : Nat → Nat → Int32} {iv : Int32} (h : RGK lf lt (Iv 63) (F 64)) : rgM Iv F iv = RGr lf lt iv := by
  unfold RGr
  cases hq : (rdG lf lt).2 with
  | none =>
    unfold rgM
    rw [h.2.1 hq]
    exact if_neg (fun z => z.1 (Int32.lt_of_lt_of_le z.2 (Int32.le_refl 0)))
  | some b => exact ring_eq (h.2.2 b hq)
theorem rd_rg {ft : Nat → Int32} {en : Nat} (hen : en ≤ 2000) (h : rdP ft en < 0) (hP : ∀ s, s < (rdV ft en).nS → (rdV ft en).nP s ≤ 8) (hO : ∀ j, j < (rdV ft en).nJ → (rdV ft en).nO j ≤ 80) : (rdG ft en).2 = none := by
  have hg := rd_gd h
  have hc : CLn (tkS ft en) (PK (rdF ft en).1) 0 (rdF ft en).2.1 ([] ++ clFi (tkK ft en) (tkS ft en) (tkV ft en) (tkN ft en) EdV.nil (0, -1)) := clFi_n (fun p => tkS_ge hen p) (fun p hp => tkV_ne hp) (show q_fill (tkK ft en) (tkS ft en) (tkV ft en) (tkN ft en) EdV.nil (0, -1) = rdF ft en from rfl) hg (CLn.nil (fun k a b p => PK_nil))
  have hN9 : ∀ k a b p, PK (rdV ft en) k a b p → ¬ p < 0 := fun k a b p z => by
    obtain ⟨t, -, e⟩ := hc.2.1 k a b p z
    rw [e]
    exact tkS_ge hen t
  have y := (mAll_mn hN9 hP hO (w := (-1, none))).1
  unfold rdP rdG at h
  rw [if_pos hg, if_pos hg] at h
  unfold rdG
  rw [if_pos hg]
  rcases y with y | ⟨k, a, b, y, -, -⟩
  · rw [y]
  · exact absurd h (hN9 k a b _ y)
/-- what is in hand -/
def HBu (Iv : Nat → Int32) (F : Nat → Nat → Int32) (b9 N : Nat) (f : Nat → Int32) (n : Nat) (ui : Option Nat) : Prop := (N = 0 → F 4 b9 = nI 0) ∧ (1 ≤ N → n ≤ 2000 ∧ rdP f n < 0 ∧ (∃ n9, n9 < 2 ^ 30 ∧ BK (tkK f n) (tkV f n) n9 F b9 (rdV f n)) ∧ Iv 69 = nu1 ui ∧ ∀ k, ui = some k → k < (rdV f n).nL)
def RSb (Iv : Nat → Int32) (F : Nat → Nat → Int32) (tn : Nat) (ft : Nat → Int32) (N : Nat) (fe : Nat → Nat → Int32) (ne : Nat → Nat) (ui : Option Nat) (lf : Nat → Int32) (lt ln : Nat) (fo : Nat → Int32) (b9 sl : Nat) : Prop :=
  Iv 39 = nI tn ∧ tn ≤ 2000 ∧ SGR tn ft (F 40) ∧ b9 < 2 ∧ Iv 42 = nI b9 ∧ Iv 41 = nI (1 - b9) ∧ Iv 43 = (if N = 0 then 0 else 1) ∧ Iv 44 = nI N ∧ KEP F N (fun i => fe (i + 1)) (fun i => ne (i + 1)) ∧ HBu Iv F b9 N (fe N) (ne N) ui ∧ ln ≤ 64 ∧ Iv 66 = nI ln ∧ (∀ i, i < ln → F 65 i = oc_at (nI ln) fo (nI i)) ∧ sl ≤ 64 ∧ Iv 68 = nI sl ∧ RGK lf lt (Iv 63) (F 64)
def RSV (cy : Nat → ClassId) (V : Nat → Prop) (G : Nat → Option va_E) (mo tn : Nat) (ft : Nat → Int32) (N : Nat) (fe : Nat → Nat → Int32) (ne : Nat → Nat) (ui : Option Nat) (lf : Nat → Int32) (lt ln : Nat) (fo : Nat → Int32) : Prop :=
  ∃ (Ar : Nat → Nat) (Iv : Nat → Int32) (F : Nat → Nat → Int32) (L : Nat → Nat → Int64) (b9 sl : Nat), MD cy G mo Ar Iv F L ∧ (V mo ∧ ∀ k, mdR k = true → V (Ar k)) ∧ RSb Iv F tn ft N fe ne ui lf lt ln fo b9 sl
theorem RSV.mv {cy : Nat → ClassId} {V : Nat → Prop} {G G2 : Nat → Option va_E} {mo tn : Nat} {ft : Nat → Int32} {N : Nat} {fe : Nat → Nat → Int32} {ne : Nat → Nat} {ui : Option Nat} {lf : Nat → Int32} {lt ln : Nat} {fo : Nat → Int32} (h : RSV cy V G mo tn ft N fe ne ui lf lt ln fo) (hf : ∀ x e, V x → G x = some e → G2 x = some e) : RSV cy V G2 mo tn ft N fe ne ui lf lt ln fo := by
  obtain ⟨Ar, Iv, F, L, b9, sl, h1, h2, h3⟩ := h
  exact ⟨Ar, Iv, F, L, b9, sl, h1.fr V (fun x e z y => hf x e y z) h2.1 h2.2, h2, h3⟩
/-- ints that a call may write: the others stand -/
theorem RSb.iv {Iv I2 : Nat → Int32} {F : Nat → Nat → Int32} {tn : Nat} {ft : Nat → Int32} {N : Nat} {fe : Nat → Nat → Int32} {ne : Nat → Nat}  {ui : Option Nat} {lf : Nat → Int32} {lt ln : Nat} {fo : Nat → Int32} {b9 sl : Nat} (h : RSb Iv F tn ft N fe ne ui lf lt ln fo b9 sl) (hI : ∀ j, 39 ≤ j → ¬ (48 ≤ j ∧ j ≤ 58) → I2 j = Iv j) : RSb I2 F tn ft N fe ne ui lf lt ln fo b9 sl := by
  obtain ⟨a1, a2, a3, a4, a5, a6, a7, a8, a9, ⟨a10, a10b⟩, a11, a12, a13, a14, a15, a16⟩ := h
  refine ⟨(hI 39 (by decide) (by decide)).trans a1, a2, a3, a4, (hI 42 (by decide) (by decide)).trans a5, (hI 41 (by decide) (by decide)).trans a6, (hI 43 (by decide) (by decide)).trans a7, (hI 44 (by decide) (by decide)).trans a8, a9, ⟨a10, fun z => ?_⟩, a11, (hI 66 (by decide) (by decide)).trans a12, a13, a14, (hI 68 (by decide) (by decide)).trans a15, by rw [hI 63 (by decide) (by decide)]; exact a16⟩
  obtain ⟨y1, y2, y3, y4, y5⟩ := a10b z
  exact ⟨y1, y2, y3, (hI 69 (by decide) (by decide)).trans y4, y5⟩
theorem RSb.fv {Iv : Nat → Int32} {F F2 : Nat → Nat → Int32} {tn : Nat} {ft : Nat → Int32} {N : Nat} {fe : Nat → Nat → Int32} {ne : Nat → Nat}  {ui : Option Nat} {lf : Nat → Int32} {lt ln : Nat} {fo : Nat → Int32} {b9 sl : Nat} (h : RSb Iv F tn ft N fe ne ui lf lt ln fo b9 sl) (h40 : F2 40 = F 40) (h45 : F2 45 = F 45) (h46 : F2 46 = F 46) (h65 : F2 65 = F 65) (h64 : F2 64 = F 64) (hB : ∀ k i, wB b9 k i → F2 k i = F k i) : RSb Iv F2 tn ft N fe ne ui lf lt ln fo b9 sl := by
  obtain ⟨a1, a2, a3, a4, a5, a6, a7, a8, a9, ⟨a10, a10b⟩, a11, a12, a13, a14, a15, a16⟩ := h
  refine ⟨a1, a2, by rw [h40]; exact a3, a4, a5, a6, a7, a8, fun i i1 i2 => ?_, ⟨fun z => ?_, fun z => ?_⟩, a11, a12, by rw [h65]; exact a13, a14, a15, by rw [h64]; exact a16⟩
  · rw [h45, h46]; exact a9 i i1 i2
  · rw [hB 4 b9 (Or.inl ⟨by decide, by decide, rfl⟩)]; exact a10 z
  · obtain ⟨y1, y2, ⟨n9, y3, y4⟩, y5⟩ := a10b z
    exact ⟨y1, y2, ⟨n9, y3, y4.fr hB⟩, y5⟩
theorem HBu.vld {Iv : Nat → Int32} {F : Nat → Nat → Int32} {b9 N : Nat} {f : Nat → Int32} {n : Nat} {ui : Option Nat} (h : HBu Iv F b9 N f n ui) (hN : 1 ≤ N) : VLD (rdV f n) := by
  obtain ⟨y1, y2, ⟨n9, y3, y4⟩, y5⟩ := h.2 hN
  exact rd_vld y1 y2 (fun s hs => (y4.2.2.1.2.2 s hs).2.2.2.2.1) (fun j hj => (y4.2.2.2.2.2.2.2 j hj).2.2.1)
theorem nar255 (bv : Int32) : vp_nar .byte bv.toInt8.toInt32 &&& 255 = bv &&& 255 := by
  show bv.toInt8.toInt32.toInt8.toInt32 &&& 255 = bv &&& 255
  rw [Int8.toInt8_toInt32]
  apply Int32.toBitVec_inj.mp
  show ((bv.toBitVec.signExtend 8).signExtend 32 &&& 255#32) = (bv.toBitVec &&& 255#32)
  apply BitVec.eq_of_getLsbD_eq
  intro i hi
  rw [BitVec.getLsbD_and, BitVec.getLsbD_and]
  by_cases h8 : i < 8
  · rw [BitVec.getLsbD_signExtend, BitVec.getLsbD_signExtend]
    simp [h8, show i < 32 by omega]
  · have h0 : (255#32).getLsbD i = false := by
      have : ∀ j : Fin 32, 8 ≤ j.val → (255#32).getLsbD j.val = false := by decide
      exact this ⟨i, hi⟩ (by simpa using h8)
    rw [h0, Bool.and_false, Bool.and_false]
def DCn (N : Nat) (f : Nat → Int32) (n ln : Nat) (fo : Nat → Int32) (P : Nat → PdT) (iv jv wv : Int32) : Int64 := if N = 0 then -1 else match spO (rdV f n) iv jv with | none => -1 | some y => if 0 ≤ wv ∧ wv ≤ 4 then dcN 999999 (rdV f n) (NMf f n) (teF (rdV f n) y.1 ln fo (P y.1)) y.1 y.2 wv else -2
theorem RSV.obj {cy : Nat → ClassId} {V : Nat → Prop} {G : Nat → Option va_E} {mo tn : Nat} {ft : Nat → Int32} {N : Nat} {fe : Nat → Nat → Int32} {ne : Nat → Nat} {ui : Option Nat} {lf : Nat → Int32} {lt ln : Nat} {fo : Nat → Int32} (h : RSV cy V G mo tn ft N fe ne ui lf lt ln fo) : ∃ fs, G mo = some (.inr (15, fs)) := by
  obtain ⟨Ar, Iv, F, L, b9, sl, h1, -⟩ := h
  exact ⟨_, h1.1⟩
theorem RSb.gen {Iv I2 : Nat → Int32} {F : Nat → Nat → Int32} {tn : Nat} {ft : Nat → Int32} {N : Nat} {fe : Nat → Nat → Int32} {ne : Nat → Nat}  {ui : Option Nat} {lf : Nat → Int32} {lt ln : Nat} {fo : Nat → Int32} {b9 sl : Nat} (h : RSb Iv F tn ft N fe ne ui lf lt ln fo b9 sl) (hI : ∀ j, j = 39 ∨ (41 ≤ j ∧ j ≤ 44) ∨ j = 63 ∨ j = 66 → I2 j = Iv j) {sl2 : Nat} (hs : sl2 ≤ 64) (h68 : I2 68 = nI sl2) {ui2 : Option Nat} (hu : 1 ≤ N → I2 69 = nu1 ui2 ∧ ∀ k, ui2 = some k → k < (rdV (fe N) (ne N)).nL) : RSb I2 F tn ft N fe ne ui2 lf lt ln fo b9 sl2 := by
  obtain ⟨a1, a2, a3, a4, a5, a6, a7, a8, a9, ⟨a10, a10b⟩, a11, a12, a13, a14, a15, a16⟩ := h
  refine ⟨(hI 39 (by decide)).trans a1, a2, a3, a4, (hI 42 (by decide)).trans a5, (hI 41 (by decide)).trans a6, (hI 43 (by decide)).trans a7, (hI 44 (by decide)).trans a8, a9, ⟨a10, fun z => ?_⟩, a11, (hI 66 (by decide)).trans a12, a13, hs, h68, by rw [hI 63 (by decide)]; exact a16⟩
  obtain ⟨y1, y2, y3, -⟩ := a10b z
  exact ⟨y1, y2, y3, hu z⟩
theorem RSb.f67 {Iv : Nat → Int32} {F F2 : Nat → Nat → Int32} {tn : Nat} {ft : Nat → Int32} {N : Nat} {fe : Nat → Nat → Int32} {ne : Nat → Nat}  {ui : Option Nat} {lf : Nat → Int32} {lt ln : Nat} {fo : Nat → Int32} {b9 sl : Nat} (h : RSb Iv F tn ft N fe ne ui lf lt ln fo b9 sl) (hF : ∀ j, ¬ (j = 67 ∨ (71 ≤ j ∧ j ≤ 73)) → F2 j = F j) : RSb Iv F2 tn ft N fe ne ui lf lt ln fo b9 sl :=
  h.fv (hF 40 (by decide)) (hF 45 (by decide)) (hF 46 (by decide)) (hF 65 (by decide)) (hF 64 (by decide)) (fun k i z => by have := wB_lx z; rw [hF k (by omega)])

set_option maxHeartbeats 4000000 in
theorem m2_sign (l : Launch) (D : va_G) (cy : Nat → ClassId) (A : Nat → Prop) (X : State → Prop) (hst : mk_St A X) (hXT : ∀ U : State, X U → TB U) (G : Nat → Option va_E) (V : Nat → Prop) (o tn : Nat) (ft : Nat → Int32) (N : Nat) (fe : Nat → Nat → Int32) (ne : Nat → Nat) (ui : Option Nat) (lf : Nat → Int32) (lt ln : Nat) (fo : Nat → Int32) (hR : RSV cy V G o tn ft N fe ne ui lf lt ln fo) (hN20 : N < 2 ^ 20) (cv : Int32) (tn2 : Nat) (ft2 : Nat → Int32) (hl2 : tn2 ≤ 2000) (hsg : ∀ f, SGR tn ft f → ∃ g, sm_n cv 4 24 (nI tn, f) = (nI tn2, g) ∧ SGR tn2 ft2 g) : Met l yX14_sign [.code yX14_sign cX14_sign 4 none] ({ frames := 12, cells := 0, slots := 0, locals := 360 }) (mk_Pre D vwCl (tyL cy) A X G [.ref o, .int cv]) (va_Qv (fun (G2 : Nat → Option va_E) => RSV cy V G2 o tn2 ft2 N fe ne ui lf lt ln fo ∧ FRV V G G2) (mk_B D vwCl A) A) 0 0 A := by
  obtain ⟨Ar, Iv, F, L, b9, sl, hM, hV, hS⟩ := hR
  obtain ⟨a1, a2, a3, a4, a5, a6, a7, a8, a9, a10, a11, a12, a13, a14, a15, a16⟩ := id hS
  obtain ⟨g, hfin, hg2⟩ := hsg (F 40) a3
  refine (c_X14_sign l D cy A X hst hXT G o Ar Iv F L cv (nI tn2) g hM (by rw [a1]; exact nI_pos (by omega)) (by rw [a1]; exact hfin)).mono (Nat.le_of_ble_eq_true rfl) (Nat.le_of_ble_eq_true rfl) (Nat.le_of_ble_eq_true rfl) (Nat.le_of_ble_eq_true rfl) (Nat.le_of_ble_eq_true rfl) (Nat.le_of_ble_eq_true rfl) (fun _ _ h => h) ?_
  rintro a s oo t ⟨⟨G3, e1, ⟨hM2, hF2, -⟩, e3⟩, e4⟩
  have hI : ∀ j, 40 ≤ j → upd (upd Iv 38 0) 39 (nI tn2) j = Iv j := fun j hj => by rw [pk_un (by omega), pk_un (by omega)]
  have h9 : RSb (upd (upd Iv 38 0) 39 (nI tn2)) (va_up F 40 g) tn2 ft2 N fe ne ui lf lt ln fo b9 sl := by
    refine ⟨pk_us, hl2, by rw [va_up_self]; exact hg2, a4, (hI 42 (by decide)).trans a5, (hI 41 (by decide)).trans a6, (hI 43 (by decide)).trans a7, (hI 44 (by decide)).trans a8, fun i i1 i2 => ?_, ⟨fun z => ?_, fun z => ?_⟩, a11, (hI 66 (by decide)).trans a12, by rw [va_up_ne _ _ (by decide)]; exact a13, a14, (hI 68 (by decide)).trans a15, by rw [hI 63 (by decide), va_up_ne _ _ (by decide)]; exact a16⟩
    · rw [va_up_ne _ _ (by decide), va_up_ne _ _ (by decide)]; exact a9 i i1 i2
    · rw [va_up_ne _ _ (by decide)]; exact a10.1 z
    · obtain ⟨y1, y2, ⟨n9, y3, y4⟩, y5, y6⟩ := a10.2 z
      exact ⟨y1, y2, ⟨n9, y3, y4.fr (fun k i z => by have := wB_lx z; rw [va_up_ne _ _ (by omega)])⟩, (hI 69 (by decide)).trans y5, y6⟩
  exact ⟨⟨G3, e1, ⟨⟨Ar, _, _, _, b9, sl, hM2, hV, h9⟩, FRV.of hM2 hF2 hV⟩, e3⟩, e4⟩

set_option maxHeartbeats 4000000 in
theorem m2_octet (l : Launch) (D : va_G) (cy : Nat → ClassId) (A : Nat → Prop) (X : State → Prop) (hst : mk_St A X) (hXT : ∀ U : State, X U → TB U) (G : Nat → Option va_E) (V : Nat → Prop) (o tn : Nat) (ft : Nat → Int32) (N : Nat) (fe : Nat → Nat → Int32) (ne : Nat → Nat) (ui : Option Nat) (lf : Nat → Int32) (lt ln : Nat) (fo : Nat → Int32) (hR : RSV cy V G o tn ft N fe ne ui lf lt ln fo) (hN20 : N < 2 ^ 20) (bv : Int32) : Met l yX14_octet [.code yX14_octet cX14_octet 2 none] ({ frames := 12, cells := 0, slots := 0, locals := 360 }) (mk_Pre D vwCl (tyL cy) A X G [.ref o, .int bv]) (va_Qv (fun (G2 : Nat → Option va_E) => RSV cy V G2 o tn ft N fe ne ui lf lt (ocN ln) (ocF ln fo bv) ∧ FRV V G G2) (mk_B D vwCl A) A) 0 0 A := by
  obtain ⟨Ar, Iv, F, L, b9, sl, hM, hV, hS⟩ := hR
  obtain ⟨a1, a2, a3, a4, a5, a6, a7, a8, a9, a10, a11, a12, a13, a14, a15, a16⟩ := id hS
  refine (c_X14_octet l D cy A X hst hXT G o Ar Iv F L bv hM (by rw [a12]; exact nI_pos (by omega)) (by rw [a12]; exact nI_le (b := 64) a11 (by decide))).mono (Nat.le_of_ble_eq_true rfl) (Nat.le_of_ble_eq_true rfl) (Nat.le_of_ble_eq_true rfl) (Nat.le_of_ble_eq_true rfl) (Nat.le_of_ble_eq_true rfl) (Nat.le_of_ble_eq_true rfl) (fun _ _ h => h) ?_
  rintro a s oo t ⟨⟨G3, e1, ⟨hM2, hF2⟩, e3⟩, e4⟩
  rw [a12] at hM2
  obtain ⟨em9, ec9, hm9, hm1⟩ := ocN_ok a11
  have hI : ∀ j, 39 ≤ j → j ≠ 66 → upd (upd (upd Iv 38 0) 66 (oc_n (nI ln))) 66 (oc_n (nI ln) + 1) j = Iv j := fun j hj h6 => by rw [pk_un h6, pk_un h6, pk_un (by omega)]
  have h9 : RSb (upd (upd (upd Iv 38 0) 66 (oc_n (nI ln))) 66 (oc_n (nI ln) + 1)) (va_up F 65 (upd (F 65) (oc_n (nI ln)).toNatClampNeg (bv &&& 255))) tn ft N fe ne ui lf lt (ocN ln) (ocF ln fo bv) b9 sl := by
    refine ⟨(hI 39 (by decide) (by decide)).trans a1, a2, by rw [va_up_ne _ _ (by decide)]; exact a3, a4, (hI 42 (by decide) (by decide)).trans a5, (hI 41 (by decide) (by decide)).trans a6, (hI 43 (by decide) (by decide)).trans a7, (hI 44 (by decide) (by decide)).trans a8, fun i i1 i2 => ?_, ⟨fun z => ?_, fun z => ?_⟩, hm9, by rw [pk_us]; exact em9, fun i hi => ?_, a14, (hI 68 (by decide) (by decide)).trans a15, by rw [hI 63 (by decide) (by decide), va_up_ne _ _ (by decide)]; exact a16⟩
    · rw [va_up_ne _ _ (by decide), va_up_ne _ _ (by decide)]; exact a9 i i1 i2
    · rw [va_up_ne _ _ (by decide)]; exact a10.1 z
    · obtain ⟨y1, y2, ⟨n9, y3, y4⟩, y5, y6⟩ := a10.2 z
      exact ⟨y1, y2, ⟨n9, y3, y4.fr (fun k i z => by have := wB_lx z; rw [va_up_ne _ _ (by omega)])⟩, (hI 69 (by decide) (by decide)).trans y5, y6⟩
    · rw [va_up_self]
      rw [ec9]
      unfold oc_at ocF
      rw [if_neg (nI_pos (by omega)), if_neg (nI_ge hi (by omega)), if_pos (show nI i < 64 from nI_lt (b := 64) (by omega) (by decide)), nI_clamp (by omega)]
      by_cases z : i = ocN ln - 1
      · rw [z, pk_us, pk_us]; exact (nar255 bv).symm
      · rw [pk_un z, pk_un z]
        have hln : ocN ln = ln + 1 := by unfold ocN at hi z ⊢; by_cases y : ln = 64; rw [if_pos y] at hi z; omega; exact if_neg y
        have h := a13 i (by omega)
        unfold oc_at at h
        rw [if_neg (nI_pos (by omega)), if_neg (nI_ge (by omega) (by omega)), if_pos (show nI i < 64 from nI_lt (b := 64) (by omega) (by decide)), nI_clamp (by omega)] at h
        exact h
  exact ⟨⟨G3, e1, ⟨⟨Ar, _, _, _, b9, sl, hM2, hV, h9⟩, FRV.of hM2 hF2 hV⟩, e3⟩, e4⟩

set_option maxHeartbeats 4000000 in
theorem m2_service (l : Launch) (D : va_G) (cy : Nat → ClassId) (A : Nat → Prop) (X : State → Prop) (hst : mk_St A X) (hXT : ∀ U : State, X U → TB U) (G : Nat → Option va_E) (V : Nat → Prop) (o tn : Nat) (ft : Nat → Int32) (N : Nat) (fe : Nat → Nat → Int32) (ne : Nat → Nat) (ui : Option Nat) (lf : Nat → Int32) (lt ln : Nat) (fo : Nat → Int32) (hR : RSV cy V G o tn ft N fe ne ui lf lt ln fo) (hN20 : N < 2 ^ 20) (iv wv : Int32) : Met l yX14_service [.code yX14_service cX14_service 6 (some .int)] ({ frames := 12, cells := 0, slots := 0, locals := 360 }) (mk_Pre D vwCl (tyL cy) A X G [.ref o, .int iv, .int wv]) (va_Qi (fun (r : Int32) (G2 : Nat → Option va_E) => r = SVr N (fe N) (ne N) ui iv wv ∧ RSV cy V G2 o tn ft N fe ne ui lf lt ln fo ∧ FRV V G G2) (mk_B D vwCl A) A) 0 0 A := by
  obtain ⟨Ar, Iv, F, L, b9, sl, hM, hV, hS⟩ := hR
  obtain ⟨a1, a2, a3, a4, a5, a6, a7, a8, a9, a10, a11, a12, a13, a14, a15, a16⟩ := id hS
  by_cases hN : N = 0
  · refine (c_X14_service_0 l D cy A X hst hXT G o Ar Iv F L iv wv hM (by rw [a7, if_pos hN])).mono (Nat.le_of_ble_eq_true rfl) (Nat.le_of_ble_eq_true rfl) (Nat.le_of_ble_eq_true rfl) (Nat.le_of_ble_eq_true rfl) (Nat.le_of_ble_eq_true rfl) (Nat.le_of_ble_eq_true rfl) (fun _ _ h => h) ?_
    rintro a s oo t ⟨⟨r, G3, e1, ⟨hr9, hM2, hF2⟩, e3⟩, e4⟩
    exact ⟨⟨r, G3, e1, ⟨by rw [SVr, if_pos hN]; exact hr9, ⟨Ar, _, _, _, b9, sl, hM2, hV, hS.iv (fun j h1 _ => pk_un (by omega))⟩, FRV.of hM2 hF2 hV⟩, e3⟩, e4⟩
  · obtain ⟨y1, y2, ⟨n9, y3, y4⟩, y5, y6⟩ := a10.2 (by omega)
    have hVL := a10.vld (by omega)
    have hnm := nm_rd y1 y3 (rd_gd y2)
    refine (c_M_service l D cy A X hst hXT G o Ar Iv F L (fe N) (ne N) b9 n9 (rdV (fe N) (ne N)) (NMf (fe N) (ne N)) ui iv wv hM y4 rdV_ls hVL y3 a4 a5 (by rw [a7, if_neg hN]; decide) hnm y5 y6).mono (Nat.le_of_ble_eq_true rfl) (Nat.le_of_ble_eq_true rfl) (Nat.le_of_ble_eq_true rfl) (Nat.le_of_ble_eq_true rfl) (Nat.le_of_ble_eq_true rfl) (Nat.le_of_ble_eq_true rfl) (fun _ _ h => h) ?_
    rintro a s oo t ⟨⟨r, G3, e1, ⟨hr9, hM2, hF2⟩, e3⟩, e4⟩
    exact ⟨⟨r, G3, e1, ⟨by rw [SVr, if_neg hN]; exact hr9, ⟨Ar, _, _, _, b9, sl, hM2, hV, hS.iv (fun j h1 _ => pk_un (by omega))⟩, FRV.of hM2 hF2 hV⟩, e3⟩, e4⟩

set_option maxHeartbeats 4000000 in
theorem m2_parameter (l : Launch) (D : va_G) (cy : Nat → ClassId) (A : Nat → Prop) (X : State → Prop) (hst : mk_St A X) (hXT : ∀ U : State, X U → TB U) (G : Nat → Option va_E) (V : Nat → Prop) (o tn : Nat) (ft : Nat → Int32) (N : Nat) (fe : Nat → Nat → Int32) (ne : Nat → Nat) (ui : Option Nat) (lf : Nat → Int32) (lt ln : Nat) (fo : Nat → Int32) (hR : RSV cy V G o tn ft N fe ne ui lf lt ln fo) (hN20 : N < 2 ^ 20) (iv jv wv : Int32) : Met l yX14_parameter [.code yX14_parameter cX14_parameter 5 (some .int)] ({ frames := 12, cells := 0, slots := 0, locals := 360 }) (mk_Pre D vwCl (tyL cy) A X G [.ref o, .int iv, .int jv, .int wv]) (va_Qi (fun (r : Int32) (G2 : Nat → Option va_E) => r = PAr N (fe N) (ne N) iv jv wv ∧ RSV cy V G2 o tn ft N fe ne ui lf lt ln fo ∧ FRV V G G2) (mk_B D vwCl A) A) 0 0 A := by
  obtain ⟨Ar, Iv, F, L, b9, sl, hM, hV, hS⟩ := hR
  obtain ⟨a1, a2, a3, a4, a5, a6, a7, a8, a9, a10, a11, a12, a13, a14, a15, a16⟩ := id hS
  by_cases hN : N = 0
  · refine (c_X14_parameter_0 l D cy A X hst hXT G o Ar Iv F L iv jv wv hM (by rw [a7, if_pos hN])).mono (Nat.le_of_ble_eq_true rfl) (Nat.le_of_ble_eq_true rfl) (Nat.le_of_ble_eq_true rfl) (Nat.le_of_ble_eq_true rfl) (Nat.le_of_ble_eq_true rfl) (Nat.le_of_ble_eq_true rfl) (fun _ _ h => h) ?_
    rintro a s oo t ⟨⟨r, G3, e1, ⟨hr9, hM2, hF2⟩, e3⟩, e4⟩
    exact ⟨⟨r, G3, e1, ⟨by rw [PAr, if_pos hN]; exact hr9, ⟨Ar, _, _, _, b9, sl, hM2, hV, hS.iv (fun j h1 _ => pk_un (by omega))⟩, FRV.of hM2 hF2 hV⟩, e3⟩, e4⟩
  · obtain ⟨y1, y2, ⟨n9, y3, y4⟩, y5, y6⟩ := a10.2 (by omega)
    have hVL := a10.vld (by omega)
    have hnm := nm_rd y1 y3 (rd_gd y2)
    refine (c_M_parameter l D cy A X hst hXT G o Ar Iv F L (fe N) (ne N) b9 n9 (rdV (fe N) (ne N)) (NMf (fe N) (ne N)) iv jv wv hM y4 rdV_ls hVL y3 a4 a5 (by rw [a7, if_neg hN]; decide) hnm).mono (Nat.le_of_ble_eq_true rfl) (Nat.le_of_ble_eq_true rfl) (Nat.le_of_ble_eq_true rfl) (Nat.le_of_ble_eq_true rfl) (Nat.le_of_ble_eq_true rfl) (Nat.le_of_ble_eq_true rfl) (fun _ _ h => h) ?_
    rintro a s oo t ⟨⟨r, G3, e1, ⟨hr9, hM2, hF2⟩, e3⟩, e4⟩
    exact ⟨⟨r, G3, e1, ⟨by rw [PAr, if_neg hN]; exact hr9, ⟨Ar, _, _, _, b9, sl, hM2, hV, hS.iv (fun j h1 _ => pk_un (by omega))⟩, FRV.of hM2 hF2 hV⟩, e3⟩, e4⟩

set_option maxHeartbeats 4000000 in
theorem m2_variant (l : Launch) (D : va_G) (cy : Nat → ClassId) (A : Nat → Prop) (X : State → Prop) (hst : mk_St A X) (hXT : ∀ U : State, X U → TB U) (G : Nat → Option va_E) (V : Nat → Prop) (o tn : Nat) (ft : Nat → Int32) (N : Nat) (fe : Nat → Nat → Int32) (ne : Nat → Nat) (ui : Option Nat) (lf : Nat → Int32) (lt ln : Nat) (fo : Nat → Int32) (hR : RSV cy V G o tn ft N fe ne ui lf lt ln fo) (hN20 : N < 2 ^ 20) (iv : Int32) : Met l yX14_variant [.code yX14_variant cX14_variant 5 (some .int)] ({ frames := 12, cells := 0, slots := 0, locals := 360 }) (mk_Pre D vwCl (tyL cy) A X G [.ref o, .int iv]) (va_Qi (fun (r : Int32) (G2 : Nat → Option va_E) => r = VAr N (fe N) (ne N) iv ∧ RSV cy V G2 o tn ft N fe ne (VAu N (fe N) (ne N) ui iv) lf lt ln fo ∧ FRV V G G2) (mk_B D vwCl A) A) 0 0 A := by
  obtain ⟨Ar, Iv, F, L, b9, sl, hM, hV, hS⟩ := hR
  obtain ⟨a1, a2, a3, a4, a5, a6, a7, a8, a9, a10, a11, a12, a13, a14, a15, a16⟩ := id hS
  by_cases hN : N = 0
  · refine (c_X14_variant_0 l D cy A X hst hXT G o Ar Iv F L iv hM (by rw [a7, if_pos hN])).mono (Nat.le_of_ble_eq_true rfl) (Nat.le_of_ble_eq_true rfl) (Nat.le_of_ble_eq_true rfl) (Nat.le_of_ble_eq_true rfl) (Nat.le_of_ble_eq_true rfl) (Nat.le_of_ble_eq_true rfl) (fun _ _ h => h) ?_
    rintro a s oo t ⟨⟨r, G3, e1, ⟨hr9, hM2, hF2⟩, e3⟩, e4⟩
    exact ⟨⟨r, G3, e1, ⟨by rw [VAr, if_pos hN]; exact hr9, by rw [VAu, if_pos hN]; exact ⟨Ar, _, _, _, b9, sl, hM2, hV, hS.iv (fun j h1 _ => pk_un (by omega))⟩, FRV.of hM2 hF2 hV⟩, e3⟩, e4⟩
  · obtain ⟨y1, y2, ⟨n9, y3, y4⟩, y5, y6⟩ := a10.2 (by omega)
    have hVL := a10.vld (by omega)
    have hnm := nm_rd y1 y3 (rd_gd y2)
    refine (c_M_variant l D cy A X hst hXT G o Ar Iv F L (fe N) (ne N) b9 n9 (rdV (fe N) (ne N)) (NMf (fe N) (ne N)) iv hM y4 rdV_ls hVL y3 a4 a5 (by rw [a7, if_neg hN]; decide) hnm).mono (Nat.le_of_ble_eq_true rfl) (Nat.le_of_ble_eq_true rfl) (Nat.le_of_ble_eq_true rfl) (Nat.le_of_ble_eq_true rfl) (Nat.le_of_ble_eq_true rfl) (Nat.le_of_ble_eq_true rfl) (fun _ _ h => h) ?_
    rintro a s oo t ⟨⟨r, G3, e1, ⟨hr9, I2, hM2, hF2, hI, -, h69⟩, e3⟩, e4⟩
    exact ⟨⟨r, G3, e1, ⟨by rw [VAr, if_neg hN]; exact hr9, by rw [VAu, if_neg hN]; exact ⟨Ar, _, _, _, b9, sl, hM2, hV, hS.gen (fun j hj => hI j (by omega) (by omega)) a14 ((hI 68 (by decide) (by decide)).trans a15) (fun _ => ⟨h69, fun k hk => lyA_lt hk⟩)⟩, FRV.of hM2 hF2 hV⟩, e3⟩, e4⟩

set_option maxHeartbeats 4000000 in
theorem m2_decode (l : Launch) (D : va_G) (cy : Nat → ClassId) (A : Nat → Prop) (X : State → Prop) (hst : mk_St A X) (hXT : ∀ U : State, X U → TB U) (G : Nat → Option va_E) (V : Nat → Prop) (o tn : Nat) (ft : Nat → Int32) (N : Nat) (fe : Nat → Nat → Int32) (ne : Nat → Nat) (ui : Option Nat) (lf : Nat → Int32) (lt ln : Nat) (fo : Nat → Int32) (hR : RSV cy V G o tn ft N fe ne ui lf lt ln fo) (hN20 : N < 2 ^ 20) (iv jv wv : Int32) (P0 : Nat → PdT) : Met l yX14_decode [.code yX14_decode cX14_decode 14 (some .long)] ({ frames := 12, cells := 0, slots := 0, locals := 360 }) (mk_Pre D vwCl (tyL cy) A X G [.ref o, .int iv, .int jv, .int wv]) (va_Ql (fun (r : Int64) (G2 : Nat → Option va_E) => r = DCn N (fe N) (ne N) ln fo P0 iv jv wv ∧ RSV cy V G2 o tn ft N fe ne ui lf lt ln fo ∧ FRV V G G2) (mk_B D vwCl A) A) 0 0 A := by
  obtain ⟨Ar, Iv, F, L, b9, sl, hM, hV, hS⟩ := hR
  obtain ⟨a1, a2, a3, a4, a5, a6, a7, a8, a9, a10, a11, a12, a13, a14, a15, a16⟩ := id hS
  by_cases hN : N = 0
  · refine (c_X14_decode_0 l D cy A X hst hXT G o Ar Iv F L iv jv wv hM (by rw [a7, if_pos hN])).mono (Nat.le_of_ble_eq_true rfl) (Nat.le_of_ble_eq_true rfl) (Nat.le_of_ble_eq_true rfl) (Nat.le_of_ble_eq_true rfl) (Nat.le_of_ble_eq_true rfl) (Nat.le_of_ble_eq_true rfl) (fun _ _ h => h) ?_
    rintro a s oo t ⟨⟨r, G3, e1, ⟨hr9, hM2, hF2⟩, e3⟩, e4⟩
    exact ⟨⟨r, G3, e1, ⟨by rw [DCn, if_pos hN]; exact hr9, ⟨Ar, _, _, _, b9, sl, hM2, hV, hS.iv (fun j h1 _ => pk_un (by omega))⟩, FRV.of hM2 hF2 hV⟩, e3⟩, e4⟩
  · obtain ⟨y1, y2, ⟨n9, y3, y4⟩, y5, y6⟩ := a10.2 (by omega)
    have hVL := a10.vld (by omega)
    have hnm := nm_rd y1 y3 (rd_gd y2)
    refine (c_M_decode l D cy A X hst hXT G o Ar Iv F L (fe N) (ne N) b9 n9 (rdV (fe N) (ne N)) (NMf (fe N) (ne N)) ln 999999 fo P0 iv jv wv hM y4 rdV_ls hVL y3 a4 a5 (by rw [a7, if_neg hN]; decide) hnm rdV_w rdV_cb a12 a11 (Nat.le_refl _) (fun i hi => ⟨a13 i hi, by rw [a13 i hi]; exact oc_b⟩)).mono (Nat.le_of_ble_eq_true rfl) (Nat.le_of_ble_eq_true rfl) (Nat.le_of_ble_eq_true rfl) (Nat.le_of_ble_eq_true rfl) (Nat.le_of_ble_eq_true rfl) (Nat.le_of_ble_eq_true rfl) (fun _ _ h => h) ?_
    rintro a s oo t ⟨⟨r, G3, e1, ⟨hr9, F2, L2, hM2, hF2, hF, -⟩, e3⟩, e4⟩
    exact ⟨⟨r, G3, e1, ⟨by rw [DCn, if_neg hN]; exact hr9, ⟨Ar, _, _, _, b9, sl, hM2, hV, (hS.iv (fun j h1 _ => pk_un (by omega))).f67 (fun j hj => hF j (by omega))⟩, FRV.of hM2 hF2 hV⟩, e3⟩, e4⟩

set_option maxHeartbeats 4000000 in
theorem m2_encode (l : Launch) (D : va_G) (cy : Nat → ClassId) (A : Nat → Prop) (X : State → Prop) (hst : mk_St A X) (hXT : ∀ U : State, X U → TB U) (G : Nat → Option va_E) (V : Nat → Prop) (o tn : Nat) (ft : Nat → Int32) (N : Nat) (fe : Nat → Nat → Int32) (ne : Nat → Nat) (ui : Option Nat) (lf : Nat → Int32) (lt ln : Nat) (fo : Nat → Int32) (hR : RSV cy V G o tn ft N fe ne ui lf lt ln fo) (hN20 : N < 2 ^ 20) (iv jv : Int32) (xv : Int64) : Met l yX14_encode [.code yX14_encode cX14_encode 15 (some .int)] ({ frames := 12, cells := 0, slots := 0, locals := 360 }) (mk_Pre D vwCl (tyL cy) A X G [.ref o, .int iv, .int jv, .long xv]) (va_Qi (fun (r : Int32) (G2 : Nat → Option va_E) => r = ENr N (fe N) (ne N) iv jv xv ∧ RSV cy V G2 o tn ft N fe ne ui lf lt ln fo ∧ FRV V G G2) (mk_B D vwCl A) A) 0 0 A := by
  obtain ⟨Ar, Iv, F, L, b9, sl, hM, hV, hS⟩ := hR
  obtain ⟨a1, a2, a3, a4, a5, a6, a7, a8, a9, a10, a11, a12, a13, a14, a15, a16⟩ := id hS
  by_cases hN : N = 0
  · refine (c_X14_encode_0 l D cy A X hst hXT G o Ar Iv F L iv jv xv hM (by rw [a7, if_pos hN])).mono (Nat.le_of_ble_eq_true rfl) (Nat.le_of_ble_eq_true rfl) (Nat.le_of_ble_eq_true rfl) (Nat.le_of_ble_eq_true rfl) (Nat.le_of_ble_eq_true rfl) (Nat.le_of_ble_eq_true rfl) (fun _ _ h => h) ?_
    rintro a s oo t ⟨⟨r, G3, e1, ⟨hr9, hM2, hF2⟩, e3⟩, e4⟩
    exact ⟨⟨r, G3, e1, ⟨by rw [ENr, if_pos hN]; exact hr9, ⟨Ar, _, _, _, b9, sl, hM2, hV, hS.iv (fun j h1 _ => pk_un (by omega))⟩, FRV.of hM2 hF2 hV⟩, e3⟩, e4⟩
  · obtain ⟨y1, y2, ⟨n9, y3, y4⟩, y5, y6⟩ := a10.2 (by omega)
    have hVL := a10.vld (by omega)
    have hnm := nm_rd y1 y3 (rd_gd y2)
    refine (c_M_encode l D cy A X hst hXT G o Ar Iv F L (fe N) (ne N) b9 n9 (rdV (fe N) (ne N)) (NMf (fe N) (ne N)) sl (fun s i => (0, 0, 0, L 70 (8 * s + i))) (fun _ => 0) iv jv xv hM y4 rdV_ls hVL y3 a4 a5 (by rw [a7, if_neg hN]; decide) hnm rdV_w rdV_cb a15 a14 (fun _ _ _ _ => rfl)).mono (Nat.le_of_ble_eq_true rfl) (Nat.le_of_ble_eq_true rfl) (Nat.le_of_ble_eq_true rfl) (Nat.le_of_ble_eq_true rfl) (Nat.le_of_ble_eq_true rfl) (Nat.le_of_ble_eq_true rfl) (fun _ _ h => h) ?_
    rintro a s oo t ⟨⟨r, G3, e1, ⟨I2, F2, L2, hM2, hF2, hI, -, ⟨k9, hk9, h68⟩, hF, -, hr9⟩, e3⟩, e4⟩
    exact ⟨⟨r, G3, e1, ⟨by rw [ENr, if_neg hN]; exact hr9.1, ⟨Ar, _, _, _, b9, k9, hM2, hV, (hS.gen (fun j hj => hI j (by omega) (by omega)) hk9 h68 (fun _ => ⟨(hI 69 (by decide) (by decide)).trans y5, y6⟩)).f67 hF⟩, FRV.of hM2 hF2 hV⟩, e3⟩, e4⟩

set_option maxHeartbeats 4000000 in
theorem m2_job (l : Launch) (D : va_G) (cy : Nat → ClassId) (A : Nat → Prop) (X : State → Prop) (hst : mk_St A X) (hXT : ∀ U : State, X U → TB U) (G : Nat → Option va_E) (V : Nat → Prop) (o tn : Nat) (ft : Nat → Int32) (N : Nat) (fe : Nat → Nat → Int32) (ne : Nat → Nat) (ui : Option Nat) (lf : Nat → Int32) (lt ln : Nat) (fo : Nat → Int32) (hR : RSV cy V G o tn ft N fe ne ui lf lt ln fo) (hN20 : N < 2 ^ 20) (iv : Int32) (xs : Int64) (P0 : Nat → PdT) (pf0 : Nat → Int64) (sf0 : Nat → Int32) : Met l yX14_job [.code yX14_job cX14_job 17 (some .int)] ({ frames := 12, cells := 0, slots := 0, locals := 360 }) (mk_Pre D vwCl (tyL cy) A X G [.ref o, .int iv, .long xs]) (va_Qi (fun (r : Int32) (G2 : Nat → Option va_E) => r = JBr N (fe N) (ne N) ln fo P0 pf0 sf0 iv xs ∧ RSV cy V G2 o tn ft N fe ne ui lf lt ln fo ∧ FRV V G G2) (mk_B D vwCl A) A) 0 0 A := by
  obtain ⟨Ar, Iv, F, L, b9, sl, hM, hV, hS⟩ := hR
  obtain ⟨a1, a2, a3, a4, a5, a6, a7, a8, a9, a10, a11, a12, a13, a14, a15, a16⟩ := id hS
  by_cases hN : N = 0
  · refine (c_X14_job_0 l D cy A X hst hXT G o Ar Iv F L iv xs hM (by rw [a7, if_pos hN])).mono (Nat.le_of_ble_eq_true rfl) (Nat.le_of_ble_eq_true rfl) (Nat.le_of_ble_eq_true rfl) (Nat.le_of_ble_eq_true rfl) (Nat.le_of_ble_eq_true rfl) (Nat.le_of_ble_eq_true rfl) (fun _ _ h => h) ?_
    rintro a s oo t ⟨⟨r, G3, e1, ⟨hr9, hM2, hF2⟩, e3⟩, e4⟩
    exact ⟨⟨r, G3, e1, ⟨by rw [JBr, if_pos hN]; exact hr9, ⟨Ar, _, _, _, b9, sl, hM2, hV, hS.iv (fun j h1 _ => pk_un (by omega))⟩, FRV.of hM2 hF2 hV⟩, e3⟩, e4⟩
  · obtain ⟨y1, y2, ⟨n9, y3, y4⟩, y5, y6⟩ := a10.2 (by omega)
    have hVL := a10.vld (by omega)
    have hnm := nm_rd y1 y3 (rd_gd y2)
    refine (c_M_job l D cy A X hst hXT G o Ar Iv F L (fe N) (ne N) b9 n9 (rdV (fe N) (ne N)) (NMf (fe N) (ne N)) ln sl fo P0 pf0 sf0 iv xs hM y4 rdV_ls hVL y3 a4 a5 (by rw [a7, if_neg hN]; decide) hnm rdV_w rdV_cb (rd_jt y1 y2) a12 a11 a15 a14 (fun i hi => ⟨a13 i hi, by rw [a13 i hi]; exact oc_b⟩)).mono (Nat.le_of_ble_eq_true rfl) (Nat.le_of_ble_eq_true rfl) (Nat.le_of_ble_eq_true rfl) (Nat.le_of_ble_eq_true rfl) (Nat.le_of_ble_eq_true rfl) (Nat.le_of_ble_eq_true rfl) (fun _ _ h => h) ?_
    rintro a s oo t ⟨⟨r, G3, e1, ⟨I2, F2, L2, hM2, hF2, hI, -, ⟨k9, hk9, h68⟩, hF, -, hr9⟩, e3⟩, e4⟩
    exact ⟨⟨r, G3, e1, ⟨by rw [JBr, if_neg hN]; exact hr9.1, ⟨Ar, _, _, _, b9, k9, hM2, hV, (hS.gen (fun j hj => hI j (by omega) (by omega)) hk9 h68 (fun _ => ⟨(hI 69 (by decide) (by decide)).trans y5, y6⟩)).f67 hF⟩, FRV.of hM2 hF2 hV⟩, e3⟩, e4⟩

set_option maxHeartbeats 4000000 in
theorem m2_code (l : Launch) (D : va_G) (cy : Nat → ClassId) (A : Nat → Prop) (X : State → Prop) (hst : mk_St A X) (hXT : ∀ U : State, X U → TB U) (G : Nat → Option va_E) (V : Nat → Prop) (o tn : Nat) (ft : Nat → Int32) (N : Nat) (fe : Nat → Nat → Int32) (ne : Nat → Nat) (ui : Option Nat) (lf : Nat → Int32) (lt ln : Nat) (fo : Nat → Int32) (hR : RSV cy V G o tn ft N fe ne ui lf lt ln fo) (hN20 : N < 2 ^ 20) (iv : Int32) : Met l yX14_code [.code yX14_code cX14_code 3 (some .int)] ({ frames := 12, cells := 0, slots := 0, locals := 360 }) (mk_Pre D vwCl (tyL cy) A X G [.ref o, .int iv]) (va_Qi (fun (r : Int32) (G2 : Nat → Option va_E) => r = COr N (fe N) (ne N) iv ∧ RSV cy V G2 o tn ft N fe ne ui lf lt ln fo ∧ FRV V G G2) (mk_B D vwCl A) A) 0 0 A := by
  obtain ⟨Ar, Iv, F, L, b9, sl, hM, hV, hS⟩ := hR
  obtain ⟨a1, a2, a3, a4, a5, a6, a7, a8, a9, a10, a11, a12, a13, a14, a15, a16⟩ := id hS
  by_cases hN : N = 0
  · refine (c_M_code l D cy A X hst hXT G o Ar Iv F L b9 0 iv hM a4 a5 (a10.1 hN) (by omega)).mono (Nat.le_of_ble_eq_true rfl) (Nat.le_of_ble_eq_true rfl) (Nat.le_of_ble_eq_true rfl) (Nat.le_of_ble_eq_true rfl) (Nat.le_of_ble_eq_true rfl) (Nat.le_of_ble_eq_true rfl) (fun _ _ h => h) ?_
    rintro a s oo t ⟨⟨r, G3, e1, ⟨hr9, hM2, hF2⟩, e3⟩, e4⟩
    exact ⟨⟨r, G3, e1, ⟨by rw [COr, if_pos hN, hr9, coM, if_pos (by rw [a7, if_pos hN])], ⟨Ar, _, _, _, b9, sl, hM2, hV, hS.iv (fun j h1 _ => pk_un (by omega))⟩, FRV.of hM2 hF2 hV⟩, e3⟩, e4⟩
  · obtain ⟨y1, y2, ⟨n9, y3, y4⟩, y5, y6⟩ := a10.2 (by omega)
    have hVL := a10.vld (by omega)
    have hnm := nm_rd y1 y3 (rd_gd y2)
    refine (c_M_code l D cy A X hst hXT G o Ar Iv F L b9 _ iv hM a4 a5 y4.2.2.2.1.1 y4.2.2.2.1.2.1).mono (Nat.le_of_ble_eq_true rfl) (Nat.le_of_ble_eq_true rfl) (Nat.le_of_ble_eq_true rfl) (Nat.le_of_ble_eq_true rfl) (Nat.le_of_ble_eq_true rfl) (Nat.le_of_ble_eq_true rfl) (fun _ _ h => h) ?_
    have hco : coM Iv F b9 (rdV (fe N) (ne N)).nE iv = COr N (fe N) (ne N) iv := by
      rw [COr, if_neg hN, coM, if_neg (by rw [a7, if_neg hN]; decide)]
      have e : fndF (fun j => decide (F 29 (12 * b9 + j) = iv)) (rdV (fe N) (ne N)).nE 0 = fnE (rdV (fe N) (ne N)) iv := fndF_cg (fun i _ h2 => by rw [(y4.2.2.2.1.2.2 i (by omega)).1]; exact decide_eq_decide.mpr i32_64.symm)
      rw [e]
      cases hq : fnE (rdV (fe N) (ne N)) iv with
      | none => rfl
      | some j =>
        have hj := (fndF_lt _ 0 hq).2
        exact hnm _ _ (y4.2.2.2.1.2.2 j (by omega)).2
    rintro a s oo t ⟨⟨r, G3, e1, ⟨hr9, hM2, hF2⟩, e3⟩, e4⟩
    exact ⟨⟨r, G3, e1, ⟨hr9.trans hco, ⟨Ar, _, _, _, b9, sl, hM2, hV, hS.iv (fun j h1 _ => pk_un (by omega))⟩, FRV.of hM2 hF2 hV⟩, e3⟩, e4⟩

set_option maxHeartbeats 4000000 in
theorem m2_ring (l : Launch) (D : va_G) (cy : Nat → ClassId) (A : Nat → Prop) (X : State → Prop) (hst : mk_St A X) (hXT : ∀ U : State, X U → TB U) (G : Nat → Option va_E) (V : Nat → Prop) (o tn : Nat) (ft : Nat → Int32) (N : Nat) (fe : Nat → Nat → Int32) (ne : Nat → Nat) (ui : Option Nat) (lf : Nat → Int32) (lt ln : Nat) (fo : Nat → Int32) (hR : RSV cy V G o tn ft N fe ne ui lf lt ln fo) (hN20 : N < 2 ^ 20) (iv : Int32) : Met l yX14_ring [.code yX14_ring cX14_ring 2 (some .int)] ({ frames := 12, cells := 0, slots := 0, locals := 360 }) (mk_Pre D vwCl (tyL cy) A X G [.ref o, .int iv]) (va_Qi (fun (r : Int32) (G2 : Nat → Option va_E) => r = RGr lf lt iv ∧ RSV cy V G2 o tn ft N fe ne ui lf lt ln fo ∧ FRV V G G2) (mk_B D vwCl A) A) 0 0 A := by
  obtain ⟨Ar, Iv, F, L, b9, sl, hM, hV, hS⟩ := hR
  obtain ⟨a1, a2, a3, a4, a5, a6, a7, a8, a9, a10, a11, a12, a13, a14, a15, a16⟩ := id hS
  refine (c_M_ring l D cy A X hst hXT G o Ar Iv F L iv hM a16.1).mono (Nat.le_of_ble_eq_true rfl) (Nat.le_of_ble_eq_true rfl) (Nat.le_of_ble_eq_true rfl) (Nat.le_of_ble_eq_true rfl) (Nat.le_of_ble_eq_true rfl) (Nat.le_of_ble_eq_true rfl) (fun _ _ h => h) ?_
  rintro a s oo t ⟨⟨r, G3, e1, ⟨hr9, hM2, hF2⟩, e3⟩, e4⟩
  exact ⟨⟨r, G3, e1, ⟨hr9.trans (ring_rg a16), ⟨Ar, _, _, _, b9, sl, hM2, hV, hS.iv (fun j h1 _ => pk_un (by omega))⟩, FRV.of hM2 hF2 hV⟩, e3⟩, e4⟩

set_option maxHeartbeats 4000000 in
theorem m2_out (l : Launch) (D : va_G) (cy : Nat → ClassId) (A : Nat → Prop) (X : State → Prop) (hst : mk_St A X) (hXT : ∀ U : State, X U → TB U) (G : Nat → Option va_E) (V : Nat → Prop) (o tn : Nat) (ft : Nat → Int32) (N : Nat) (fe : Nat → Nat → Int32) (ne : Nat → Nat) (ui : Option Nat) (lf : Nat → Int32) (lt ln : Nat) (fo : Nat → Int32) (hR : RSV cy V G o tn ft N fe ne ui lf lt ln fo) (hN20 : N < 2 ^ 20) (iv : Int32) : Met l yX14_out [.code yX14_out cX14_out 2 (some .byte)] ({ frames := 12, cells := 0, slots := 0, locals := 360 }) (mk_Pre D vwCl (tyL cy) A X G [.ref o, .int iv]) (va_Qi (fun (r : Int32) (G2 : Nat → Option va_E) => RSV cy V G2 o tn ft N fe ne ui lf lt ln fo ∧ FRV V G G2) (mk_B D vwCl A) A) 0 0 A := by
  obtain ⟨Ar, Iv, F, L, b9, sl, hM, hV, hS⟩ := hR
  obtain ⟨a1, a2, a3, a4, a5, a6, a7, a8, a9, a10, a11, a12, a13, a14, a15, a16⟩ := id hS
  refine (c_M_out l D cy A X hst hXT G o Ar Iv F L iv hM (by rw [a15]; exact nI_le a14 (by decide))).mono (Nat.le_of_ble_eq_true rfl) (Nat.le_of_ble_eq_true rfl) (Nat.le_of_ble_eq_true rfl) (Nat.le_of_ble_eq_true rfl) (Nat.le_of_ble_eq_true rfl) (Nat.le_of_ble_eq_true rfl) (fun _ _ h => h) ?_
  rintro a s oo t ⟨⟨r, G3, e1, ⟨-, hM2, hF2⟩, e3⟩, e4⟩
  exact ⟨⟨r, G3, e1, ⟨⟨Ar, _, _, _, b9, sl, hM2, hV, hS.iv (fun j h1 _ => pk_un (by omega))⟩, FRV.of hM2 hF2 hV⟩, e3⟩, e4⟩

set_option maxHeartbeats 4000000 in
theorem m2_compare (l : Launch) (D : va_G) (cy : Nat → ClassId) (A : Nat → Prop) (X : State → Prop) (hst : mk_St A X) (hXT : ∀ U : State, X U → TB U) (G : Nat → Option va_E) (V : Nat → Prop) (o tn : Nat) (ft : Nat → Int32) (N : Nat) (fe : Nat → Nat → Int32) (ne : Nat → Nat) (ui : Option Nat) (lf : Nat → Int32) (lt ln : Nat) (fo : Nat → Int32) (hR : RSV cy V G o tn ft N fe ne ui lf lt ln fo) (hN20 : N < 2 ^ 20) (iv : Int32) : Met l yX14_compare [.code yX14_compare cX14_compare 7 (some .int)] ({ frames := 12, cells := 0, slots := 0, locals := 360 }) (mk_Pre D vwCl (tyL cy) A X G [.ref o, .int iv]) (va_Qi (fun (r : Int32) (G2 : Nat → Option va_E) => RSV cy V G2 o tn ft N fe ne ui lf lt ln fo ∧ FRV V G G2) (mk_B D vwCl A) A) 0 0 A := by
  obtain ⟨Ar, Iv, F, L, b9, sl, hM, hV, hS⟩ := hR
  obtain ⟨a1, a2, a3, a4, a5, a6, a7, a8, a9, a10, a11, a12, a13, a14, a15, a16⟩ := id hS
  by_cases hN : N = 0
  · refine (c_X14_compare_0 l D cy A X hst hXT G o Ar Iv F L iv hM (by rw [a7, if_pos hN]) (by rw [a8, hN]; rfl)).mono (Nat.le_of_ble_eq_true rfl) (Nat.le_of_ble_eq_true rfl) (Nat.le_of_ble_eq_true rfl) (Nat.le_of_ble_eq_true rfl) (Nat.le_of_ble_eq_true rfl) (Nat.le_of_ble_eq_true rfl) (fun _ _ h => h) ?_
    rintro a s oo t ⟨⟨r, G3, e1, ⟨hr9, hM2, hF2⟩, e3⟩, e4⟩
    exact ⟨⟨r, G3, e1, ⟨⟨Ar, _, _, _, b9, sl, hM2, hV, hS.iv (fun j h1 _ => pk_un (by omega))⟩, FRV.of hM2 hF2 hV⟩, e3⟩, e4⟩
  · obtain ⟨y1, y2, ⟨n9, y3, y4⟩, y5, y6⟩ := a10.2 (by omega)
    have hVL := a10.vld (by omega)
    have hnm := nm_rd y1 y3 (rd_gd y2)
    have nW : ∀ j i, 38 ≤ j → ¬ wB (1 - b9) j i := fun j i hj z => by have := wB_lx z; omega
    have nX : ∀ j, j = 40 ∨ j = 45 ∨ j = 46 ∨ j = 64 ∨ j = 65 → ¬ lxA j := fun j hj z => by unfold lxA at z; omega
    refine (c_M_compare l D cy A X hst hXT G o Ar Iv F L b9 (1 - b9) n9 N (tkK (fe N) (ne N)) (tkV (fe N) (ne N)) (rdV (fe N) (ne N)) (fun i => fe (i + 1)) (fun i => ne (i + 1)) iv hM a4 (by omega) (by omega) a5 a6 a8 hN20 a9 (fun _ => ⟨y4, hVL, rdV_ls, nt1000g n9 y1, y3⟩)).mono (Nat.le_of_ble_eq_true rfl) (Nat.le_of_ble_eq_true rfl) (Nat.le_of_ble_eq_true rfl) (Nat.le_of_ble_eq_true rfl) (Nat.le_of_ble_eq_true rfl) (Nat.le_of_ble_eq_true rfl) (fun _ _ h => h) ?_
    rintro a s oo t ⟨⟨r, G3, e1, ⟨A2, I2, F2, hA2, hM2, hF2, hI, -, hFr⟩, e3⟩, e4⟩
    have hV2 : V o ∧ ∀ k, mdR k = true → V (A2 k) := ⟨hV.1, fun k hk => by
      rcases hA2 with z | z
      · rw [z]; exact hV.2 k hk
      · rw [z, va_up_ne _ _ (fun y => by rw [y] at hk; exact absurd hk (by decide))]; exact hV.2 k hk⟩
    have hF1 : ∀ j, j = 40 ∨ j = 45 ∨ j = 46 ∨ j = 64 ∨ j = 65 → F2 j = F j := fun j hj => funext (fun i => hFr j i (nX j hj) (nW j i (by omega)))
    exact ⟨⟨r, G3, e1, ⟨⟨A2, _, _, _, b9, sl, hM2, hV2, (hS.iv (fun j h1 h2 => hI j (by omega) h2)).fv (hF1 40 (by decide)) (hF1 45 (by decide)) (hF1 46 (by decide)) (hF1 65 (by decide)) (hF1 64 (by decide)) (fun k i z => hFr k i (wB_ne a4 (show 1 - b9 < 2 by omega) (by omega) z).2 (wB_ne a4 (show 1 - b9 < 2 by omega) (by omega) z).1)⟩, FRV.of hM2 hF2 hV2⟩, e3⟩, e4⟩

set_option maxHeartbeats 4000000 in
theorem m2_read (l : Launch) (D : va_G) (cy : Nat → ClassId) (A : Nat → Prop) (X : State → Prop) (hst : mk_St A X) (hXT : ∀ U : State, X U → TB U) (G : Nat → Option va_E) (V : Nat → Prop) (o tn : Nat) (ft : Nat → Int32) (N : Nat) (fe : Nat → Nat → Int32) (ne : Nat → Nat) (ui : Option Nat) (lf : Nat → Int32) (lt ln : Nat) (fo : Nat → Int32) (hR : RSV cy V G o tn ft N fe ne ui lf lt ln fo) (hN20 : N < 2 ^ 20)  : Met l yX14_read [.code yX14_read cX14_read 4 (some .int)] ({ frames := 12, cells := 0, slots := 0, locals := 360 }) (mk_Pre D vwCl (tyL cy) A X G [.ref o]) (va_Qi (fun (r : Int32) (G2 : Nat → Option va_E) => r = rdA ft tn ∧ (rdP ft tn < 0 → RSV cy V G2 o 0 ft (N + 1) (kup fe (N + 1) ft) (kup ne (N + 1) tn) (RDu ft tn) ft tn ln fo) ∧ (¬ rdP ft tn < 0 → RSV cy V G2 o 0 ft N fe ne ui ft tn ln fo) ∧ FRV V G G2) (mk_B D vwCl A) A) 0 0 A := by
  obtain ⟨Ar, Iv, F, L, b9, sl, hM, hV, hS⟩ := hR
  obtain ⟨a1, a2, a3, a4, a5, a6, a7, a8, a9, a10, a11, a12, a13, a14, a15, a16⟩ := id hS
  have nW : ∀ j i, 38 ≤ j → ¬ wB (1 - b9) j i := fun j i hj z => by have := wB_lx z; omega
  have nX : ∀ j, j = 40 ∨ j = 45 ∨ j = 46 ∨ j = 64 ∨ j = 65 → ¬ lxA j := fun j hj z => by unfold lxA at z; omega
  refine (c_M_read l D cy A X hst hXT G o Ar Iv F L ft tn (1 - b9) N hM a2 (by omega) a1 a6 a8 hN20 a3).mono (Nat.le_of_ble_eq_true rfl) (Nat.le_of_ble_eq_true rfl) (Nat.le_of_ble_eq_true rfl) (Nat.le_of_ble_eq_true rfl) (Nat.le_of_ble_eq_true rfl) (Nat.le_of_ble_eq_true rfl) (fun _ _ h => h) ?_
  rintro a s oo t ⟨⟨r, G3, e1, ⟨hr, A2, I2, F2, L2, hA2, hM2, hF2, hf9, hs9⟩, e3⟩, e4⟩
  have hV2 : V o ∧ ∀ k, mdR k = true → V (A2 k) := ⟨hV.1, fun k hk => by rw [hA2, va_up_ne _ _ (fun y => by rw [y] at hk; exact absurd hk (by decide))]; exact hV.2 k hk⟩
  refine ⟨⟨r, G3, e1, ⟨hr, fun hp => ?_, fun hp => ?_, FRV.of hM2 hF2 hV2⟩, e3⟩, e4⟩
  · obtain ⟨v9, hv9, ⟨b1, b2, b3, b4, b5, b6, b7, b8, ⟨n9, b9a, b9b⟩, b10, b11, b12⟩, h69, -⟩ := hs9 hp
    have hv : v9 = rdV ft tn := hv9
    rw [hv] at b9b h69
    refine ⟨A2, I2, F2, L2, 1 - b9, sl, hM2, hV2, b3, by omega, fun i hi => absurd hi (Nat.not_lt_zero i), by omega, b5, b4, by rw [b6, if_neg (by omega)], b7, fun i i1 i2 => ?_, ⟨fun z => by omega, fun _ => ?_⟩, a11, (b1 66 (by decide) (by decide) (by decide) (by decide)).trans a12, fun i hi => ?_, a14, (b1 68 (by decide) (by decide) (by decide) (by decide)).trans a15, ⟨by rw [b8]; decide, fun _ => b8, fun b hb => by rw [rd_rg a2 hp (fun s hs => (b9b.2.2.1.2.2 s hs).2.2.2.2.1) (fun j hj => (b9b.2.2.2.2.2.2.2 j hj).2.2.1)] at hb; cases hb⟩⟩
    · show F2 45 i = nI (kup ne (N + 1) tn (i + 1)) ∧ kup ne (N + 1) tn (i + 1) ≤ 2000 ∧ (∀ k, k < kup ne (N + 1) tn (i + 1) → chr (F2 46 (2000 * i + k)) (kup fe (N + 1) ft (i + 1) k)) ∧ rdP (kup fe (N + 1) ft (i + 1)) (kup ne (N + 1) tn (i + 1)) < 0
      by_cases z : i = N
      · rw [z, kup_eq, kup_eq]
        refine ⟨by rw [b11, if_pos ⟨by omega, rfl⟩], a2, fun k hk => ?_, hp⟩
        rw [b12, if_pos ⟨by omega, by omega, by omega⟩, show 2000 * N + k - 2000 * N = k by omega]
        exact a3 k hk
      · rw [kup_ne (show i + 1 ≠ N + 1 by omega), kup_ne (show i + 1 ≠ N + 1 by omega)]
        obtain ⟨k1, k2, k3, k4⟩ := a9 i (by omega) i2
        refine ⟨by rw [b11, if_neg (by omega)]; exact k1, k2, fun k hk => ?_, k4⟩
        have hk2 : k < 2000 := Nat.lt_of_lt_of_le hk k2
        rw [b12, if_neg (by omega)]
        exact k3 k hk
    · rw [kup_eq, kup_eq]
      refine ⟨a2, hp, ⟨n9, b9a, b9b⟩, ?_, fun k hk => ?_⟩
      · rw [h69]
        unfold RDu
        by_cases y : (rdV ft tn).nL = 0
        · rw [if_pos y, if_neg (by omega)]; rfl
        · rw [if_neg y, if_pos (by omega)]; rfl
      · unfold RDu at hk
        split at hk
        · cases hk
        · cases hk; omega
    · rw [b10 65 i (nX 65 (by decide)) (nW 65 i (by decide)) (by decide) (by decide) (by decide)]; exact a13 i hi
  · obtain ⟨⟨b1, b2, b3, b4⟩, -, b5, b6⟩ := hf9 hp
    have h63 : I2 63 ≤ nI 6 := by
      cases hg : (rdG ft tn).2 with
      | none => rw [b5 hg]; decide
      | some l9 =>
        obtain ⟨m9, m1, m2, m3, -⟩ := b6 l9 hg
        rw [m3]; exact nI_le m2 (by decide)
    have hF1 : ∀ j, j = 40 ∨ j = 45 ∨ j = 46 ∨ j = 65 → F2 j = F j := fun j hj => funext (fun i => b4 j i (nX j (by omega)) (nW j i (by omega)) (by omega))
    have hI : ∀ j, 41 ≤ j → ¬ (48 ≤ j ∧ j ≤ 58) → ¬ j = 63 → I2 j = Iv j := fun j h1 h2 h3 => b1 j (by omega) h2 h3
    have hB : ∀ k i, wB b9 k i → F2 k i = F k i := fun k i z => by have := wB_lx z; exact b4 k i (wB_ne a4 (show 1 - b9 < 2 by omega) (by omega) z).2 (wB_ne a4 (show 1 - b9 < 2 by omega) (by omega) z).1 (by omega)
    refine ⟨A2, I2, F2, L2, b9, sl, hM2, hV2, b3, by omega, fun i hi => absurd hi (Nat.not_lt_zero i), a4, (hI 42 (by decide) (by decide) (by decide)).trans a5, (hI 41 (by decide) (by decide) (by decide)).trans a6, (hI 43 (by decide) (by decide) (by decide)).trans a7, (hI 44 (by decide) (by decide) (by decide)).trans a8, fun i i1 i2 => ?_, ⟨fun z => ?_, fun z => ?_⟩, a11, (hI 66 (by decide) (by decide) (by decide)).trans a12, by rw [hF1 65 (by decide)]; exact a13, a14, (hI 68 (by decide) (by decide) (by decide)).trans a15, ⟨h63, b5, b6⟩⟩
    · rw [hF1 45 (by decide), hF1 46 (by decide)]; exact a9 i i1 i2
    · rw [hB 4 b9 (Or.inl ⟨by decide, by decide, rfl⟩)]; exact a10.1 z
    · obtain ⟨y1, y2, ⟨n9, y3, y4⟩, y5, y6⟩ := a10.2 z
      exact ⟨y1, y2, ⟨n9, y3, y4.fr hB⟩, (hI 69 (by decide) (by decide) (by decide)).trans y5, y6⟩
