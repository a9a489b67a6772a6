/-! ===== a sign: the class's text and the reference's ===== -/
theorem sgo_eq (cv : Int32) (n : Nat) (hn : n ≤ 24) (k : Int32) (hk : k.toBitVec.smod 32#32 = BitVec.ofNat 32 n) (hk2 : (k.toUInt32 &&& Int32.toUInt32 31).toBitVec % 32#32 = BitVec.ofNat 32 n) (hk3 : (k &&& 31).toBitVec.smod 32#32 = BitVec.ofNat 32 n) : sg_o cv k = sm_o cv k := by
  unfold sg_o sm_o
  apply Int32.toBitVec_inj.mp
  show ((cv.toBitVec >>> ((k.toUInt32 &&& Int32.toUInt32 31).toBitVec % 32#32)) &&& 255#32) = (cv.toBitVec.sshiftRight' ((k &&& 31).toBitVec.smod 32#32) &&& 255#32)
  rw [hk2, hk3]
  show ((cv.toBitVec >>> BitVec.ofNat 32 n) &&& 255#32) = (cv.toBitVec.sshiftRight (BitVec.ofNat 32 n).toNat &&& 255#32)
  apply BitVec.eq_of_getLsbD_eq
  intro i hi
  have e : (BitVec.ofNat 32 n).toNat = n := by rw [BitVec.toNat_ofNat]; omega
  rw [BitVec.getLsbD_and, BitVec.getLsbD_and, BitVec.ushiftRight_eq', BitVec.getLsbD_ushiftRight, BitVec.getLsbD_sshiftRight, e]
  by_cases h8 : i < 8
  · rw [if_pos (by omega)]
    simp [show ¬ 32 ≤ i by omega]
  · have h0 : (255#32).getLsbD i = false := by
      have : ∀ j : Fin 32, 8 ≤ j.val → (255#32).getLsbD j.val = false := by decide
      exact this ⟨i, hi⟩ (by simpa using h8)
    rw [h0, Bool.and_false, Bool.and_false]
theorem sgo_24 (cv : Int32) : sg_o cv 24 = sm_o cv 24 := sgo_eq cv 24 (by decide) 24 (by decide) (by decide) (by decide)
theorem sgo_16 (cv : Int32) : sg_o cv 16 = sm_o cv 16 := sgo_eq cv 16 (by decide) 16 (by decide) (by decide) (by decide)
theorem sgo_8 (cv : Int32) : sg_o cv 8 = sm_o cv 8 := sgo_eq cv 8 (by decide) 8 (by decide) (by decide) (by decide)
theorem sgo_0 (cv : Int32) : sg_o cv 0 = sm_o cv 0 := sgo_eq cv 0 (by decide) 0 (by decide) (by decide) (by decide)
theorem sg_n4 {cv : Int32} {q : Int32 × (Nat → Int32)} : sg_n cv 4 24 q = sg_1 (sg_o cv 0) (sg_1 (sg_o cv 8) (sg_1 (sg_o cv 16) (sg_1 (sg_o cv 24) q))) := rfl
theorem sm_n4 {cv : Int32} {q : Int32 × (Nat → Int32)} : sm_n cv 4 24 q = sm_1 (sm_o cv 0) (sm_1 (sm_o cv 8) (sm_1 (sm_o cv 16) (sm_1 (sm_o cv 24) q))) := rfl
def SGR (tn : Nat) (f g : Nat → Int32) : Prop := ∀ i, i < tn → chr (g i) (f i)
theorem chr_nar : ∀ k, k < 256 → chr (nI k) (vp_nar .byte (nI k).toInt8.toInt32) := by
  unfold chr
  decide +kernel
theorem sgm1 {x : Int32} {tn : Nat} {f g : Nat → Int32} (hx : ∃ k, k < 256 ∧ x = nI k) (ht : tn ≤ 2000) (h : SGR tn f g) : ∃ tn2 f2 g2, tn2 ≤ 2000 ∧ sg_1 x (nI tn, f) = (nI tn2, f2) ∧ sm_1 x (nI tn, g) = (nI tn2, g2) ∧ SGR tn2 f2 g2 := by
  unfold sg_1 sm_1
  by_cases h0 : x = 0
  · rw [if_pos h0, if_pos h0]; exact ⟨tn, f, g, ht, rfl, rfl, h⟩
  rw [if_neg h0, if_neg h0]
  by_cases h1 : 2000 ≤ nI tn
  · rw [if_pos h1, if_pos h1]; exact ⟨tn, f, g, ht, rfl, rfl, h⟩
  rw [if_neg h1, if_neg h1]
  have h2 : tn < 2000 := Nat.lt_of_not_le (fun z => h1 (nI_le (a := 2000) z (by omega)))
  refine ⟨tn + 1, _, _, by omega, by rw [nI_succ], by rw [nI_succ], fun i hi => ?_⟩
  show chr (upd g (nI tn).toNatClampNeg x i) (upd f (nI tn).toNatClampNeg (vp_nar .byte x.toInt8.toInt32) i)
  rw [nI_clamp (by omega)]
  by_cases z : i = tn
  · rw [z, pk_us, pk_us]
    obtain ⟨k, hk, e⟩ := hx
    rw [e]; exact chr_nar k hk
  · rw [pk_un z, pk_un z]; exact h i (by omega)
theorem and255n (x : Int32) : ∃ k, k < 256 ∧ x &&& 255 = nI k := by
  obtain ⟨h1, h2⟩ := and255 x
  exact ⟨(x &&& 255).toInt.toNat, by omega, Int32.toInt_inj.mp (by rw [nI_toInt (by omega)]; omega)⟩
theorem sgm {cv : Int32} {tn : Nat} {f g : Nat → Int32} (ht : tn ≤ 2000) (h : SGR tn f g) : ∃ tn2 f2 g2, tn2 ≤ 2000 ∧ sg_n cv 4 24 (nI tn, f) = (nI tn2, f2) ∧ sm_n cv 4 24 (nI tn, g) = (nI tn2, g2) ∧ SGR tn2 f2 g2 := by
  rw [sg_n4, sm_n4, sgo_24, sgo_16, sgo_8, sgo_0]
  obtain ⟨t1, f1, g1, a1, a2, a3, a4⟩ := sgm1 (and255n (cv >>> ((24 : Int32) &&& 31))) ht h
  obtain ⟨t2, f2, g2, b1, b2, b3, b4⟩ := sgm1 (and255n (cv >>> ((16 : Int32) &&& 31))) a1 a4
  obtain ⟨t3, f3, g3, c1, c2, c3, c4⟩ := sgm1 (and255n (cv >>> ((8 : Int32) &&& 31))) b1 b4
  obtain ⟨t4, f4, g4, d1, d2, d3, d4⟩ := sgm1 (and255n (cv >>> ((0 : Int32) &&& 31))) c1 c4
  refine ⟨t4, f4, g4, d1, ?_, ?_, d4⟩
  · rw [show sm_o cv 24 = cv >>> ((24 : Int32) &&& 31) &&& 255 from rfl, a2, show sm_o cv 16 = cv >>> ((16 : Int32) &&& 31) &&& 255 from rfl, b2, show sm_o cv 8 = cv >>> ((8 : Int32) &&& 31) &&& 255 from rfl, c2]
    exact d2
  · rw [show sm_o cv 24 = cv >>> ((24 : Int32) &&& 31) &&& 255 from rfl, a3, show sm_o cv 16 = cv >>> ((16 : Int32) &&& 31) &&& 255 from rfl, b3, show sm_o cv 8 = cv >>> ((8 : Int32) &&& 31) &&& 255 from rfl, c3]
    exact d3
/-! ===== the reference between two calls ===== -/
/-- the reference's cells stand still where others are written -/
theorem MD.fr {cy : Nat → ClassId} {G G2 : Nat → Option va_E} {o : Nat} {Ar : Nat → Nat} {Iv : Nat → Int32} {F : Nat → Nat → Int32} {L : Nat → Nat → Int64} (P : Nat → Prop) (h : MD cy G o Ar Iv F L) (hfr : ∀ (x : Nat) (e : va_E), G x = some e → P x → G2 x = some e) (ho : P o) (ha : ∀ k, mdR k = true → P (Ar k)) : MD cy G2 o Ar Iv F L := by
  obtain ⟨h1, h2, h3, h4, h5⟩ := h
  exact ⟨hfr _ _ h1 ho, fun k hk => hfr _ _ (h2 k hk) (ha k (mdR_I hk)), fun k hk => hfr _ _ (h3 k hk) (ha k (mdR_J hk)), hfr _ _ h4 (ha _ (by decide)), h5⟩
theorem mdR_or {k : Nat} (h : mdR k = true) : mdI k = true ∨ mdJ k = true ∨ k = 71 := by
  unfold mdR at h
  rw [Bool.or_eq_true, Bool.or_eq_true, beq_iff_eq] at h
  rcases h with (h | h) | h
  · exact Or.inl h
  · exact Or.inr (Or.inl h)
  · exact Or.inr (Or.inr h)
theorem MD.at {cy : Nat → ClassId} {G : Nat → Option va_E} {o : Nat} {Ar : Nat → Nat} {Iv : Nat → Int32} {F : Nat → Nat → Int32} {L : Nat → Nat → Int64} (h : MD cy G o Ar Iv F L) {k : Nat} (hk : mdR k = true) : ∃ e, G (Ar k) = Option.some e := by
  rcases mdR_or hk with z | z | z
  · exact ⟨_, h.2.1 k z⟩
  · exact ⟨_, h.2.2.1 k z⟩
  · rw [z]; exact ⟨_, h.2.2.2.1⟩
/-- nothing is lost, and what isn't the reference's stands -/
def FRV (V : Nat → Prop) (G G2 : Nat → Option va_E) : Prop := (∀ x e, ¬ V x → G x = some e → G2 x = some e) ∧ ∀ x e, G x = some e → ∃ e2, G2 x = some e2
theorem FRV.of {cy : Nat → ClassId} {V : Nat → Prop} {G G2 : Nat → Option va_E} {o : Nat} {Ar : Nat → Nat} {Iv : Nat → Int32} {F : Nat → Nat → Int32} {L : Nat → Nat → Int64} (h : MD cy G2 o Ar Iv F L) (hF : MF G G2 o Ar) (hV : V o ∧ ∀ k, mdR k = true → V (Ar k)) : FRV V G G2 := by
  refine ⟨fun x e n z => hF x e z (fun y => n (by rw [y]; exact hV.1)) (fun k hk y => n (by rw [y]; exact hV.2 k hk)), fun x e z => ?_⟩
  by_cases y : x = o
  · rw [y]; exact ⟨_, h.1⟩
  by_cases y2 : ∃ k, mdR k = true ∧ x = Ar k
  · obtain ⟨k, hk, e2⟩ := y2
    rw [e2]; exact h.at hk
  · exact ⟨e, hF x e z y (fun k hk e2 => y2 ⟨k, hk, e2⟩)⟩
/-- what is in hand -/
def HBK (Iv : Nat → Int32) (F : Nat → Nat → Int32) (b9 N : Nat) (f : Nat → Int32) (n : Nat) : Prop := (N = 0 → F 4 b9 = nI 0) ∧ (1 ≤ N → n ≤ 2000 ∧ rdP f n < 0 ∧ (∃ n9, n9 < 2 ^ 30 ∧ BK (tkK f n) (tkV f n) n9 F b9 (rdV f n)) ∧ ∃ ui, Iv 69 = nu1 ui ∧ ∀ k, ui = some k → k < (rdV f n).nL)
def RSa (Iv : Nat → Int32) (F : Nat → Nat → Int32) (tn : Nat) (ft : Nat → Int32) (N : Nat) (fe : Nat → Nat → Int32) (ne : Nat → Nat) (b9 ln sl : Nat) : Prop :=
  Iv 39 = nI tn ∧ tn ≤ 2000 ∧ SGR tn ft (F 40) ∧ b9 < 2 ∧ Iv 42 = nI b9 ∧ Iv 41 = nI (1 - b9) ∧ Iv 43 = (if N = 0 then 0 else 1) ∧ Iv 44 = nI N ∧ KEP F N (fun i => fe (i + 1)) (fun i => ne (i + 1)) ∧ HBK Iv F b9 N (fe N) (ne N) ∧ ln ≤ 64 ∧ Iv 66 = nI ln ∧ (∀ i, 0 ≤ (F 65 i).toInt ∧ (F 65 i).toInt < 256) ∧ sl ≤ 64 ∧ Iv 68 = nI sl ∧ Iv 63 ≤ nI 6
def RST (cy : Nat → ClassId) (V : Nat → Prop) (G : Nat → Option va_E) (mo tn : Nat) (ft : Nat → Int32) (N : Nat) (fe : Nat → Nat → Int32) (ne : Nat → Nat) : Prop :=
  ∃ (Ar : Nat → Nat) (Iv : Nat → Int32) (F : Nat → Nat → Int32) (L : Nat → Nat → Int64) (b9 ln sl : Nat), MD cy G mo Ar Iv F L ∧ (V mo ∧ ∀ k, mdR k = true → V (Ar k)) ∧ RSa Iv F tn ft N fe ne b9 ln sl
theorem RST.mv {cy : Nat → ClassId} {V : Nat → Prop} {G G2 : Nat → Option va_E} {mo tn : Nat} {ft : Nat → Int32} {N : Nat} {fe : Nat → Nat → Int32} {ne : Nat → Nat} (h : RST cy V G mo tn ft N fe ne) (hf : ∀ x e, V x → G x = some e → G2 x = some e) : RST cy V G2 mo tn ft N fe ne := by
  obtain ⟨Ar, Iv, F, L, b9, ln, sl, h1, h2, h3⟩ := h
  exact ⟨Ar, Iv, F, L, b9, ln, sl, h1.fr V (fun x e z y => hf x e y z) h2.1 h2.2, h2, h3⟩
/-- ints that a call may write: the others stand -/
theorem RSa.iv {Iv I2 : Nat → Int32} {F : Nat → Nat → Int32} {tn : Nat} {ft : Nat → Int32} {N : Nat} {fe : Nat → Nat → Int32} {ne : Nat → Nat} {b9 ln sl : Nat} (h : RSa Iv F tn ft N fe ne b9 ln sl) (hI : ∀ j, 39 ≤ j → ¬ (48 ≤ j ∧ j ≤ 58) → I2 j = Iv j) : RSa I2 F tn ft N fe ne b9 ln sl := by
  obtain ⟨a1, a2, a3, a4, a5, a6, a7, a8, a9, ⟨a10, a10b⟩, a11, a12, a13, a14, a15, a16⟩ := h
  refine ⟨(hI 39 (by decide) (by decide)).trans a1, a2, a3, a4, (hI 42 (by decide) (by decide)).trans a5, (hI 41 (by decide) (by decide)).trans a6, (hI 43 (by decide) (by decide)).trans a7, (hI 44 (by decide) (by decide)).trans a8, a9, ⟨a10, fun z => ?_⟩, a11, (hI 66 (by decide) (by decide)).trans a12, a13, a14, (hI 68 (by decide) (by decide)).trans a15, by rw [hI 63 (by decide) (by decide)]; exact a16⟩
  obtain ⟨y1, y2, y3, ui, y4, y5⟩ := a10b z
  exact ⟨y1, y2, y3, ui, (hI 69 (by decide) (by decide)).trans y4, y5⟩
theorem RSa.fv {Iv : Nat → Int32} {F F2 : Nat → Nat → Int32} {tn : Nat} {ft : Nat → Int32} {N : Nat} {fe : Nat → Nat → Int32} {ne : Nat → Nat} {b9 ln sl : Nat} (h : RSa Iv F tn ft N fe ne b9 ln sl) (h40 : F2 40 = F 40) (h45 : F2 45 = F 45) (h46 : F2 46 = F 46) (h65 : F2 65 = F 65) (hB : ∀ k i, wB b9 k i → F2 k i = F k i) : RSa Iv F2 tn ft N fe ne b9 ln sl := by
  obtain ⟨a1, a2, a3, a4, a5, a6, a7, a8, a9, ⟨a10, a10b⟩, a11, a12, a13, a14, a15, a16⟩ := h
  refine ⟨a1, a2, by rw [h40]; exact a3, a4, a5, a6, a7, a8, fun i i1 i2 => ?_, ⟨fun z => ?_, fun z => ?_⟩, a11, a12, by rw [h65]; exact a13, a14, a15, a16⟩
  · rw [h45, h46]; exact a9 i i1 i2
  · rw [hB 4 b9 (Or.inl ⟨by decide, by decide, rfl⟩)]; exact a10 z
  · obtain ⟨y1, y2, ⟨n9, y3, y4⟩, y5⟩ := a10b z
    exact ⟨y1, y2, ⟨n9, y3, y4.fr hB⟩, y5⟩
theorem nm_ex {K : Nat → Nat} {V : Nat → Int64} {n : Nat} (hn : n < 2 ^ 30) : ∃ nm : Int64 → Int32, ∀ r x, NMt K V n r x → r = nm x := by
  have h : ∀ x, ∃ y, ∀ r, NMt K V n r x → r = y := by
    intro x
    by_cases h : ∃ r, NMt K V n r x
    · obtain ⟨r0, h0⟩ := h
      exact ⟨r0, fun r hr => (hr.inj hn h0).mpr rfl⟩
    · exact ⟨0, fun r hr => absurd ⟨r, hr⟩ h⟩
  exact ⟨fun x => (h x).choose, fun r x hr => (h x).choose_spec r hr⟩
theorem HBK.vld {Iv : Nat → Int32} {F : Nat → Nat → Int32} {b9 N : Nat} {f : Nat → Int32} {n : Nat} (h : HBK Iv F b9 N f n) (hN : 1 ≤ N) : VLD (rdV f n) := by
  obtain ⟨y1, y2, ⟨n9, y3, y4⟩, y5⟩ := h.2 hN
  exact rd_vld y1 y2 (fun s hs => (y4.2.2.1.2.2 s hs).2.2.2.2.1) (fun j hj => (y4.2.2.2.2.2.2.2 j hj).2.2.1)
theorem wB_lx {b k i : Nat} (h : wB b k i) : 1 ≤ k ∧ k ≤ 37 ∧ k ≠ 7 ∧ k ≠ 8 := by
  unfold wB at h
  rcases h with h | h | h | h | h | h | h | h | h | h <;> omega
theorem ocat {f : Nat → Int32} {ln i : Nat} (hl : ln ≤ 64) (hi : i < ln) (h : 0 ≤ (f i).toInt ∧ (f i).toInt < 256) : f i = oc_at (nI ln) f (nI i) := by
  unfold oc_at
  rw [if_neg (nI_pos (by omega)), if_neg (nI_ge hi (by omega)), if_pos (show nI i < 64 from nI_lt (b := 64) (by omega) (by decide)), nI_clamp (by omega)]
  obtain ⟨k, hk, e⟩ : ∃ k, k < 256 ∧ f i = nI k := ⟨(f i).toInt.toNat, by omega, Int32.toInt_inj.mp (by rw [nI_toInt (by omega)]; omega)⟩
  rw [e]
  have : ∀ k, k < 256 → nI k = nI k &&& 255 := by decide +kernel
  exact this k hk
