/-! ===== the law ===== -/
theorem lw_cmp {L j : Nat} {x : Int32} (hL : L ≤ 2560) (hj : j ≤ 512) (hx : x = Int32.ofNat L - 5) (h : ¬ x < nI (5 * j)) : 5 * j + 5 ≤ L := by
  have e : x.toInt = (L : Int) - 5 := by
    rw [hx, Int32.toInt_sub, show (Int32.ofNat L).toInt = (L : Int) from nI_toInt (n := L) (by omega), show (5 : Int32).toInt = 5 from rfl]
    exact Int.bmod_eq_of_le (by omega) (by omega)
  rw [Int32.lt_iff_toInt_lt, e, nI_toInt (by omega)] at h
  omega
theorem lw_in {x : Int32} {k L : Nat} (hL : L ≤ 2560) (hx : x = nI k) (hk : k < L) : vp_in x L := by
  rw [hx]
  exact nI_in hk (by omega)
theorem nI_d (k : Nat) (d : Nat) : nI k + nI d = nI (k + d) := (Int32.ofNat_add k d).symm
/-- a sign, whatever the reference's text is -/
theorem sgmU {cv : Int32} {tn : Nat} {f : Nat → Int32} (ht : tn ≤ 2000) : ∃ tn2 f2, tn2 ≤ 2000 ∧ sg_n cv 4 24 (nI tn, f) = (nI tn2, f2) ∧ ∀ g, SGR tn f g → ∃ g2, sm_n cv 4 24 (nI tn, g) = (nI tn2, g2) ∧ SGR tn2 f2 g2 := by
  have h0 : SGR tn f (fun i => if f i < 0 then 128 else f i) := by
    intro i _
    show chr (if f i < 0 then 128 else f i) (f i)
    by_cases z : f i < 0
    · rw [if_pos z]; exact Or.inr ⟨z, by decide⟩
    · rw [if_neg z]; exact Or.inl ⟨z, rfl⟩
  obtain ⟨tn2, f2, g2, a1, a2, a3, a4⟩ := sgm (cv := cv) ht h0
  refine ⟨tn2, f2, a1, a2, fun g hg => ?_⟩
  obtain ⟨tn3, f3, g3, b1, b2, b3, b4⟩ := sgm (cv := cv) ht hg
  obtain ⟨e1, e2⟩ := Prod.mk.inj (a2.symm.trans b2)
  have e3 : tn2 = tn3 := nI_inj (by omega) (by omega) e1
  rw [e3, e2]
  exact ⟨g3, b3, b4⟩
theorem CST.obj {cy : Nat → ClassId} {e0 : Nat} {tk : Nat → Nat} {Wq : Nat → Prop} {G : Nat → Option va_E} {o tn : Nat} {ft : Nat → Int32} {N : Nat} {fe : Nat → Nat → Int32} {ne : Nat → Nat} (h : CST cy e0 tk Wq G o tn ft N fe ne) : (∃ fs, G o = some (.inr (14, fs))) ∧ tn ≤ 2000 := by
  obtain ⟨tag, M, ge, gn, ea, ra, gi, tx, rd, to, se, kp, ow, k, ks, ss, vs, ro, rs, ln, sl, kf, fo, sf, h1, h2, h3⟩ := h
  exact ⟨⟨_, h1.1⟩, h1.2.2.2.2.2.2.2.2.2.2.2.2.1⟩
theorem RST.obj {cy : Nat → ClassId} {V : Nat → Prop} {G : Nat → Option va_E} {mo tn : Nat} {ft : Nat → Int32} {N : Nat} {fe : Nat → Nat → Int32} {ne : Nat → Nat} (h : RST cy V G mo tn ft N fe ne) : ∃ fs, G mo = some (.inr (15, fs)) := by
  obtain ⟨Ar, Iv, F, L, b9, ln, sl, h1, -⟩ := h
  exact ⟨_, h1.1⟩
theorem CST.mvF {cy : Nat → ClassId} {e0 : Nat} {tk : Nat → Nat} {V : Nat → Prop} {wa : Nat} {G G2 : Nat → Option va_E} {o tn : Nat} {ft : Nat → Int32} {N : Nat} {fe : Nat → Nat → Int32} {ne : Nat → Nat} (h : CST cy e0 tk (fun x => V x ∨ x = wa) G o tn ft N fe ne) (hF : FRV V G G2) : CST cy e0 tk (fun x => V x ∨ x = wa) G2 o tn ft N fe ne := by
  have h3 : ∀ x, (V x ∨ x = wa) → ∃ e, G x = some e := by
    obtain ⟨tag, M, ge, gn, ea, ra, gi, tx, rd, to, se, kp, ow, k, ks, ss, vs, ro, rs, ln, sl, kf, fo, sf, h1, h2, h3⟩ := h
    exact fun x hx => (h3 x hx).2
  exact h.mv (fun x e n y => hF.1 x e (fun z => n (Or.inl z)) y) (fun x hx => by obtain ⟨e, he⟩ := h3 x hx; exact hF.2 x e he)
/-- what a read takes -/
def rdc (tn : Nat) : Nat := if tn = 0 then 16 else 1908
theorem rdc_le (tn : Nat) : rdc tn ≤ 1908 := by unfold rdc; split <;> omega
theorem rdc_0 {tn : Nat} (h : tn = 0) : rdc tn = 16 := if_pos h