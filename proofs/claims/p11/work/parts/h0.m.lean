theorem RSa.gen {Iv I2 : Nat → Int32} {F : Nat → Nat → Int32} {tn : Nat} {ft : Nat → Int32} {N : Nat} {fe : Nat → Nat → Int32} {ne : Nat → Nat} {b9 ln sl : Nat} (h : RSa Iv F tn ft N fe ne b9 ln sl) (hI : ∀ j, j = 39 ∨ (41 ≤ j ∧ j ≤ 44) ∨ j = 63 ∨ j = 66 → I2 j = Iv j) {sl2 : Nat} (hs : sl2 ≤ 64) (h68 : I2 68 = nI sl2) (hu : 1 ≤ N → ∃ ui, I2 69 = nu1 ui ∧ ∀ k, ui = some k → k < (rdV (fe N) (ne N)).nL) : RSa I2 F tn ft N fe ne b9 ln sl2 := by
  obtain ⟨a1, a2, a3, a4, a5, a6, a7, a8, a9, ⟨a10, a10b⟩, a11, a12, a13, a14, a15, a16⟩ := h
  refine ⟨(hI 39 (by decide)).trans a1, a2, a3, a4, (hI 42 (by decide)).trans a5, (hI 41 (by decide)).trans a6, (hI 43 (by decide)).trans a7, (hI 44 (by decide)).trans a8, a9, ⟨a10, fun z => ?_⟩, a11, (hI 66 (by decide)).trans a12, a13, hs, h68, by rw [hI 63 (by decide)]; exact a16⟩
  obtain ⟨y1, y2, y3, -⟩ := a10b z
  exact ⟨y1, y2, y3, hu z⟩
theorem RSa.f67 {Iv : Nat → Int32} {F F2 : Nat → Nat → Int32} {tn : Nat} {ft : Nat → Int32} {N : Nat} {fe : Nat → Nat → Int32} {ne : Nat → Nat} {b9 ln sl : Nat} (h : RSa Iv F tn ft N fe ne b9 ln sl) (hF : ∀ j, ¬ (j = 67 ∨ (71 ≤ j ∧ j ≤ 73)) → F2 j = F j) : RSa Iv F2 tn ft N fe ne b9 ln sl :=
  h.fv (hF 40 (by decide)) (hF 45 (by decide)) (hF 46 (by decide)) (hF 65 (by decide)) (fun k i z => by have := wB_lx z; rw [hF k (by omega)])
