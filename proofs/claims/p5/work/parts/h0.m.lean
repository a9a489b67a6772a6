theorem RSa.gen {Iv I2 : Nat → Int32} {F : Nat → Nat → Int32} {tn : Nat} {ft : Nat → Int32} {N : Nat} {fe : Nat → Nat → Int32} {ne : Nat → Nat} {b9 ln sl : Nat} (h : RSa Iv F tn ft N fe ne b9 ln sl) (hI : ∀ j, j = 39 ∨ (41 ≤ j ∧ j ≤ 44) ∨ j = 63 ∨ j = 66 → I2 j = Iv j) {sl2 : Nat} (hs : sl2 ≤ 64) (h68 : I2 68 = nI sl2) (hu : 1 ≤ N → ∃ ui, I2 69 = nu1 ui ∧ ∀ k, ui = some k → k < (rdV (fe N) (ne N)).nL) : RSa I2 F tn ft N fe ne b9 ln sl2 := by
  obtain ⟨a1, a2, a3, a4, a5, a6, a7, a8, a9, ⟨a10, a10b⟩, a11, a12, a13, a14, a15, a16⟩ := h
  refine ⟨(hI 39 (by decide)).trans a1, a2, a3, a4, (hI 42 (by decide)).trans a5, (hI 41 (by decide)).trans a6, (hI 43 (by decide)).trans a7, (hI 44 (by decide)).trans a8, a9, ⟨a10, fun z => ?_⟩, a11, (hI 66 (by decide)).trans a12, a13, hs, h68, by rw [hI 63 (by decide)]; exact a16⟩
  obtain ⟨y1, y2, y3, -⟩ := a10b z
  exact ⟨y1, y2, y3, hu z⟩
theorem RSa.f67 {Iv : Nat → Int32} {F F2 : Nat → Nat → Int32} {tn : Nat} {ft : Nat → Int32} {N : Nat} {fe : Nat → Nat → Int32} {ne : Nat → Nat} {b9 ln sl : Nat} (h : RSa Iv F tn ft N fe ne b9 ln sl) (hF : ∀ j, ¬ (j = 67 ∨ (71 ≤ j ∧ j ≤ 73)) → F2 j = F j) : RSa Iv F2 tn ft N fe ne b9 ln sl :=
  h.fv (hF 40 (by decide)) (hF 45 (by decide)) (hF 46 (by decide)) (hF 65 (by decide)) (fun k i z => by have := wB_lx z; rw [hF k (by omega)])

set_option maxHeartbeats 4000000 in
theorem m_ring (l : Launch) (D : va_G) (cy : Nat → ClassId) (A : Nat → Prop) (X : State → Prop) (hst : mk_St A X) (hXT : ∀ U : State, X U → TB U) (G : Nat → Option va_E) (V : Nat → Prop) (o tn : Nat) (ft : Nat → Int32) (N : Nat) (fe : Nat → Nat → Int32) (ne : Nat → Nat) (hR : RST cy V G o tn ft N fe ne) (hN20 : N < 2 ^ 20) (iv : Int32) : Met l yX14_ring [.code yX14_ring cX14_ring 2 (some .int)] ({ frames := 12, cells := 0, slots := 0, locals := 360 }) (mk_Pre D vwCl (tyL cy) A X G [.ref o, .int iv]) (va_Qi (fun (r : Int32) (G2 : Nat → Option va_E) => RST cy V G2 o tn ft N fe ne ∧ FRV V G G2) (mk_B D vwCl A) A) 0 0 A := by
  obtain ⟨Ar, Iv, F, L, b9, ln, sl, hM, hV, hS⟩ := hR
  obtain ⟨a1, a2, a3, a4, a5, a6, a7, a8, a9, a10, a11, a12, a13, a14, a15, a16⟩ := id hS
  refine (c_M_ring l D cy A X hst hXT G o Ar Iv F L iv hM a16).mono (Nat.le_of_ble_eq_true rfl) (Nat.le_of_ble_eq_true rfl) (Nat.le_of_ble_eq_true rfl) (Nat.le_of_ble_eq_true rfl) (Nat.le_of_ble_eq_true rfl) (Nat.le_of_ble_eq_true rfl) (fun _ _ h => h) ?_
  rintro a s oo t ⟨⟨r, G3, e1, ⟨-, hM2, hF2⟩, e3⟩, e4⟩
  exact ⟨⟨r, G3, e1, ⟨⟨Ar, _, _, _, b9, ln, sl, hM2, hV, hS.iv (fun j h1 _ => pk_un (by omega))⟩, FRV.of hM2 hF2 hV⟩, e3⟩, e4⟩

set_option maxHeartbeats 4000000 in
theorem m_out (l : Launch) (D : va_G) (cy : Nat → ClassId) (A : Nat → Prop) (X : State → Prop) (hst : mk_St A X) (hXT : ∀ U : State, X U → TB U) (G : Nat → Option va_E) (V : Nat → Prop) (o tn : Nat) (ft : Nat → Int32) (N : Nat) (fe : Nat → Nat → Int32) (ne : Nat → Nat) (hR : RST cy V G o tn ft N fe ne) (hN20 : N < 2 ^ 20) (iv : Int32) : Met l yX14_out [.code yX14_out cX14_out 2 (some .byte)] ({ frames := 12, cells := 0, slots := 0, locals := 360 }) (mk_Pre D vwCl (tyL cy) A X G [.ref o, .int iv]) (va_Qi (fun (r : Int32) (G2 : Nat → Option va_E) => RST cy V G2 o tn ft N fe ne ∧ FRV V G G2) (mk_B D vwCl A) A) 0 0 A := by
  obtain ⟨Ar, Iv, F, L, b9, ln, sl, hM, hV, hS⟩ := hR
  obtain ⟨a1, a2, a3, a4, a5, a6, a7, a8, a9, a10, a11, a12, a13, a14, a15, a16⟩ := id hS
  refine (c_M_out l D cy A X hst hXT G o Ar Iv F L iv hM (by rw [a15]; exact nI_le a14 (by decide))).mono (Nat.le_of_ble_eq_true rfl) (Nat.le_of_ble_eq_true rfl) (Nat.le_of_ble_eq_true rfl) (Nat.le_of_ble_eq_true rfl) (Nat.le_of_ble_eq_true rfl) (Nat.le_of_ble_eq_true rfl) (fun _ _ h => h) ?_
  rintro a s oo t ⟨⟨r, G3, e1, ⟨-, hM2, hF2⟩, e3⟩, e4⟩
  exact ⟨⟨r, G3, e1, ⟨⟨Ar, _, _, _, b9, ln, sl, hM2, hV, hS.iv (fun j h1 _ => pk_un (by omega))⟩, FRV.of hM2 hF2 hV⟩, e3⟩, e4⟩
