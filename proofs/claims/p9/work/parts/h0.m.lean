theorem RSa.gen {Iv I2 : Nat → Int32} {F : Nat → Nat → Int32} {tn : Nat} {ft : Nat → Int32} {N : Nat} {fe : Nat → Nat → Int32} {ne : Nat → Nat} {b9 ln sl : Nat} (h : RSa Iv F tn ft N fe ne b9 ln sl) (hI : ∀ j, j = 39 ∨ (41 ≤ j ∧ j ≤ 44) ∨ j = 63 ∨ j = 66 → I2 j = Iv j) {sl2 : Nat} (hs : sl2 ≤ 64) (h68 : I2 68 = nI sl2) (hu : 1 ≤ N → ∃ ui, I2 69 = nu1 ui ∧ ∀ k, ui = some k → k < (rdV (fe N) (ne N)).nL) : RSa I2 F tn ft N fe ne b9 ln sl2 := by
  obtain ⟨a1, a2, a3, a4, a5, a6, a7, a8, a9, ⟨a10, a10b⟩, a11, a12, a13, a14, a15, a16⟩ := h
  refine ⟨(hI 39 (by decide)).trans a1, a2, a3, a4, (hI 42 (by decide)).trans a5, (hI 41 (by decide)).trans a6, (hI 43 (by decide)).trans a7, (hI 44 (by decide)).trans a8, a9, ⟨a10, fun z => ?_⟩, a11, (hI 66 (by decide)).trans a12, a13, hs, h68, by rw [hI 63 (by decide)]; exact a16⟩
  obtain ⟨y1, y2, y3, -⟩ := a10b z
  exact ⟨y1, y2, y3, hu z⟩
theorem RSa.f67 {Iv : Nat → Int32} {F F2 : Nat → Nat → Int32} {tn : Nat} {ft : Nat → Int32} {N : Nat} {fe : Nat → Nat → Int32} {ne : Nat → Nat} {b9 ln sl : Nat} (h : RSa Iv F tn ft N fe ne b9 ln sl) (hF : ∀ j, ¬ (j = 67 ∨ (71 ≤ j ∧ j ≤ 73)) → F2 j = F j) : RSa Iv F2 tn ft N fe ne b9 ln sl :=
  h.fv (hF 40 (by decide)) (hF 45 (by decide)) (hF 46 (by decide)) (hF 65 (by decide)) (fun k i z => by have := wB_lx z; rw [hF k (by omega)])

set_option maxHeartbeats 4000000 in
theorem m_sign (l : Launch) (D : va_G) (cy : Nat → ClassId) (A : Nat → Prop) (X : State → Prop) (hst : mk_St A X) (hXT : ∀ U : State, X U → TB U) (G : Nat → Option va_E) (V : Nat → Prop) (o tn : Nat) (ft : Nat → Int32) (N : Nat) (fe : Nat → Nat → Int32) (ne : Nat → Nat) (hR : RST cy V G o tn ft N fe ne) (hN20 : N < 2 ^ 20) (cv : Int32) (tn2 : Nat) (ft2 : Nat → Int32) (hl2 : tn2 ≤ 2000) (hsg : ∀ f, SGR tn ft f → ∃ g, sm_n cv 4 24 (nI tn, f) = (nI tn2, g) ∧ SGR tn2 ft2 g) : Met l yX14_sign [.code yX14_sign cX14_sign 4 none] ({ frames := 12, cells := 0, slots := 0, locals := 360 }) (mk_Pre D vwCl (tyL cy) A X G [.ref o, .int cv]) (va_Qv (fun (G2 : Nat → Option va_E) => RST cy V G2 o tn2 ft2 N fe ne ∧ FRV V G G2) (mk_B D vwCl A) A) 0 0 A := by
  obtain ⟨Ar, Iv, F, L, b9, ln, sl, hM, hV, hS⟩ := hR
  obtain ⟨a1, a2, a3, a4, a5, a6, a7, a8, a9, a10, a11, a12, a13, a14, a15, a16⟩ := id hS
  obtain ⟨g, hfin, hg2⟩ := hsg (F 40) a3
  refine (c_X14_sign l D cy A X hst hXT G o Ar Iv F L cv (nI tn2) g hM (by rw [a1]; exact nI_pos (by omega)) (by rw [a1]; exact hfin)).mono (Nat.le_of_ble_eq_true rfl) (Nat.le_of_ble_eq_true rfl) (Nat.le_of_ble_eq_true rfl) (Nat.le_of_ble_eq_true rfl) (Nat.le_of_ble_eq_true rfl) (Nat.le_of_ble_eq_true rfl) (fun _ _ h => h) ?_
  rintro a s oo t ⟨⟨G3, e1, ⟨hM2, hF2, -⟩, e3⟩, e4⟩
  have hI : ∀ j, 40 ≤ j → upd (upd Iv 38 0) 39 (nI tn2) j = Iv j := fun j hj => by rw [pk_un (by omega), pk_un (by omega)]
  have h9 : RSa (upd (upd Iv 38 0) 39 (nI tn2)) (va_up F 40 g) tn2 ft2 N fe ne b9 ln sl := by
    refine ⟨pk_us, hl2, by rw [va_up_self]; exact hg2, a4, (hI 42 (by decide)).trans a5, (hI 41 (by decide)).trans a6, (hI 43 (by decide)).trans a7, (hI 44 (by decide)).trans a8, fun i i1 i2 => ?_, ⟨fun z => ?_, fun z => ?_⟩, a11, (hI 66 (by decide)).trans a12, by rw [va_up_ne _ _ (by decide)]; exact a13, a14, (hI 68 (by decide)).trans a15, by rw [hI 63 (by decide)]; exact a16⟩
    · rw [va_up_ne _ _ (by decide), va_up_ne _ _ (by decide)]; exact a9 i i1 i2
    · rw [va_up_ne _ _ (by decide)]; exact a10.1 z
    · obtain ⟨y1, y2, ⟨n9, y3, y4⟩, ui, y5, y6⟩ := a10.2 z
      exact ⟨y1, y2, ⟨n9, y3, y4.fr (fun k i z => by have := wB_lx z; rw [va_up_ne _ _ (by omega)])⟩, ui, (hI 69 (by decide)).trans y5, y6⟩
  exact ⟨⟨G3, e1, ⟨⟨Ar, _, _, _, b9, ln, sl, hM2, hV, h9⟩, FRV.of hM2 hF2 hV⟩, e3⟩, e4⟩

set_option maxHeartbeats 4000000 in
theorem m_octet (l : Launch) (D : va_G) (cy : Nat → ClassId) (A : Nat → Prop) (X : State → Prop) (hst : mk_St A X) (hXT : ∀ U : State, X U → TB U) (G : Nat → Option va_E) (V : Nat → Prop) (o tn : Nat) (ft : Nat → Int32) (N : Nat) (fe : Nat → Nat → Int32) (ne : Nat → Nat) (hR : RST cy V G o tn ft N fe ne) (hN20 : N < 2 ^ 20) (bv : Int32) : Met l yX14_octet [.code yX14_octet cX14_octet 2 none] ({ frames := 12, cells := 0, slots := 0, locals := 360 }) (mk_Pre D vwCl (tyL cy) A X G [.ref o, .int bv]) (va_Qv (fun (G2 : Nat → Option va_E) => RST cy V G2 o tn ft N fe ne ∧ FRV V G G2) (mk_B D vwCl A) A) 0 0 A := by
  obtain ⟨Ar, Iv, F, L, b9, ln, sl, hM, hV, hS⟩ := hR
  obtain ⟨a1, a2, a3, a4, a5, a6, a7, a8, a9, a10, a11, a12, a13, a14, a15, a16⟩ := id hS
  refine (c_X14_octet l D cy A X hst hXT G o Ar Iv F L bv hM (by rw [a12]; exact nI_pos (by omega)) (by rw [a12]; exact nI_le (b := 64) a11 (by decide))).mono (Nat.le_of_ble_eq_true rfl) (Nat.le_of_ble_eq_true rfl) (Nat.le_of_ble_eq_true rfl) (Nat.le_of_ble_eq_true rfl) (Nat.le_of_ble_eq_true rfl) (Nat.le_of_ble_eq_true rfl) (fun _ _ h => h) ?_
  rintro a s oo t ⟨⟨G3, e1, ⟨hM2, hF2⟩, e3⟩, e4⟩
  rw [a12] at hM2
  obtain ⟨m9, hm9, em9, -, -⟩ := oc_n_le a11
  have hI : ∀ j, 39 ≤ j → j ≠ 66 → upd (upd (upd Iv 38 0) 66 (oc_n (nI ln))) 66 (oc_n (nI ln) + 1) j = Iv j := fun j hj h6 => by rw [pk_un h6, pk_un h6, pk_un (by omega)]
  have h9 : RSa (upd (upd (upd Iv 38 0) 66 (oc_n (nI ln))) 66 (oc_n (nI ln) + 1)) (va_up F 65 (upd (F 65) (oc_n (nI ln)).toNatClampNeg (bv &&& 255))) tn ft N fe ne b9 m9 sl := by
    refine ⟨(hI 39 (by decide) (by decide)).trans a1, a2, by rw [va_up_ne _ _ (by decide)]; exact a3, a4, (hI 42 (by decide) (by decide)).trans a5, (hI 41 (by decide) (by decide)).trans a6, (hI 43 (by decide) (by decide)).trans a7, (hI 44 (by decide) (by decide)).trans a8, fun i i1 i2 => ?_, ⟨fun z => ?_, fun z => ?_⟩, hm9, by rw [pk_us]; exact em9, fun i => ?_, a14, (hI 68 (by decide) (by decide)).trans a15, by rw [hI 63 (by decide) (by decide)]; exact a16⟩
    · rw [va_up_ne _ _ (by decide), va_up_ne _ _ (by decide)]; exact a9 i i1 i2
    · rw [va_up_ne _ _ (by decide)]; exact a10.1 z
    · obtain ⟨y1, y2, ⟨n9, y3, y4⟩, ui, y5, y6⟩ := a10.2 z
      exact ⟨y1, y2, ⟨n9, y3, y4.fr (fun k i z => by have := wB_lx z; rw [va_up_ne _ _ (by omega)])⟩, ui, (hI 69 (by decide) (by decide)).trans y5, y6⟩
    · rw [va_up_self]
      by_cases z : i = (oc_n (nI ln)).toNatClampNeg
      · rw [z, pk_us]; exact and255 bv
      · rw [pk_un z]; exact a13 i
  exact ⟨⟨G3, e1, ⟨⟨Ar, _, _, _, b9, m9, sl, hM2, hV, h9⟩, FRV.of hM2 hF2 hV⟩, e3⟩, e4⟩

set_option maxHeartbeats 4000000 in
theorem m_service (l : Launch) (D : va_G) (cy : Nat → ClassId) (A : Nat → Prop) (X : State → Prop) (hst : mk_St A X) (hXT : ∀ U : State, X U → TB U) (G : Nat → Option va_E) (V : Nat → Prop) (o tn : Nat) (ft : Nat → Int32) (N : Nat) (fe : Nat → Nat → Int32) (ne : Nat → Nat) (hR : RST cy V G o tn ft N fe ne) (hN20 : N < 2 ^ 20) (iv wv : Int32) : Met l yX14_service [.code yX14_service cX14_service 6 (some .int)] ({ frames := 12, cells := 0, slots := 0, locals := 360 }) (mk_Pre D vwCl (tyL cy) A X G [.ref o, .int iv, .int wv]) (va_Qi (fun (r : Int32) (G2 : Nat → Option va_E) => RST cy V G2 o tn ft N fe ne ∧ FRV V G G2) (mk_B D vwCl A) A) 0 0 A := by
  obtain ⟨Ar, Iv, F, L, b9, ln, sl, hM, hV, hS⟩ := hR
  obtain ⟨a1, a2, a3, a4, a5, a6, a7, a8, a9, a10, a11, a12, a13, a14, a15, a16⟩ := id hS
  by_cases hN : N = 0
  · refine (c_X14_service_0 l D cy A X hst hXT G o Ar Iv F L iv wv hM (by rw [a7, if_pos hN])).mono (Nat.le_of_ble_eq_true rfl) (Nat.le_of_ble_eq_true rfl) (Nat.le_of_ble_eq_true rfl) (Nat.le_of_ble_eq_true rfl) (Nat.le_of_ble_eq_true rfl) (Nat.le_of_ble_eq_true rfl) (fun _ _ h => h) ?_
    rintro a s oo t ⟨⟨r, G3, e1, ⟨-, hM2, hF2⟩, e3⟩, e4⟩
    exact ⟨⟨r, G3, e1, ⟨⟨Ar, _, _, _, b9, ln, sl, hM2, hV, hS.iv (fun j h1 _ => pk_un (by omega))⟩, FRV.of hM2 hF2 hV⟩, e3⟩, e4⟩
  · obtain ⟨y1, y2, ⟨n9, y3, y4⟩, ui, y5, y6⟩ := a10.2 (by omega)
    have hVL := a10.vld (by omega)
    obtain ⟨nm, hnm⟩ := nm_ex (K := tkK (fe N) (ne N)) (V := tkV (fe N) (ne N)) y3
    refine (c_M_service l D cy A X hst hXT G o Ar Iv F L (fe N) (ne N) b9 n9 (rdV (fe N) (ne N)) nm ui iv wv hM y4 rdV_ls hVL y3 a4 a5 (by rw [a7, if_neg hN]; decide) hnm y5 y6).mono (Nat.le_of_ble_eq_true rfl) (Nat.le_of_ble_eq_true rfl) (Nat.le_of_ble_eq_true rfl) (Nat.le_of_ble_eq_true rfl) (Nat.le_of_ble_eq_true rfl) (Nat.le_of_ble_eq_true rfl) (fun _ _ h => h) ?_
    rintro a s oo t ⟨⟨r, G3, e1, ⟨-, hM2, hF2⟩, e3⟩, e4⟩
    exact ⟨⟨r, G3, e1, ⟨⟨Ar, _, _, _, b9, ln, sl, hM2, hV, hS.iv (fun j h1 _ => pk_un (by omega))⟩, FRV.of hM2 hF2 hV⟩, e3⟩, e4⟩

set_option maxHeartbeats 4000000 in
theorem m_parameter (l : Launch) (D : va_G) (cy : Nat → ClassId) (A : Nat → Prop) (X : State → Prop) (hst : mk_St A X) (hXT : ∀ U : State, X U → TB U) (G : Nat → Option va_E) (V : Nat → Prop) (o tn : Nat) (ft : Nat → Int32) (N : Nat) (fe : Nat → Nat → Int32) (ne : Nat → Nat) (hR : RST cy V G o tn ft N fe ne) (hN20 : N < 2 ^ 20) (iv jv wv : Int32) : Met l yX14_parameter [.code yX14_parameter cX14_parameter 5 (some .int)] ({ frames := 12, cells := 0, slots := 0, locals := 360 }) (mk_Pre D vwCl (tyL cy) A X G [.ref o, .int iv, .int jv, .int wv]) (va_Qi (fun (r : Int32) (G2 : Nat → Option va_E) => RST cy V G2 o tn ft N fe ne ∧ FRV V G G2) (mk_B D vwCl A) A) 0 0 A := by
  obtain ⟨Ar, Iv, F, L, b9, ln, sl, hM, hV, hS⟩ := hR
  obtain ⟨a1, a2, a3, a4, a5, a6, a7, a8, a9, a10, a11, a12, a13, a14, a15, a16⟩ := id hS
  by_cases hN : N = 0
  · refine (c_X14_parameter_0 l D cy A X hst hXT G o Ar Iv F L iv jv wv hM (by rw [a7, if_pos hN])).mono (Nat.le_of_ble_eq_true rfl) (Nat.le_of_ble_eq_true rfl) (Nat.le_of_ble_eq_true rfl) (Nat.le_of_ble_eq_true rfl) (Nat.le_of_ble_eq_true rfl) (Nat.le_of_ble_eq_true rfl) (fun _ _ h => h) ?_
    rintro a s oo t ⟨⟨r, G3, e1, ⟨-, hM2, hF2⟩, e3⟩, e4⟩
    exact ⟨⟨r, G3, e1, ⟨⟨Ar, _, _, _, b9, ln, sl, hM2, hV, hS.iv (fun j h1 _ => pk_un (by omega))⟩, FRV.of hM2 hF2 hV⟩, e3⟩, e4⟩
  · obtain ⟨y1, y2, ⟨n9, y3, y4⟩, ui, y5, y6⟩ := a10.2 (by omega)
    have hVL := a10.vld (by omega)
    obtain ⟨nm, hnm⟩ := nm_ex (K := tkK (fe N) (ne N)) (V := tkV (fe N) (ne N)) y3
    refine (c_M_parameter l D cy A X hst hXT G o Ar Iv F L (fe N) (ne N) b9 n9 (rdV (fe N) (ne N)) nm iv jv wv hM y4 rdV_ls hVL y3 a4 a5 (by rw [a7, if_neg hN]; decide) hnm).mono (Nat.le_of_ble_eq_true rfl) (Nat.le_of_ble_eq_true rfl) (Nat.le_of_ble_eq_true rfl) (Nat.le_of_ble_eq_true rfl) (Nat.le_of_ble_eq_true rfl) (Nat.le_of_ble_eq_true rfl) (fun _ _ h => h) ?_
    rintro a s oo t ⟨⟨r, G3, e1, ⟨-, hM2, hF2⟩, e3⟩, e4⟩
    exact ⟨⟨r, G3, e1, ⟨⟨Ar, _, _, _, b9, ln, sl, hM2, hV, hS.iv (fun j h1 _ => pk_un (by omega))⟩, FRV.of hM2 hF2 hV⟩, e3⟩, e4⟩

set_option maxHeartbeats 4000000 in
theorem m_variant (l : Launch) (D : va_G) (cy : Nat → ClassId) (A : Nat → Prop) (X : State → Prop) (hst : mk_St A X) (hXT : ∀ U : State, X U → TB U) (G : Nat → Option va_E) (V : Nat → Prop) (o tn : Nat) (ft : Nat → Int32) (N : Nat) (fe : Nat → Nat → Int32) (ne : Nat → Nat) (hR : RST cy V G o tn ft N fe ne) (hN20 : N < 2 ^ 20) (iv : Int32) : Met l yX14_variant [.code yX14_variant cX14_variant 5 (some .int)] ({ frames := 12, cells := 0, slots := 0, locals := 360 }) (mk_Pre D vwCl (tyL cy) A X G [.ref o, .int iv]) (va_Qi (fun (r : Int32) (G2 : Nat → Option va_E) => RST cy V G2 o tn ft N fe ne ∧ FRV V G G2) (mk_B D vwCl A) A) 0 0 A := by
  obtain ⟨Ar, Iv, F, L, b9, ln, sl, hM, hV, hS⟩ := hR
  obtain ⟨a1, a2, a3, a4, a5, a6, a7, a8, a9, a10, a11, a12, a13, a14, a15, a16⟩ := id hS
  by_cases hN : N = 0
  · refine (c_X14_variant_0 l D cy A X hst hXT G o Ar Iv F L iv hM (by rw [a7, if_pos hN])).mono (Nat.le_of_ble_eq_true rfl) (Nat.le_of_ble_eq_true rfl) (Nat.le_of_ble_eq_true rfl) (Nat.le_of_ble_eq_true rfl) (Nat.le_of_ble_eq_true rfl) (Nat.le_of_ble_eq_true rfl) (fun _ _ h => h) ?_
    rintro a s oo t ⟨⟨r, G3, e1, ⟨-, hM2, hF2⟩, e3⟩, e4⟩
    exact ⟨⟨r, G3, e1, ⟨⟨Ar, _, _, _, b9, ln, sl, hM2, hV, hS.iv (fun j h1 _ => pk_un (by omega))⟩, FRV.of hM2 hF2 hV⟩, e3⟩, e4⟩
  · obtain ⟨y1, y2, ⟨n9, y3, y4⟩, ui, y5, y6⟩ := a10.2 (by omega)
    have hVL := a10.vld (by omega)
    obtain ⟨nm, hnm⟩ := nm_ex (K := tkK (fe N) (ne N)) (V := tkV (fe N) (ne N)) y3
    refine (c_M_variant l D cy A X hst hXT G o Ar Iv F L (fe N) (ne N) b9 n9 (rdV (fe N) (ne N)) nm iv hM y4 rdV_ls hVL y3 a4 a5 (by rw [a7, if_neg hN]; decide) hnm).mono (Nat.le_of_ble_eq_true rfl) (Nat.le_of_ble_eq_true rfl) (Nat.le_of_ble_eq_true rfl) (Nat.le_of_ble_eq_true rfl) (Nat.le_of_ble_eq_true rfl) (Nat.le_of_ble_eq_true rfl) (fun _ _ h => h) ?_
    rintro a s oo t ⟨⟨r, G3, e1, ⟨-, I2, hM2, hF2, hI, -, h69⟩, e3⟩, e4⟩
    exact ⟨⟨r, G3, e1, ⟨⟨Ar, _, _, _, b9, ln, sl, hM2, hV, hS.gen (fun j hj => hI j (by omega) (by omega)) a14 ((hI 68 (by decide) (by decide)).trans a15) (fun _ => ⟨_, h69, fun k hk => lyA_lt hk⟩)⟩, FRV.of hM2 hF2 hV⟩, e3⟩, e4⟩

set_option maxHeartbeats 4000000 in
theorem m_decode (l : Launch) (D : va_G) (cy : Nat → ClassId) (A : Nat → Prop) (X : State → Prop) (hst : mk_St A X) (hXT : ∀ U : State, X U → TB U) (G : Nat → Option va_E) (V : Nat → Prop) (o tn : Nat) (ft : Nat → Int32) (N : Nat) (fe : Nat → Nat → Int32) (ne : Nat → Nat) (hR : RST cy V G o tn ft N fe ne) (hN20 : N < 2 ^ 20) (iv jv wv : Int32) : Met l yX14_decode [.code yX14_decode cX14_decode 14 (some .long)] ({ frames := 12, cells := 0, slots := 0, locals := 360 }) (mk_Pre D vwCl (tyL cy) A X G [.ref o, .int iv, .int jv, .int wv]) (va_Ql (fun (r : Int64) (G2 : Nat → Option va_E) => RST cy V G2 o tn ft N fe ne ∧ FRV V G G2) (mk_B D vwCl A) A) 0 0 A := by
  obtain ⟨Ar, Iv, F, L, b9, ln, sl, hM, hV, hS⟩ := hR
  obtain ⟨a1, a2, a3, a4, a5, a6, a7, a8, a9, a10, a11, a12, a13, a14, a15, a16⟩ := id hS
  by_cases hN : N = 0
  · refine (c_X14_decode_0 l D cy A X hst hXT G o Ar Iv F L iv jv wv hM (by rw [a7, if_pos hN])).mono (Nat.le_of_ble_eq_true rfl) (Nat.le_of_ble_eq_true rfl) (Nat.le_of_ble_eq_true rfl) (Nat.le_of_ble_eq_true rfl) (Nat.le_of_ble_eq_true rfl) (Nat.le_of_ble_eq_true rfl) (fun _ _ h => h) ?_
    rintro a s oo t ⟨⟨r, G3, e1, ⟨-, hM2, hF2⟩, e3⟩, e4⟩
    exact ⟨⟨r, G3, e1, ⟨⟨Ar, _, _, _, b9, ln, sl, hM2, hV, hS.iv (fun j h1 _ => pk_un (by omega))⟩, FRV.of hM2 hF2 hV⟩, e3⟩, e4⟩
  · obtain ⟨y1, y2, ⟨n9, y3, y4⟩, ui, y5, y6⟩ := a10.2 (by omega)
    have hVL := a10.vld (by omega)
    obtain ⟨nm, hnm⟩ := nm_ex (K := tkK (fe N) (ne N)) (V := tkV (fe N) (ne N)) y3
    refine (c_M_decode l D cy A X hst hXT G o Ar Iv F L (fe N) (ne N) b9 n9 (rdV (fe N) (ne N)) nm ln 999999 (F 65) (fun _ _ => (0, 0, 0, 0)) iv jv wv hM y4 rdV_ls hVL y3 a4 a5 (by rw [a7, if_neg hN]; decide) hnm rdV_w rdV_cb a12 a11 (Nat.le_refl _) (fun i hi => ⟨ocat a11 hi (a13 i), a13 i⟩)).mono (Nat.le_of_ble_eq_true rfl) (Nat.le_of_ble_eq_true rfl) (Nat.le_of_ble_eq_true rfl) (Nat.le_of_ble_eq_true rfl) (Nat.le_of_ble_eq_true rfl) (Nat.le_of_ble_eq_true rfl) (fun _ _ h => h) ?_
    rintro a s oo t ⟨⟨r, G3, e1, ⟨-, F2, L2, hM2, hF2, hF, -⟩, e3⟩, e4⟩
    exact ⟨⟨r, G3, e1, ⟨⟨Ar, _, _, _, b9, ln, sl, hM2, hV, (hS.iv (fun j h1 _ => pk_un (by omega))).f67 (fun j hj => hF j (by omega))⟩, FRV.of hM2 hF2 hV⟩, e3⟩, e4⟩

set_option maxHeartbeats 4000000 in
theorem m_encode (l : Launch) (D : va_G) (cy : Nat → ClassId) (A : Nat → Prop) (X : State → Prop) (hst : mk_St A X) (hXT : ∀ U : State, X U → TB U) (G : Nat → Option va_E) (V : Nat → Prop) (o tn : Nat) (ft : Nat → Int32) (N : Nat) (fe : Nat → Nat → Int32) (ne : Nat → Nat) (hR : RST cy V G o tn ft N fe ne) (hN20 : N < 2 ^ 20) (iv jv : Int32) (xv : Int64) : Met l yX14_encode [.code yX14_encode cX14_encode 15 (some .int)] ({ frames := 12, cells := 0, slots := 0, locals := 360 }) (mk_Pre D vwCl (tyL cy) A X G [.ref o, .int iv, .int jv, .long xv]) (va_Qi (fun (r : Int32) (G2 : Nat → Option va_E) => RST cy V G2 o tn ft N fe ne ∧ FRV V G G2) (mk_B D vwCl A) A) 0 0 A := by
  obtain ⟨Ar, Iv, F, L, b9, ln, sl, hM, hV, hS⟩ := hR
  obtain ⟨a1, a2, a3, a4, a5, a6, a7, a8, a9, a10, a11, a12, a13, a14, a15, a16⟩ := id hS
  by_cases hN : N = 0
  · refine (c_X14_encode_0 l D cy A X hst hXT G o Ar Iv F L iv jv xv hM (by rw [a7, if_pos hN])).mono (Nat.le_of_ble_eq_true rfl) (Nat.le_of_ble_eq_true rfl) (Nat.le_of_ble_eq_true rfl) (Nat.le_of_ble_eq_true rfl) (Nat.le_of_ble_eq_true rfl) (Nat.le_of_ble_eq_true rfl) (fun _ _ h => h) ?_
    rintro a s oo t ⟨⟨r, G3, e1, ⟨-, hM2, hF2⟩, e3⟩, e4⟩
    exact ⟨⟨r, G3, e1, ⟨⟨Ar, _, _, _, b9, ln, sl, hM2, hV, hS.iv (fun j h1 _ => pk_un (by omega))⟩, FRV.of hM2 hF2 hV⟩, e3⟩, e4⟩
  · obtain ⟨y1, y2, ⟨n9, y3, y4⟩, ui, y5, y6⟩ := a10.2 (by omega)
    have hVL := a10.vld (by omega)
    obtain ⟨nm, hnm⟩ := nm_ex (K := tkK (fe N) (ne N)) (V := tkV (fe N) (ne N)) y3
    refine (c_M_encode l D cy A X hst hXT G o Ar Iv F L (fe N) (ne N) b9 n9 (rdV (fe N) (ne N)) nm sl (fun s i => (0, 0, 0, L 70 (8 * s + i))) (fun _ => 0) iv jv xv hM y4 rdV_ls hVL y3 a4 a5 (by rw [a7, if_neg hN]; decide) hnm rdV_w rdV_cb a15 a14 (fun _ _ _ _ => rfl)).mono (Nat.le_of_ble_eq_true rfl) (Nat.le_of_ble_eq_true rfl) (Nat.le_of_ble_eq_true rfl) (Nat.le_of_ble_eq_true rfl) (Nat.le_of_ble_eq_true rfl) (Nat.le_of_ble_eq_true rfl) (fun _ _ h => h) ?_
    rintro a s oo t ⟨⟨r, G3, e1, ⟨I2, F2, L2, hM2, hF2, hI, -, ⟨k9, hk9, h68⟩, hF, -⟩, e3⟩, e4⟩
    exact ⟨⟨r, G3, e1, ⟨⟨Ar, _, _, _, b9, ln, k9, hM2, hV, (hS.gen (fun j hj => hI j (by omega) (by omega)) hk9 h68 (fun _ => ⟨ui, (hI 69 (by decide) (by decide)).trans y5, y6⟩)).f67 hF⟩, FRV.of hM2 hF2 hV⟩, e3⟩, e4⟩

set_option maxHeartbeats 4000000 in
theorem m_job (l : Launch) (D : va_G) (cy : Nat → ClassId) (A : Nat → Prop) (X : State → Prop) (hst : mk_St A X) (hXT : ∀ U : State, X U → TB U) (G : Nat → Option va_E) (V : Nat → Prop) (o tn : Nat) (ft : Nat → Int32) (N : Nat) (fe : Nat → Nat → Int32) (ne : Nat → Nat) (hR : RST cy V G o tn ft N fe ne) (hN20 : N < 2 ^ 20) (iv : Int32) (xs : Int64) : Met l yX14_job [.code yX14_job cX14_job 17 (some .int)] ({ frames := 12, cells := 0, slots := 0, locals := 360 }) (mk_Pre D vwCl (tyL cy) A X G [.ref o, .int iv, .long xs]) (va_Qi (fun (r : Int32) (G2 : Nat → Option va_E) => RST cy V G2 o tn ft N fe ne ∧ FRV V G G2) (mk_B D vwCl A) A) 0 0 A := by
  obtain ⟨Ar, Iv, F, L, b9, ln, sl, hM, hV, hS⟩ := hR
  obtain ⟨a1, a2, a3, a4, a5, a6, a7, a8, a9, a10, a11, a12, a13, a14, a15, a16⟩ := id hS
  by_cases hN : N = 0
  · refine (c_X14_job_0 l D cy A X hst hXT G o Ar Iv F L iv xs hM (by rw [a7, if_pos hN])).mono (Nat.le_of_ble_eq_true rfl) (Nat.le_of_ble_eq_true rfl) (Nat.le_of_ble_eq_true rfl) (Nat.le_of_ble_eq_true rfl) (Nat.le_of_ble_eq_true rfl) (Nat.le_of_ble_eq_true rfl) (fun _ _ h => h) ?_
    rintro a s oo t ⟨⟨r, G3, e1, ⟨-, hM2, hF2⟩, e3⟩, e4⟩
    exact ⟨⟨r, G3, e1, ⟨⟨Ar, _, _, _, b9, ln, sl, hM2, hV, hS.iv (fun j h1 _ => pk_un (by omega))⟩, FRV.of hM2 hF2 hV⟩, e3⟩, e4⟩
  · obtain ⟨y1, y2, ⟨n9, y3, y4⟩, ui, y5, y6⟩ := a10.2 (by omega)
    have hVL := a10.vld (by omega)
    obtain ⟨nm, hnm⟩ := nm_ex (K := tkK (fe N) (ne N)) (V := tkV (fe N) (ne N)) y3
    refine (c_M_job l D cy A X hst hXT G o Ar Iv F L (fe N) (ne N) b9 n9 (rdV (fe N) (ne N)) nm ln sl (F 65) (fun _ _ => (0, 0, 0, 0)) (fun _ => 0) (fun _ => 0) iv xs hM y4 rdV_ls hVL y3 a4 a5 (by rw [a7, if_neg hN]; decide) hnm rdV_w rdV_cb (rd_jt y1 y2) a12 a11 a15 a14 (fun i hi => ⟨ocat a11 hi (a13 i), a13 i⟩)).mono (Nat.le_of_ble_eq_true rfl) (Nat.le_of_ble_eq_true rfl) (Nat.le_of_ble_eq_true rfl) (Nat.le_of_ble_eq_true rfl) (Nat.le_of_ble_eq_true rfl) (Nat.le_of_ble_eq_true rfl) (fun _ _ h => h) ?_
    rintro a s oo t ⟨⟨r, G3, e1, ⟨I2, F2, L2, hM2, hF2, hI, -, ⟨k9, hk9, h68⟩, hF, -⟩, e3⟩, e4⟩
    exact ⟨⟨r, G3, e1, ⟨⟨Ar, _, _, _, b9, ln, k9, hM2, hV, (hS.gen (fun j hj => hI j (by omega) (by omega)) hk9 h68 (fun _ => ⟨ui, (hI 69 (by decide) (by decide)).trans y5, y6⟩)).f67 hF⟩, FRV.of hM2 hF2 hV⟩, e3⟩, e4⟩

set_option maxHeartbeats 4000000 in
theorem m_code (l : Launch) (D : va_G) (cy : Nat → ClassId) (A : Nat → Prop) (X : State → Prop) (hst : mk_St A X) (hXT : ∀ U : State, X U → TB U) (G : Nat → Option va_E) (V : Nat → Prop) (o tn : Nat) (ft : Nat → Int32) (N : Nat) (fe : Nat → Nat → Int32) (ne : Nat → Nat) (hR : RST cy V G o tn ft N fe ne) (hN20 : N < 2 ^ 20) (iv : Int32) : Met l yX14_code [.code yX14_code cX14_code 3 (some .int)] ({ frames := 12, cells := 0, slots := 0, locals := 360 }) (mk_Pre D vwCl (tyL cy) A X G [.ref o, .int iv]) (va_Qi (fun (r : Int32) (G2 : Nat → Option va_E) => RST cy V G2 o tn ft N fe ne ∧ FRV V G G2) (mk_B D vwCl A) A) 0 0 A := by
  obtain ⟨Ar, Iv, F, L, b9, ln, sl, hM, hV, hS⟩ := hR
  obtain ⟨a1, a2, a3, a4, a5, a6, a7, a8, a9, a10, a11, a12, a13, a14, a15, a16⟩ := id hS
  have hE : ∃ nE, nE ≤ 12 ∧ F 4 b9 = nI nE := by
    by_cases hN : N = 0
    · exact ⟨0, by omega, a10.1 hN⟩
    · obtain ⟨y1, y2, ⟨n9, y3, y4⟩, -⟩ := a10.2 (by omega)
      exact ⟨_, y4.2.2.2.1.2.1, y4.2.2.2.1.1⟩
  obtain ⟨nE, hE1, hE2⟩ := hE
  refine (c_M_code l D cy A X hst hXT G o Ar Iv F L b9 nE iv hM a4 a5 hE2 hE1).mono (Nat.le_of_ble_eq_true rfl) (Nat.le_of_ble_eq_true rfl) (Nat.le_of_ble_eq_true rfl) (Nat.le_of_ble_eq_true rfl) (Nat.le_of_ble_eq_true rfl) (Nat.le_of_ble_eq_true rfl) (fun _ _ h => h) ?_
  rintro a s oo t ⟨⟨r, G3, e1, ⟨-, hM2, hF2⟩, e3⟩, e4⟩
  exact ⟨⟨r, G3, e1, ⟨⟨Ar, _, _, _, b9, ln, sl, hM2, hV, hS.iv (fun j h1 _ => pk_un (by omega))⟩, FRV.of hM2 hF2 hV⟩, e3⟩, e4⟩

set_option maxHeartbeats 4000000 in
theorem m_ring (l : Launch) (D : va_G) (cy : Nat → ClassId) (A : Nat → Prop) (X : State → Prop) (hst : mk_St A X) (hXT : ∀ U : State, X U → TB U) (G : Nat → Option va_E) (V : Nat → Prop) (o tn : Nat) (ft : Nat → Int32) (N : Nat) (fe : Nat → Nat → Int32) (ne : Nat → Nat) (hR : RST cy V G o tn ft N fe ne) (hN20 : N < 2 ^ 20) (iv : Int32) : Met l yX14_ring [.code yX14_ring cX14_ring 2 (some .int)] ({ frames := 12, cells := 0, slots := 0, locals := 360 }) (mk_Pre D vwCl (tyL cy) A X G [.ref o, .int iv]) (va_Qi (fun (r : Int32) (G2 : Nat → Option va_E) => RST cy V G2 o tn ft N fe ne ∧ FRV V G G2) (mk_B D vwCl A) A) 0 0 A := by
  obtain ⟨Ar, Iv, F, L, b9, ln, sl, hM, hV, hS⟩ := hR
  obtain ⟨a1, a2, a3, a4, a5, a6, a7, a8, a9, a10, a11, a12, a13, a14, a15, a16⟩ := id hS
  refine (c_M_ring l D cy A X hst hXT G o Ar Iv F L iv hM a16).mono (Nat.le_of_ble_eq_true rfl) (Nat.le_of_ble_eq_true rfl) (Nat.le_of_ble_eq_true rfl) (Nat.le_of_ble_eq_true rfl) (Nat.le_of_ble_eq_true rfl) (Nat.le_of_ble_eq_true rfl) (fun _ _ h => h) ?_
  rintro a s oo t ⟨⟨r, G3, e1, ⟨-, hM2, hF2⟩, e3⟩, e4⟩
  exact ⟨⟨r, G3, e1, ⟨⟨Ar, _, _, _, b9, ln, sl, hM2, hV, hS.iv (fun j h1 _ => pk_un (by omega))⟩, FRV.of hM2 hF2 hV⟩, e3⟩, e4⟩

set_option maxHeartbeats 4000000 in
theorem m_out (l : Launch) (D : va_G) (cy : Nat → ClassId) (A : Nat → Prop) (X : State → Prop) (hst : mk_St A X) (hXT : ∀ U : State, X U → TB U) (G : Nat → Option va_E) (V : Nat → Prop) (o tn : Nat) (ft : Nat → Int32) (N : Nat) (fe : Nat → Nat → Int32) (ne : Nat → Nat) (hR : RST cy V G o tn ft N fe ne) (hN20 : N < 2 ^ 20) (iv : Int32) : Met l yX14_out [.code yX14_out cX14_out 2 (some .byte)] ({ frames := 12, cells := 0, slots := 0, locals := 360 }) (mk_Pre D vwCl (tyL cy) A X G [.ref o, .int iv]) (va_Qi (fun (r : Int32) (G2 : Nat → Option va_E) => RST cy V G2 o tn ft N fe ne ∧ FRV V G G2) (mk_B D vwCl A) A) 0 0 A := by
  obtain ⟨Ar, Iv, F, L, b9, ln, sl, hM, hV, hS⟩ := hR
  obtain ⟨a1, a2, a3, a4, a5, a6, a7, a8, a9, a10, a11, a12, a13, a14, a15, a16⟩ := id hS
  refine (c_M_out l D cy A X hst hXT G o Ar Iv F L iv hM (by rw [a15]; exact nI_le a14 (by decide))).mono (Nat.le_of_ble_eq_true rfl) (Nat.le_of_ble_eq_true rfl) (Nat.le_of_ble_eq_true rfl) (Nat.le_of_ble_eq_true rfl) (Nat.le_of_ble_eq_true rfl) (Nat.le_of_ble_eq_true rfl) (fun _ _ h => h) ?_
  rintro a s oo t ⟨⟨r, G3, e1, ⟨-, hM2, hF2⟩, e3⟩, e4⟩
  exact ⟨⟨r, G3, e1, ⟨⟨Ar, _, _, _, b9, ln, sl, hM2, hV, hS.iv (fun j h1 _ => pk_un (by omega))⟩, FRV.of hM2 hF2 hV⟩, e3⟩, e4⟩

set_option maxHeartbeats 4000000 in
theorem m_compare (l : Launch) (D : va_G) (cy : Nat → ClassId) (A : Nat → Prop) (X : State → Prop) (hst : mk_St A X) (hXT : ∀ U : State, X U → TB U) (G : Nat → Option va_E) (V : Nat → Prop) (o tn : Nat) (ft : Nat → Int32) (N : Nat) (fe : Nat → Nat → Int32) (ne : Nat → Nat) (hR : RST cy V G o tn ft N fe ne) (hN20 : N < 2 ^ 20) (iv : Int32) : Met l yX14_compare [.code yX14_compare cX14_compare 7 (some .int)] ({ frames := 12, cells := 0, slots := 0, locals := 360 }) (mk_Pre D vwCl (tyL cy) A X G [.ref o, .int iv]) (va_Qi (fun (r : Int32) (G2 : Nat → Option va_E) => RST cy V G2 o tn ft N fe ne ∧ FRV V G G2) (mk_B D vwCl A) A) 0 0 A := by
  obtain ⟨Ar, Iv, F, L, b9, ln, sl, hM, hV, hS⟩ := hR
  obtain ⟨a1, a2, a3, a4, a5, a6, a7, a8, a9, a10, a11, a12, a13, a14, a15, a16⟩ := id hS
  by_cases hN : N = 0
  · refine (c_X14_compare_0 l D cy A X hst hXT G o Ar Iv F L iv hM (by rw [a7, if_pos hN]) (by rw [a8, hN]; rfl)).mono (Nat.le_of_ble_eq_true rfl) (Nat.le_of_ble_eq_true rfl) (Nat.le_of_ble_eq_true rfl) (Nat.le_of_ble_eq_true rfl) (Nat.le_of_ble_eq_true rfl) (Nat.le_of_ble_eq_true rfl) (fun _ _ h => h) ?_
    rintro a s oo t ⟨⟨r, G3, e1, ⟨-, hM2, hF2⟩, e3⟩, e4⟩
    exact ⟨⟨r, G3, e1, ⟨⟨Ar, _, _, _, b9, ln, sl, hM2, hV, hS.iv (fun j h1 _ => pk_un (by omega))⟩, FRV.of hM2 hF2 hV⟩, e3⟩, e4⟩
  · obtain ⟨y1, y2, ⟨n9, y3, y4⟩, ui, y5, y6⟩ := a10.2 (by omega)
    have hVL := a10.vld (by omega)
    obtain ⟨nm, hnm⟩ := nm_ex (K := tkK (fe N) (ne N)) (V := tkV (fe N) (ne N)) y3
    have nW : ∀ j i, 38 ≤ j → ¬ wB (1 - b9) j i := fun j i hj z => by have := wB_lx z; omega
    have nX : ∀ j, j = 40 ∨ j = 45 ∨ j = 46 ∨ j = 65 → ¬ lxA j := fun j hj z => by unfold lxA at z; omega
    refine (c_M_compare l D cy A X hst hXT G o Ar Iv F L b9 (1 - b9) n9 N (tkK (fe N) (ne N)) (tkV (fe N) (ne N)) (rdV (fe N) (ne N)) (fun i => fe (i + 1)) (fun i => ne (i + 1)) iv hM a4 (by omega) (by omega) a5 a6 a8 hN20 a9 (fun _ => ⟨y4, hVL, rdV_ls, nt1000g n9 y1, y3⟩)).mono (Nat.le_of_ble_eq_true rfl) (Nat.le_of_ble_eq_true rfl) (Nat.le_of_ble_eq_true rfl) (Nat.le_of_ble_eq_true rfl) (Nat.le_of_ble_eq_true rfl) (Nat.le_of_ble_eq_true rfl) (fun _ _ h => h) ?_
    rintro a s oo t ⟨⟨r, G3, e1, ⟨A2, I2, F2, hA2, hM2, hF2, hI, -, hFr⟩, e3⟩, e4⟩
    have hV2 : V o ∧ ∀ k, mdR k = true → V (A2 k) := ⟨hV.1, fun k hk => by
      rcases hA2 with z | z
      · rw [z]; exact hV.2 k hk
      · rw [z, va_up_ne _ _ (fun y => by rw [y] at hk; exact absurd hk (by decide))]; exact hV.2 k hk⟩
    have hF1 : ∀ j, j = 40 ∨ j = 45 ∨ j = 46 ∨ j = 65 → F2 j = F j := fun j hj => funext (fun i => hFr j i (nX j hj) (nW j i (by omega)))
    exact ⟨⟨r, G3, e1, ⟨⟨A2, _, _, _, b9, ln, sl, hM2, hV2, (hS.iv (fun j h1 h2 => hI j (by omega) h2)).fv (hF1 40 (by decide)) (hF1 45 (by decide)) (hF1 46 (by decide)) (hF1 65 (by decide)) (fun k i z => hFr k i (wB_ne a4 (show 1 - b9 < 2 by omega) (by omega) z).2 (wB_ne a4 (show 1 - b9 < 2 by omega) (by omega) z).1)⟩, FRV.of hM2 hF2 hV2⟩, e3⟩, e4⟩

set_option maxHeartbeats 4000000 in
theorem m_read (l : Launch) (D : va_G) (cy : Nat → ClassId) (A : Nat → Prop) (X : State → Prop) (hst : mk_St A X) (hXT : ∀ U : State, X U → TB U) (G : Nat → Option va_E) (V : Nat → Prop) (o tn : Nat) (ft : Nat → Int32) (N : Nat) (fe : Nat → Nat → Int32) (ne : Nat → Nat) (hR : RST cy V G o tn ft N fe ne) (hN20 : N < 2 ^ 20)  : Met l yX14_read [.code yX14_read cX14_read 4 (some .int)] ({ frames := 12, cells := 0, slots := 0, locals := 360 }) (mk_Pre D vwCl (tyL cy) A X G [.ref o]) (va_Qi (fun (r : Int32) (G2 : Nat → Option va_E) => r = rdA ft tn ∧ (rdP ft tn < 0 → RST cy V G2 o 0 ft (N + 1) (kup fe (N + 1) ft) (kup ne (N + 1) tn)) ∧ (¬ rdP ft tn < 0 → RST cy V G2 o 0 ft N fe ne) ∧ FRV V G G2) (mk_B D vwCl A) A) 0 0 A := by
  obtain ⟨Ar, Iv, F, L, b9, ln, sl, hM, hV, hS⟩ := hR
  obtain ⟨a1, a2, a3, a4, a5, a6, a7, a8, a9, a10, a11, a12, a13, a14, a15, a16⟩ := id hS
  have nW : ∀ j i, 38 ≤ j → ¬ wB (1 - b9) j i := fun j i hj z => by have := wB_lx z; omega
  have nX : ∀ j, j = 40 ∨ j = 45 ∨ j = 46 ∨ j = 65 → ¬ lxA j := fun j hj z => by unfold lxA at z; omega
  refine (c_M_read l D cy A X hst hXT G o Ar Iv F L ft tn (1 - b9) N hM a2 (by omega) a1 a6 a8 hN20 a3).mono (Nat.le_of_ble_eq_true rfl) (Nat.le_of_ble_eq_true rfl) (Nat.le_of_ble_eq_true rfl) (Nat.le_of_ble_eq_true rfl) (Nat.le_of_ble_eq_true rfl) (Nat.le_of_ble_eq_true rfl) (fun _ _ h => h) ?_
  rintro a s oo t ⟨⟨r, G3, e1, ⟨hr, A2, I2, F2, L2, hA2, hM2, hF2, hf9, hs9⟩, e3⟩, e4⟩
  have hV2 : V o ∧ ∀ k, mdR k = true → V (A2 k) := ⟨hV.1, fun k hk => by rw [hA2, va_up_ne _ _ (fun y => by rw [y] at hk; exact absurd hk (by decide))]; exact hV.2 k hk⟩
  refine ⟨⟨r, G3, e1, ⟨hr, fun hp => ?_, fun hp => ?_, FRV.of hM2 hF2 hV2⟩, e3⟩, e4⟩
  · obtain ⟨v9, hv9, ⟨b1, b2, b3, b4, b5, b6, b7, b8, ⟨n9, b9a, b9b⟩, b10, b11, b12⟩, h69, -⟩ := hs9 hp
    have hv : v9 = rdV ft tn := hv9
    rw [hv] at b9b h69
    refine ⟨A2, I2, F2, L2, 1 - b9, ln, sl, hM2, hV2, b3, by omega, fun i hi => absurd hi (Nat.not_lt_zero i), by omega, b5, b4, by rw [b6, if_neg (by omega)], b7, fun i i1 i2 => ?_, ⟨fun z => by omega, fun _ => ?_⟩, a11, (b1 66 (by decide) (by decide) (by decide) (by decide)).trans a12, fun i => ?_, a14, (b1 68 (by decide) (by decide) (by decide) (by decide)).trans a15, by rw [b8]; decide⟩
    · show F2 45 i = nI (kup ne (N + 1) tn (i + 1)) ∧ kup ne (N + 1) tn (i + 1) ≤ 2000 ∧ (∀ k, k < kup ne (N + 1) tn (i + 1) → chr (F2 46 (2000 * i + k)) (kup fe (N + 1) ft (i + 1) k)) ∧ rdP (kup fe (N + 1) ft (i + 1)) (kup ne (N + 1) tn (i + 1)) < 0
      by_cases z : i = N
      · rw [z, kup_eq, kup_eq]
        refine ⟨by rw [b11, if_pos ⟨by omega, rfl⟩], a2, fun k hk => ?_, hp⟩
        rw [b12, if_pos ⟨by omega, by omega, by omega⟩, show 2000 * N + k - 2000 * N = k by omega]
        exact a3 k hk
      · rw [kup_ne (show i + 1 ≠ N + 1 by omega), kup_ne (show i + 1 ≠ N + 1 by omega)]
        obtain ⟨k1, k2, k3, k4⟩ := a9 i (by omega) i2
        refine ⟨by rw [b11, if_neg (by omega)]; exact k1, k2, fun k hk => ?_, k4⟩
        have hk2 : k < 2000 := Nat.lt_of_lt_of_le hk k2
        rw [b12, if_neg (by omega)]
        exact k3 k hk
    · rw [kup_eq, kup_eq]
      refine ⟨a2, hp, ⟨n9, b9a, b9b⟩, if 0 < (rdV ft tn).nL then some 0 else none, ?_, fun k hk => ?_⟩
      · rw [h69]
        split <;> rfl
      · split at hk
        · cases hk; assumption
        · cases hk
    · rw [b10 65 i (nX 65 (by decide)) (nW 65 i (by decide)) (by decide) (by decide) (by decide)]; exact a13 i
  · obtain ⟨⟨b1, b2, b3, b4⟩, -, b5, b6⟩ := hf9 hp
    have h63 : I2 63 ≤ nI 6 := by
      cases hg : (rdG ft tn).2 with
      | none => rw [b5 hg]; decide
      | some l9 =>
        obtain ⟨m9, m1, m2, m3, -⟩ := b6 l9 hg
        rw [m3]; exact nI_le m2 (by decide)
    have hF1 : ∀ j, j = 40 ∨ j = 45 ∨ j = 46 ∨ j = 65 → F2 j = F j := fun j hj => funext (fun i => b4 j i (nX j hj) (nW j i (by omega)) (by omega))
    have hI : ∀ j, 41 ≤ j → ¬ (48 ≤ j ∧ j ≤ 58) → ¬ j = 63 → I2 j = Iv j := fun j h1 h2 h3 => b1 j (by omega) h2 h3
    have hB : ∀ k i, wB b9 k i → F2 k i = F k i := fun k i z => by have := wB_lx z; exact b4 k i (wB_ne a4 (show 1 - b9 < 2 by omega) (by omega) z).2 (wB_ne a4 (show 1 - b9 < 2 by omega) (by omega) z).1 (by omega)
    refine ⟨A2, I2, F2, L2, b9, ln, sl, hM2, hV2, b3, by omega, fun i hi => absurd hi (Nat.not_lt_zero i), a4, (hI 42 (by decide) (by decide) (by decide)).trans a5, (hI 41 (by decide) (by decide) (by decide)).trans a6, (hI 43 (by decide) (by decide) (by decide)).trans a7, (hI 44 (by decide) (by decide) (by decide)).trans a8, fun i i1 i2 => ?_, ⟨fun z => ?_, fun z => ?_⟩, a11, (hI 66 (by decide) (by decide) (by decide)).trans a12, by rw [hF1 65 (by decide)]; exact a13, a14, (hI 68 (by decide) (by decide) (by decide)).trans a15, h63⟩
    · rw [hF1 45 (by decide), hF1 46 (by decide)]; exact a9 i i1 i2
    · rw [hB 4 b9 (Or.inl ⟨by decide, by decide, rfl⟩)]; exact a10.1 z
    · obtain ⟨y1, y2, ⟨n9, y3, y4⟩, ui, y5, y6⟩ := a10.2 z
      exact ⟨y1, y2, ⟨n9, y3, y4.fr hB⟩, ui, (hI 69 (by decide) (by decide) (by decide)).trans y5, y6⟩
