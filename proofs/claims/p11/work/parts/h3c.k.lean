set_option maxHeartbeats 4000000 in
theorem k2_sign (l : Launch) (D : va_G) (cy : Nat → ClassId) (A : Nat → Prop) (X : State → Prop) (hst : mk_St A X) (hXT : ∀ U : State, X U → TB U) (e0 : Nat) (tk : Nat → Nat) (hXE : ∀ U : State, X U → ES e0 tk A U) (mi : Nat) (hXL : ∀ U : State, X U → EL e0 mi A U) (ax adK adV : Nat → Nat) (hXX : ∀ U : State, X U → TX ax adK adV tk A U) (G : Nat → Option va_E) (W : Nat → Prop) (o tn : Nat) (ft : Nat → Int32) (N : Nat) (fe : Nat → Nat → Int32) (ne : Nat → Nat) (ui : Option Nat) (lf : Nat → Int32) (lt ln : Nat) (fo : Nat → Int32) (hC : CSU cy e0 tk W G o tn ft N fe ne ui lf lt ln fo) (cv : Int32) (tn2 : Nat) (ft2 : Nat → Int32) (hl2 : tn2 ≤ 2000) (hfin : sg_n cv 4 24 (nI tn, ft) = (nI tn2, ft2)) : Met l yX13_sign [.code yX13_sign cX13_sign 4 none] ({ frames := 12, cells := 0, slots := 0, locals := 360 }) (mk_Pre D vwCl (tyL cy) A X G [.ref o, .int cv]) (va_Qv (fun (G2 : Nat → Option va_E) => CSU cy e0 tk W G2 o tn2 ft2 N fe ne ui lf lt ln fo ∧ KPW W G G2) (mk_B D vwCl A) A) 0 0 A := by
  obtain ⟨tag, M, ge, gn, ea, ra, eu, gi, tx, rd, to, se, kp, ow, k, ks, ss, vs, ro, rs, sl, kf, sf, h1, h2, h3, h4, h5, h6⟩ := id hC
  have htn := h1.2.2.2.2.2.2.2.2.2.2.2.2.1
  refine (c_X13_sign l D cy A X hst hXT G o tx rd to se kp _ _ (nI tn) _ cv (nI tn2) ft ft2 h1.1 h1.2.2.1 (nI_pos (by omega)) hfin).mono (Nat.le_of_ble_eq_true rfl) (Nat.le_of_ble_eq_true rfl) (Nat.le_of_ble_eq_true rfl) (Nat.le_of_ble_eq_true rfl) (Nat.le_of_ble_eq_true rfl) (Nat.le_of_ble_eq_true rfl) (fun _ _ h => h) ?_
  rintro a s oo t ⟨⟨G3, e1, ⟨b1, b2, -, b4⟩, e3⟩, e4⟩
  have t1 : tag o = 0 := h1.2.2.2.2.2.2.2.2.2.2.2.2.2.2.1
  have t2 : tag tx = 0 := h1.2.2.2.2.2.2.2.2.2.2.2.2.2.2.2.1
  have hw : KPW W G G3 := fun x e w z => b4 x e z (fun y => by rw [y] at w; have := (h3 _ w).1; omega) (fun y => by rw [y] at w; have := (h3 _ w).1; omega)
  refine ⟨⟨G3, e1, ⟨⟨tag, M, ge, gn, ea, ra, eu, gi, tx, rd, to, se, kp, ow, k, ks, ss, vs, ro, rs, sl, kf, sf, h1.tx b1 b2 hl2 b4, h2.mv (fun x e tg z => b4 x e z (fun y => by rw [y] at tg; omega) (fun y => by rw [y] at tg; omega)), fun x w => ⟨(h3 x w).1, ?_⟩, h4, h5, h6⟩, hw⟩, e3⟩, e4⟩
  obtain ⟨e, he⟩ := (h3 x w).2
  exact ⟨e, hw x e w he⟩

set_option maxHeartbeats 4000000 in
theorem k2_octet (l : Launch) (D : va_G) (cy : Nat → ClassId) (A : Nat → Prop) (X : State → Prop) (hst : mk_St A X) (hXT : ∀ U : State, X U → TB U) (e0 : Nat) (tk : Nat → Nat) (hXE : ∀ U : State, X U → ES e0 tk A U) (mi : Nat) (hXL : ∀ U : State, X U → EL e0 mi A U) (ax adK adV : Nat → Nat) (hXX : ∀ U : State, X U → TX ax adK adV tk A U) (G : Nat → Option va_E) (W : Nat → Prop) (o tn : Nat) (ft : Nat → Int32) (N : Nat) (fe : Nat → Nat → Int32) (ne : Nat → Nat) (ui : Option Nat) (lf : Nat → Int32) (lt ln : Nat) (fo : Nat → Int32) (hC : CSU cy e0 tk W G o tn ft N fe ne ui lf lt ln fo) (bv : Int32) : Met l yX13_octet [.code yX13_octet cX13_octet 2 none] ({ frames := 12, cells := 0, slots := 0, locals := 360 }) (mk_Pre D vwCl (tyL cy) A X G [.ref o, .int bv]) (va_Qv (fun (G2 : Nat → Option va_E) => CSU cy e0 tk W G2 o tn ft N fe ne ui lf lt (ocN ln) (ocF ln fo bv) ∧ KPW W G G2) (mk_B D vwCl A) A) 0 0 A := by
  obtain ⟨tag, M, ge, gn, ea, ra, eu, gi, tx, rd, to, se, kp, ow, k, ks, ss, vs, ro, rs, sl, kf, sf, h1, h2, h3, h4, h5, h6⟩ := id hC
  have hln := h1.2.2.2.2.2.2.2.2.2.2.1
  refine (c_X13_octet l D cy A X hst hXT G o tx rd to se kp _ _ (nI tn) _ ro (nI ln) bv fo h1.1 h1.2.2.2.2.1 h1.2.2.2.2.2.1 (nI_pos (by omega)) (nI_le hln (by decide))).mono (Nat.le_of_ble_eq_true rfl) (Nat.le_of_ble_eq_true rfl) (Nat.le_of_ble_eq_true rfl) (Nat.le_of_ble_eq_true rfl) (Nat.le_of_ble_eq_true rfl) (Nat.le_of_ble_eq_true rfl) (fun _ _ h => h) ?_
  rintro a s oo t ⟨⟨G3, e1, ⟨b1, b2, b4⟩, e3⟩, e4⟩
  have t1 : tag to = 0 := h1.2.2.2.2.2.2.2.2.2.2.2.2.2.2.2.2.2.1
  have t2 : tag ro = 0 := h1.2.2.2.2.2.2.2.2.2.2.2.2.2.2.2.2.2.2.2.2.2.2.2.2.2.1
  obtain ⟨em9, ec9, hm9, -⟩ := ocN_ok hln
  rw [em9] at b1
  rw [ec9] at b2
  have hw : KPW W G G3 := fun x e w z => b4 x e z (fun y => by rw [y] at w; have := (h3 _ w).1; omega) (fun y => by rw [y] at w; have := (h3 _ w).1; omega)
  refine ⟨⟨G3, e1, ⟨⟨tag, M, ge, gn, ea, ra, eu, gi, tx, rd, to, se, kp, ow, k, ks, ss, vs, ro, rs, sl, kf, sf, h1.to b1 b2 hm9 (fun x e _ n1 n2 z => b4 x e z n1 n2), h2.mv (fun x e tg z => b4 x e z (fun y => by rw [y] at tg; omega) (fun y => by rw [y] at tg; omega)), fun x w => ⟨(h3 x w).1, ?_⟩, h4, h5, h6⟩, hw⟩, e3⟩, e4⟩
  obtain ⟨e, he⟩ := (h3 x w).2
  exact ⟨e, hw x e w he⟩

set_option maxHeartbeats 4000000 in
theorem k2_service (l : Launch) (D : va_G) (cy : Nat → ClassId) (A : Nat → Prop) (X : State → Prop) (hst : mk_St A X) (hXT : ∀ U : State, X U → TB U) (e0 : Nat) (tk : Nat → Nat) (hXE : ∀ U : State, X U → ES e0 tk A U) (mi : Nat) (hXL : ∀ U : State, X U → EL e0 mi A U) (ax adK adV : Nat → Nat) (hXX : ∀ U : State, X U → TX ax adK adV tk A U) (G : Nat → Option va_E) (W : Nat → Prop) (o tn : Nat) (ft : Nat → Int32) (N : Nat) (fe : Nat → Nat → Int32) (ne : Nat → Nat) (ui : Option Nat) (lf : Nat → Int32) (lt ln : Nat) (fo : Nat → Int32) (hC : CSU cy e0 tk W G o tn ft N fe ne ui lf lt ln fo) (iv wv : Int32) : Met l yX13_service [.code yX13_service cX13_service 4 (some .int)] ({ frames := 12, cells := 0, slots := 0, locals := 360 }) (mk_Pre D vwCl (tyL cy) A X G [.ref o, .int iv, .int wv]) (va_Qi (fun (r : Int32) (G2 : Nat → Option va_E) => r = SVr N (fe N) (ne N) ui iv wv ∧ CSU cy e0 tk W G2 o tn ft N fe ne ui lf lt ln fo ∧ KPW W G G2) (mk_B D vwCl A) A) 0 0 A := by
  obtain ⟨tag, M, ge, gn, ea, ra, eu, gi, tx, rd, to, se, kp, ow, k, ks, ss, vs, ro, rs, sl, kf, sf, h1, h2, h3, h4, h5, h6⟩ := id hC
  by_cases hN : N = 0
  · have h0 := h1.1
    rw [if_pos hN] at h0
    refine (c_X13_service_n l D cy A X hst hXT G o tx rd to se kp _ (nI tn) _ iv wv h0).mono (Nat.le_of_ble_eq_true rfl) (Nat.le_of_ble_eq_true rfl) (Nat.le_of_ble_eq_true rfl) (Nat.le_of_ble_eq_true rfl) (Nat.le_of_ble_eq_true rfl) (Nat.le_of_ble_eq_true rfl) (fun _ _ h => h) ?_
    rintro a s oo t ⟨⟨r, G3, e1, ⟨hr9, hg⟩, e3⟩, e4⟩
    exact ⟨⟨r, G3, e1, ⟨by rw [SVr, if_pos hN]; exact hr9, by rw [hg]; exact hC, by rw [hg]; exact KPW.rf⟩, e3⟩, e4⟩
  · have h0 := h1.1
    rw [if_neg hN] at h0
    obtain ⟨hd9, hp, hn2, hgM⟩ := h2.hand (j := N) (by omega) (Nat.le_refl _)
    rw [h4 hN] at hd9
    obtain ⟨LA, EA, AD, PI, z, na, cap, nv, a1, a2, a3, a4, a5, a6, a7, a8, a9, a10, a11, a12⟩ := hd9
    have hZ := a10 (rd_gd hp)
    have hnm : (fun y => nof (fun j => decide (nv j = y)) (rdN (fe N) (ne N)).1) = NMf (fe N) (ne N) := funext (fun y => nof_cg (fun i hi => by rw [a7 i hi]))
    refine (c_H_service l D cy A X hst hXT e0 tk hXE mi hXL ax adK adV hXX G (fun _ => none) (fun _ => True) (rdV (fe N) (ne N)) z LA EA AD PI (ea (gi N)) na (rdN (fe N) (ne N)).1 cap nv ui (rdG (fe N) (ne N)) o tx rd to se kp _ (nI tn) _ iv wv h0 a1 hZ a3 a4 a5 a6 a9).mono (Nat.le_of_ble_eq_true rfl) (Nat.le_of_ble_eq_true rfl) (Nat.le_of_ble_eq_true rfl) (Nat.le_of_ble_eq_true rfl) (Nat.le_of_ble_eq_true rfl) (Nat.le_of_ble_eq_true rfl) (fun _ _ h => h) ?_
    rintro a s oo t ⟨⟨r, G3, e1, ⟨hr9, hg⟩, e3⟩, e4⟩
    exact ⟨⟨r, G3, e1, ⟨by rw [SVr, if_neg hN, ← hnm]; exact hr9, by rw [hg]; exact hC, by rw [hg]; exact KPW.rf⟩, e3⟩, e4⟩

set_option maxHeartbeats 4000000 in
theorem k2_parameter (l : Launch) (D : va_G) (cy : Nat → ClassId) (A : Nat → Prop) (X : State → Prop) (hst : mk_St A X) (hXT : ∀ U : State, X U → TB U) (e0 : Nat) (tk : Nat → Nat) (hXE : ∀ U : State, X U → ES e0 tk A U) (mi : Nat) (hXL : ∀ U : State, X U → EL e0 mi A U) (ax adK adV : Nat → Nat) (hXX : ∀ U : State, X U → TX ax adK adV tk A U) (G : Nat → Option va_E) (W : Nat → Prop) (o tn : Nat) (ft : Nat → Int32) (N : Nat) (fe : Nat → Nat → Int32) (ne : Nat → Nat) (ui : Option Nat) (lf : Nat → Int32) (lt ln : Nat) (fo : Nat → Int32) (hC : CSU cy e0 tk W G o tn ft N fe ne ui lf lt ln fo) (iv jv wv : Int32) : Met l yX13_parameter [.code yX13_parameter cX13_parameter 5 (some .int)] ({ frames := 12, cells := 0, slots := 0, locals := 360 }) (mk_Pre D vwCl (tyL cy) A X G [.ref o, .int iv, .int jv, .int wv]) (va_Qi (fun (r : Int32) (G2 : Nat → Option va_E) => r = PAr N (fe N) (ne N) iv jv wv ∧ CSU cy e0 tk W G2 o tn ft N fe ne ui lf lt ln fo ∧ KPW W G G2) (mk_B D vwCl A) A) 0 0 A := by
  obtain ⟨tag, M, ge, gn, ea, ra, eu, gi, tx, rd, to, se, kp, ow, k, ks, ss, vs, ro, rs, sl, kf, sf, h1, h2, h3, h4, h5, h6⟩ := id hC
  by_cases hN : N = 0
  · have h0 := h1.1
    rw [if_pos hN] at h0
    refine (c_X13_parameter_n l D cy A X hst hXT G o tx rd to se kp _ (nI tn) _ iv jv wv h0).mono (Nat.le_of_ble_eq_true rfl) (Nat.le_of_ble_eq_true rfl) (Nat.le_of_ble_eq_true rfl) (Nat.le_of_ble_eq_true rfl) (Nat.le_of_ble_eq_true rfl) (Nat.le_of_ble_eq_true rfl) (fun _ _ h => h) ?_
    rintro a s oo t ⟨⟨r, G3, e1, ⟨hr9, hg⟩, e3⟩, e4⟩
    exact ⟨⟨r, G3, e1, ⟨by rw [PAr, if_pos hN]; exact hr9, by rw [hg]; exact hC, by rw [hg]; exact KPW.rf⟩, e3⟩, e4⟩
  · have h0 := h1.1
    rw [if_neg hN] at h0
    obtain ⟨hd9, hp, hn2, hgM⟩ := h2.hand (j := N) (by omega) (Nat.le_refl _)
    rw [h4 hN] at hd9
    obtain ⟨LA, EA, AD, PI, z, na, cap, nv, a1, a2, a3, a4, a5, a6, a7, a8, a9, a10, a11, a12⟩ := hd9
    have hZ := a10 (rd_gd hp)
    have hnm : (fun y => nof (fun j => decide (nv j = y)) (rdN (fe N) (ne N)).1) = NMf (fe N) (ne N) := funext (fun y => nof_cg (fun i hi => by rw [a7 i hi]))
    refine (c_H_parameter l D cy A X hst hXT e0 tk hXE mi hXL ax adK adV hXX G (fun _ => none) (fun _ => True) (rdV (fe N) (ne N)) z LA EA AD PI (ea (gi N)) na (rdN (fe N) (ne N)).1 cap nv ui (rdG (fe N) (ne N)) o tx rd to se kp _ (nI tn) _ iv jv wv h0 a1 hZ a3 a4 a5 a6 a9).mono (Nat.le_of_ble_eq_true rfl) (Nat.le_of_ble_eq_true rfl) (Nat.le_of_ble_eq_true rfl) (Nat.le_of_ble_eq_true rfl) (Nat.le_of_ble_eq_true rfl) (Nat.le_of_ble_eq_true rfl) (fun _ _ h => h) ?_
    rintro a s oo t ⟨⟨r, G3, e1, ⟨hr9, hg⟩, e3⟩, e4⟩
    exact ⟨⟨r, G3, e1, ⟨by rw [PAr, if_neg hN, ← hnm]; exact hr9, by rw [hg]; exact hC, by rw [hg]; exact KPW.rf⟩, e3⟩, e4⟩

set_option maxHeartbeats 4000000 in
theorem k2_code (l : Launch) (D : va_G) (cy : Nat → ClassId) (A : Nat → Prop) (X : State → Prop) (hst : mk_St A X) (hXT : ∀ U : State, X U → TB U) (e0 : Nat) (tk : Nat → Nat) (hXE : ∀ U : State, X U → ES e0 tk A U) (mi : Nat) (hXL : ∀ U : State, X U → EL e0 mi A U) (ax adK adV : Nat → Nat) (hXX : ∀ U : State, X U → TX ax adK adV tk A U) (G : Nat → Option va_E) (W : Nat → Prop) (o tn : Nat) (ft : Nat → Int32) (N : Nat) (fe : Nat → Nat → Int32) (ne : Nat → Nat) (ui : Option Nat) (lf : Nat → Int32) (lt ln : Nat) (fo : Nat → Int32) (hC : CSU cy e0 tk W G o tn ft N fe ne ui lf lt ln fo) (iv : Int32) : Met l yX13_code [.code yX13_code cX13_code 3 (some .int)] ({ frames := 12, cells := 0, slots := 0, locals := 360 }) (mk_Pre D vwCl (tyL cy) A X G [.ref o, .int iv]) (va_Qi (fun (r : Int32) (G2 : Nat → Option va_E) => r = COr N (fe N) (ne N) iv ∧ CSU cy e0 tk W G2 o tn ft N fe ne ui lf lt ln fo ∧ KPW W G G2) (mk_B D vwCl A) A) 0 0 A := by
  obtain ⟨tag, M, ge, gn, ea, ra, eu, gi, tx, rd, to, se, kp, ow, k, ks, ss, vs, ro, rs, sl, kf, sf, h1, h2, h3, h4, h5, h6⟩ := id hC
  by_cases hN : N = 0
  · have h0 := h1.1
    rw [if_pos hN] at h0
    refine (c_X13_code_n l D cy A X hst hXT G o tx rd to se kp _ (nI tn) _ iv h0).mono (Nat.le_of_ble_eq_true rfl) (Nat.le_of_ble_eq_true rfl) (Nat.le_of_ble_eq_true rfl) (Nat.le_of_ble_eq_true rfl) (Nat.le_of_ble_eq_true rfl) (Nat.le_of_ble_eq_true rfl) (fun _ _ h => h) ?_
    rintro a s oo t ⟨⟨r, G3, e1, ⟨hr9, hg⟩, e3⟩, e4⟩
    exact ⟨⟨r, G3, e1, ⟨by rw [COr, if_pos hN]; exact hr9, by rw [hg]; exact hC, by rw [hg]; exact KPW.rf⟩, e3⟩, e4⟩
  · have h0 := h1.1
    rw [if_neg hN] at h0
    obtain ⟨hd9, hp, hn2, hgM⟩ := h2.hand (j := N) (by omega) (Nat.le_refl _)
    rw [h4 hN] at hd9
    obtain ⟨LA, EA, AD, PI, z, na, cap, nv, a1, a2, a3, a4, a5, a6, a7, a8, a9, a10, a11, a12⟩ := hd9
    have hZ := a10 (rd_gd hp)
    have hnm : (fun y => nof (fun j => decide (nv j = y)) (rdN (fe N) (ne N)).1) = NMf (fe N) (ne N) := funext (fun y => nof_cg (fun i hi => by rw [a7 i hi]))
    refine (c_H_code l D cy A X hst hXT e0 tk hXE mi hXL ax adK adV hXX G (fun _ => none) (fun _ => True) (rdV (fe N) (ne N)) z LA EA AD PI (ea (gi N)) na (rdN (fe N) (ne N)).1 cap nv ui (rdG (fe N) (ne N)) o tx rd to se kp _ (nI tn) _ iv h0 a1 hZ a3 a4 a5 a6 a9).mono (Nat.le_of_ble_eq_true rfl) (Nat.le_of_ble_eq_true rfl) (Nat.le_of_ble_eq_true rfl) (Nat.le_of_ble_eq_true rfl) (Nat.le_of_ble_eq_true rfl) (Nat.le_of_ble_eq_true rfl) (fun _ _ h => h) ?_
    rintro a s oo t ⟨⟨r, G3, e1, ⟨hr9, hg⟩, e3⟩, e4⟩
    exact ⟨⟨r, G3, e1, ⟨by rw [COr, if_neg hN, ← hnm]; exact hr9, by rw [hg]; exact hC, by rw [hg]; exact KPW.rf⟩, e3⟩, e4⟩

set_option maxHeartbeats 4000000 in
theorem k2_ring (l : Launch) (D : va_G) (cy : Nat → ClassId) (A : Nat → Prop) (X : State → Prop) (hst : mk_St A X) (hXT : ∀ U : State, X U → TB U) (e0 : Nat) (tk : Nat → Nat) (hXE : ∀ U : State, X U → ES e0 tk A U) (mi : Nat) (hXL : ∀ U : State, X U → EL e0 mi A U) (ax adK adV : Nat → Nat) (hXX : ∀ U : State, X U → TX ax adK adV tk A U) (G : Nat → Option va_E) (W : Nat → Prop) (o tn : Nat) (ft : Nat → Int32) (N : Nat) (fe : Nat → Nat → Int32) (ne : Nat → Nat) (ui : Option Nat) (lf : Nat → Int32) (lt ln : Nat) (fo : Nat → Int32) (hC : CSU cy e0 tk W G o tn ft N fe ne ui lf lt ln fo) (iv : Int32) : Met l yX13_ring [.code yX13_ring cX13_ring 4 (some .int)] ({ frames := 12, cells := 0, slots := 0, locals := 360 }) (mk_Pre D vwCl (tyL cy) A X G [.ref o, .int iv]) (va_Qi (fun (r : Int32) (G2 : Nat → Option va_E) => r = RGr lf lt iv ∧ CSU cy e0 tk W G2 o tn ft N fe ne ui lf lt ln fo ∧ KPW W G G2) (mk_B D vwCl A) A) 0 0 A := by
  obtain ⟨tag, M, ge, gn, ea, ra, eu, gi, tx, rd, to, se, kp, ow, k, ks, ss, vs, ro, rs, sl, kf, sf, h1, h2, h3, h4, h5, h6⟩ := id hC
  have h0 := h1.1
  have hrg : ∀ M9 : ¬ M = 0, ra (M - 1) = none → (rdG lf lt).2 = none := fun M9 hr => by
    obtain ⟨-, LA, EA, AD, PI, z, na, cap, nv, a1, a2, a3, a4, a5, a6, a7, a8, a9, a10, a11, a12⟩ := h2.1 (M - 1) (by omega)
    rw [hr, (h6 M9).1, (h6 M9).2] at a12
    cases hq : (rdG lf lt).2 with
    | none => rfl
    | some b => rw [hq] at a12; cases a12
  cases hr : (if M = 0 then none else ra (M - 1)) with
  | none =>
    rw [hr] at h0
    refine (c_H_ring0 l D cy A X hst hXT e0 tk hXE mi hXL ax adK adV hXX G (fun _ => none) (fun _ => True) EdV.nil PtV.nil (fun x => x) (fun x => x) (fun x => fun y => y) (fun x => x) o tx rd to se kp _ (nI tn) _ iv h0).mono (Nat.le_of_ble_eq_true rfl) (Nat.le_of_ble_eq_true rfl) (Nat.le_of_ble_eq_true rfl) (Nat.le_of_ble_eq_true rfl) (Nat.le_of_ble_eq_true rfl) (Nat.le_of_ble_eq_true rfl) (fun _ _ h => h) ?_
    rintro a s oo t ⟨⟨r, G3, e1, ⟨hr9, hg⟩, e3⟩, e4⟩
    exact ⟨⟨r, G3, e1, ⟨(by have hz : (rdG lf lt).2 = none := (by by_cases hM : M = 0; exact h5 hM; rw [if_neg hM] at hr; exact hrg hM hr); rw [RGr, hz]; exact hr9), by rw [hg]; exact hC, by rw [hg]; exact KPW.rf⟩, e3⟩, e4⟩
  | some b =>
    rw [hr] at h0
    by_cases hM : M = 0
    · rw [if_pos hM] at hr; cases hr
    rw [if_neg hM] at hr
    obtain ⟨hn2, LA, EA, AD, PI, z, na, cap, nv, a1, a2, a3, a4, a5, a6, a7, a8, a9, a10, a11, a12⟩ := h2.1 (M - 1) (by omega)
    rw [hr, (h6 hM).1, (h6 hM).2] at a12
    rw [(h6 hM).1, (h6 hM).2] at a1 a10
    cases hg9 : (rdG lf lt).2 with
    | none => rw [hg9] at a12; cases a12
    | some b9 =>
      rw [hg9] at a12
      obtain ⟨hb1, hb2⟩ := rdG_lt hg9
      have hb := Option.some.inj a12
      rw [hb] at h0
      refine (c_H_ring l D cy A X hst hXT e0 tk hXE mi hXL ax adK adV hXX G (fun _ => none) (fun _ => True) (rdV lf lt) z LA EA AD PI o tx rd to se kp _ (nI tn) _ b9 iv h0 a1 (a10 hb2).1 hb1).mono (Nat.le_of_ble_eq_true rfl) (Nat.le_of_ble_eq_true rfl) (Nat.le_of_ble_eq_true rfl) (Nat.le_of_ble_eq_true rfl) (Nat.le_of_ble_eq_true rfl) (Nat.le_of_ble_eq_true rfl) (fun _ _ h => h) ?_
      rintro a s oo t ⟨⟨r, G3, e1, ⟨hr9, hg⟩, e3⟩, e4⟩
      exact ⟨⟨r, G3, e1, ⟨(by rw [RGr, hg9]; exact hr9), by rw [hg]; exact hC, by rw [hg]; exact KPW.rf⟩, e3⟩, e4⟩

set_option maxHeartbeats 4000000 in
theorem k2_variant (l : Launch) (D : va_G) (cy : Nat → ClassId) (A : Nat → Prop) (X : State → Prop) (hst : mk_St A X) (hXT : ∀ U : State, X U → TB U) (e0 : Nat) (tk : Nat → Nat) (hXE : ∀ U : State, X U → ES e0 tk A U) (mi : Nat) (hXL : ∀ U : State, X U → EL e0 mi A U) (ax adK adV : Nat → Nat) (hXX : ∀ U : State, X U → TX ax adK adV tk A U) (G : Nat → Option va_E) (W : Nat → Prop) (o tn : Nat) (ft : Nat → Int32) (N : Nat) (fe : Nat → Nat → Int32) (ne : Nat → Nat) (ui : Option Nat) (lf : Nat → Int32) (lt ln : Nat) (fo : Nat → Int32) (hC : CSU cy e0 tk W G o tn ft N fe ne ui lf lt ln fo) (iv : Int32) : Met l yX13_variant [.code yX13_variant cX13_variant 2 (some .int)] ({ frames := 12, cells := 0, slots := 0, locals := 360 }) (mk_Pre D vwCl (tyL cy) A X G [.ref o, .int iv]) (va_Qi (fun (r : Int32) (G2 : Nat → Option va_E) => r = VAr N (fe N) (ne N) iv ∧ CSU cy e0 tk W G2 o tn ft N fe ne (VAu N (fe N) (ne N) ui iv) lf lt ln fo ∧ KPW W G G2) (mk_B D vwCl A) A) 0 0 A := by
  obtain ⟨tag, M, ge, gn, ea, ra, eu, gi, tx, rd, to, se, kp, ow, k, ks, ss, vs, ro, rs, sl, kf, sf, h1, h2, h3, h4, h5, h6⟩ := id hC
  by_cases hN : N = 0
  · have h0 := h1.1
    rw [if_pos hN] at h0
    refine (c_X13_variant_n l D cy A X hst hXT G o tx rd to se kp _ (nI tn) _ iv h0).mono (Nat.le_of_ble_eq_true rfl) (Nat.le_of_ble_eq_true rfl) (Nat.le_of_ble_eq_true rfl) (Nat.le_of_ble_eq_true rfl) (Nat.le_of_ble_eq_true rfl) (Nat.le_of_ble_eq_true rfl) (fun _ _ h => h) ?_
    rintro a s oo t ⟨⟨r, G3, e1, ⟨hr9, hg⟩, e3⟩, e4⟩
    exact ⟨⟨r, G3, e1, ⟨by rw [VAr, if_pos hN]; exact hr9, by rw [hg, VAu, if_pos hN]; exact hC, by rw [hg]; exact KPW.rf⟩, e3⟩, e4⟩
  · have h0 := h1.1
    rw [if_neg hN] at h0
    obtain ⟨hd9, hp, hn2, hgM⟩ := h2.hand (j := N) (by omega) (Nat.le_refl _)
    rw [h4 hN] at hd9
    obtain ⟨LA, EA, AD, PI, z, na, cap, nv, a1, a2, a3, a4, a5, a6, a7, a8, a9, a10, a11, a12⟩ := hd9
    have hZ := a10 (rd_gd hp)
    have hnm : (fun y => nof (fun j => decide (nv j = y)) (rdN (fe N) (ne N)).1) = NMf (fe N) (ne N) := funext (fun y => nof_cg (fun i hi => by rw [a7 i hi]))
    refine (c_H_variant l D cy A X hst hXT e0 tk hXE mi hXL ax adK adV hXX G (fun _ => none) (fun _ => True) (rdV (fe N) (ne N)) z LA EA AD PI (ea (gi N)) na (rdN (fe N) (ne N)).1 cap nv ui (rdG (fe N) (ne N)) o tx rd to se kp _ (nI tn) _ iv h0 a1 hZ a3 a4 a5 a6 a9).mono (Nat.le_of_ble_eq_true rfl) (Nat.le_of_ble_eq_true rfl) (Nat.le_of_ble_eq_true rfl) (Nat.le_of_ble_eq_true rfl) (Nat.le_of_ble_eq_true rfl) (Nat.le_of_ble_eq_true rfl) (fun _ _ h => h) ?_
    rintro a s oo t ⟨⟨r, G3, e1, ⟨hr9, hg⟩, e3⟩, e4⟩
    obtain ⟨w1, w2, w3, w4⟩ := a1.oW (Or.inr rfl) a3
    have hfr : ∀ x e, G x = some e → x ≠ ea (gi N) → G3 x = some e := fun x e y1 y2 => by rw [hg]; exact mm_set_of y1 y2
    have hE : EDy cy e0 tk (fun x => tag x = gi N + 2) G3 (fe N) (ne N) (ea (gi N)) (ra (gi N)) (lyA (rdV (fe N) (ne N)) iv) := ⟨LA, EA, AD, PI, z, na, cap, nv, a1.mvG (fun x => x = ea (gi N)) (fun _ _ => trivial) w1 w2 w3 w4 (fun x hx => by rw [hx, hg]; exact ⟨_, mm_set_self⟩) hfr, a2, by rw [hg]; exact mm_set_self, hfr _ _ a4 (mm_ne_ao a4 a3), a5, a6, a7, a8, fun k hk => lyA_lt hk, a10, a11, a12⟩
    have tE : tag (ea (gi N)) = gi N + 2 := a2.2.2.2.2.1
    have tS : tag se = 0 := h1.2.2.2.2.2.2.2.2.2.2.2.2.2.2.2.2.2.2.1
    have tR : tag rs = 0 := h1.2.2.2.2.2.2.2.2.2.2.2.2.2.2.2.2.2.2.2.2.2.2.2.2.2.2
    exact ⟨⟨r, G3, e1, ⟨by rw [VAr, if_neg hN]; exact hr9, by rw [VAu, if_neg hN]; exact CSU.cl h1 h2 h3 h5 h6 hN hE (hfr _ _ h1.2.2.2.2.2.2.1 (fun y => by rw [y] at tS; omega)) (hfr _ _ h1.2.2.2.2.2.2.2.1 (fun y => by rw [y] at tR; omega)) h1.2.2.2.2.2.2.2.2.2.2.2.1 (fun x e n1 n2 n3 y => hfr x e y (fun y2 => n1 (by rw [y2]; exact tE)))⟩, e3⟩, e4⟩

set_option maxHeartbeats 4000000 in
theorem k2_decode (l : Launch) (D : va_G) (cy : Nat → ClassId) (A : Nat → Prop) (X : State → Prop) (hst : mk_St A X) (hXT : ∀ U : State, X U → TB U) (e0 : Nat) (tk : Nat → Nat) (hXE : ∀ U : State, X U → ES e0 tk A U) (mi : Nat) (hXL : ∀ U : State, X U → EL e0 mi A U) (ax adK adV : Nat → Nat) (hXX : ∀ U : State, X U → TX ax adK adV tk A U) (G : Nat → Option va_E) (W : Nat → Prop) (o tn : Nat) (ft : Nat → Int32) (N : Nat) (fe : Nat → Nat → Int32) (ne : Nat → Nat) (ui : Option Nat) (lf : Nat → Int32) (lt ln : Nat) (fo : Nat → Int32) (hC : CSU cy e0 tk W G o tn ft N fe ne ui lf lt ln fo) (iv jv wv : Int32) : Met l yX13_decode [.code yX13_decode cX13_decode 6 (some .long)] ({ frames := 12, cells := 0, slots := 0, locals := 360 }) (mk_Pre D vwCl (tyL cy) A X G [.ref o, .int iv, .int jv, .int wv]) (va_Ql (fun (r : Int64) (G2 : Nat → Option va_E) => ∃ P : Nat → PdT, r = DCr N (fe N) (ne N) ln fo P iv jv wv ∧ CSU cy e0 tk W G2 o tn ft N fe ne ui lf lt ln fo ∧ KPW W G G2) (mk_B D vwCl A) A) 0 0 A := by
  obtain ⟨tag, M, ge, gn, ea, ra, eu, gi, tx, rd, to, se, kp, ow, k, ks, ss, vs, ro, rs, sl, kf, sf, h1, h2, h3, h4, h5, h6⟩ := id hC
  by_cases hN : N = 0
  · have h0 := h1.1
    rw [if_pos hN] at h0
    refine (c_X13_decode_n l D cy A X hst hXT G o tx rd to se kp _ (nI tn) _ iv jv wv h0).mono (Nat.le_of_ble_eq_true rfl) (Nat.le_of_ble_eq_true rfl) (Nat.le_of_ble_eq_true rfl) (Nat.le_of_ble_eq_true rfl) (Nat.le_of_ble_eq_true rfl) (Nat.le_of_ble_eq_true rfl) (fun _ _ h => h) ?_
    rintro a s oo t ⟨⟨r, G3, e1, ⟨hr9, hg⟩, e3⟩, e4⟩
    exact ⟨⟨r, G3, e1, ⟨fun _ _ => (0, 0, 0, 0), by rw [DCr, if_pos hN]; exact hr9, by rw [hg]; exact hC, by rw [hg]; exact KPW.rf⟩, e3⟩, e4⟩
  · have h0 := h1.1
    rw [if_neg hN] at h0
    obtain ⟨hd9, hp, hn2, hgM⟩ := h2.hand (j := N) (by omega) (Nat.le_refl _)
    rw [h4 hN] at hd9
    obtain ⟨LA, EA, AD, PI, z, na, cap, nv, a1, a2, a3, a4, a5, a6, a7, a8, a9, a10, a11, a12⟩ := hd9
    have hZ := a10 (rd_gd hp)
    have hnm : (fun y => nof (fun j => decide (nv j = y)) (rdN (fe N) (ne N)).1) = NMf (fe N) (ne N) := funext (fun y => nof_cg (fun i hi => by rw [a7 i hi]))
    refine (c_H_decode l D cy A X hst hXT e0 tk hXE mi hXL ax adK adV hXX G (fun _ => none) (fun _ => True) (rdV (fe N) (ne N)) z LA EA AD PI (ea (gi N)) na (rdN (fe N) (ne N)).1 cap nv ui (rdG (fe N) (ne N)) o tx rd to se kp _ (nI tn) _ iv jv wv ro ln fo h0 a1 hZ a3 a4 a5 a6 a9 rdV_w h1.2.2.2.2.1 h1.2.2.2.2.2.1 h1.2.2.2.2.2.2.2.2.2.2.1).mono (Nat.le_of_ble_eq_true rfl) (Nat.le_of_ble_eq_true rfl) (Nat.le_of_ble_eq_true rfl) (Nat.le_of_ble_eq_true rfl) (Nat.le_of_ble_eq_true rfl) (Nat.le_of_ble_eq_true rfl) (fun _ _ h => h) ?_
    rintro a s oo t ⟨⟨r, G3, e1, hw, e3⟩, e4⟩
    cases hy : spO (rdV (fe N) (ne N)) iv jv with
    | none => rw [hy] at hw; exact ⟨⟨r, G3, e1, ⟨z.pd, by rw [DCr, if_neg hN, hy]; exact hw.1, by rw [hw.2]; exact hC, by rw [hw.2]; exact KPW.rf⟩, e3⟩, e4⟩
    | some y =>
    rw [hy] at hw
    simp only [] at hw
    by_cases hv9 : 0 ≤ wv ∧ wv ≤ 4
    · rw [if_pos hv9] at hw
      obtain ⟨hr9, hP2, hfr⟩ := hw
      rw [hnm] at hr9
      obtain ⟨y1, y2⟩ := spO_lt hy
      have tS : tag se = 0 := h1.2.2.2.2.2.2.2.2.2.2.2.2.2.2.2.2.2.2.1
      have tR : tag rs = 0 := h1.2.2.2.2.2.2.2.2.2.2.2.2.2.2.2.2.2.2.2.2.2.2.2.2.2.2
      obtain ⟨w1, w2, w3, w4⟩ := a1.oW (Or.inr rfl) a3
      have hlv : ∀ c, c < (rdV (fe N) (ne N)).nS → lvV (rdV (fe N) (ne N)) (20 + c) := fun c hc => Or.inr (Or.inr (Or.inl ⟨by omega, by omega⟩))
      have hln9 : ∀ c, c < (rdV (fe N) (ne N)).nS → lnV (rdV (fe N) (ne N)) (20 + c) = (rdV (fe N) (ne N)).nP c := fun c hc => by have hb := a1.b.2.2.1; unfold lnV; rw [if_neg (by omega), if_neg (by omega), if_neg (by omega), if_neg (by omega), if_neg (by omega), if_neg (by omega), if_neg (by omega), if_pos (by omega), show 20 + c - 20 = c by omega]
      have hap : ∀ c i, c < (rdV (fe N) (ne N)).nS → i < (rdV (fe N) (ne N)).nP c → tag (AD (20 + c) i) = gi N + 2 ∧ AD (20 + c) i ≠ ea (gi N) ∧ AD (20 + c) i ≠ na := fun c i hc hi => ⟨a2.2.2.1 _ _ (hlv c hc) (by rw [hln9 c hc]; exact hi), w3 _ _ (hlv c hc) (by rw [hln9 c hc]; exact hi), mm_ne_oa (a1.L.el _ _ (hlv c hc) (by rw [hln9 c hc]; exact hi)) a4⟩
      have hE : EDy cy e0 tk (fun x => tag x = gi N + 2) G3 (fe N) (ne N) (ea (gi N)) (ra (gi N)) ui := ⟨LA, EA, AD, PI, _, na, cap, nv, hP2, a2, hfr _ _ a3 (fun i hi => Ne.symm (hap _ i y1 hi).2.1), hfr _ _ a4 (fun i hi => Ne.symm (hap _ i y1 hi).2.2), a5, a6, a7, a8, a9, fun h => a10 h, a11, a12⟩
      exact ⟨⟨r, G3, e1, ⟨z.pd, by rw [DCr, if_neg hN, hy]; simp only []; rw [if_pos hv9]; exact hr9, CSU.cl h1 h2 h3 h5 h6 hN hE (hfr _ _ h1.2.2.2.2.2.2.1 (fun i hi y => by have := (hap _ i y1 hi).1; rw [← y] at this; omega)) (hfr _ _ h1.2.2.2.2.2.2.2.1 (fun i hi y => by have := (hap _ i y1 hi).1; rw [← y] at this; omega)) h1.2.2.2.2.2.2.2.2.2.2.2.1 (fun x e n1 n2 n3 y => hfr x e y (fun i hi y2 => n1 (by rw [y2]; exact (hap _ i y1 hi).1)))⟩, e3⟩, e4⟩
    · rw [if_neg hv9] at hw; exact ⟨⟨r, G3, e1, ⟨z.pd, by rw [DCr, if_neg hN, hy]; simp only []; rw [if_neg hv9]; exact hw.1, by rw [hw.2]; exact hC, by rw [hw.2]; exact KPW.rf⟩, e3⟩, e4⟩

set_option maxHeartbeats 4000000 in
theorem k2_encode (l : Launch) (D : va_G) (cy : Nat → ClassId) (A : Nat → Prop) (X : State → Prop) (hst : mk_St A X) (hXT : ∀ U : State, X U → TB U) (e0 : Nat) (tk : Nat → Nat) (hXE : ∀ U : State, X U → ES e0 tk A U) (mi : Nat) (hXL : ∀ U : State, X U → EL e0 mi A U) (ax adK adV : Nat → Nat) (hXX : ∀ U : State, X U → TX ax adK adV tk A U) (G : Nat → Option va_E) (W : Nat → Prop) (o tn : Nat) (ft : Nat → Int32) (N : Nat) (fe : Nat → Nat → Int32) (ne : Nat → Nat) (ui : Option Nat) (lf : Nat → Int32) (lt ln : Nat) (fo : Nat → Int32) (hC : CSU cy e0 tk W G o tn ft N fe ne ui lf lt ln fo) (iv jv : Int32) (xv : Int64) : Met l yX13_encode [.code yX13_encode cX13_encode 9 (some .int)] ({ frames := 12, cells := 0, slots := 0, locals := 360 }) (mk_Pre D vwCl (tyL cy) A X G [.ref o, .int iv, .int jv, .long xv]) (va_Qi (fun (r : Int32) (G2 : Nat → Option va_E) => r = ENr N (fe N) (ne N) iv jv xv ∧ CSU cy e0 tk W G2 o tn ft N fe ne ui lf lt ln fo ∧ KPW W G G2) (mk_B D vwCl A) A) 0 0 A := by
  obtain ⟨tag, M, ge, gn, ea, ra, eu, gi, tx, rd, to, se, kp, ow, k, ks, ss, vs, ro, rs, sl, kf, sf, h1, h2, h3, h4, h5, h6⟩ := id hC
  by_cases hN : N = 0
  · have h0 := h1.1
    rw [if_pos hN] at h0
    refine (c_X13_encode_n l D cy A X hst hXT G o tx rd to se kp _ (nI tn) _ iv jv xv h0).mono (Nat.le_of_ble_eq_true rfl) (Nat.le_of_ble_eq_true rfl) (Nat.le_of_ble_eq_true rfl) (Nat.le_of_ble_eq_true rfl) (Nat.le_of_ble_eq_true rfl) (Nat.le_of_ble_eq_true rfl) (fun _ _ h => h) ?_
    rintro a s oo t ⟨⟨r, G3, e1, ⟨hr9, hg⟩, e3⟩, e4⟩
    exact ⟨⟨r, G3, e1, ⟨by rw [ENr, if_pos hN]; exact hr9, by rw [hg]; exact hC, by rw [hg]; exact KPW.rf⟩, e3⟩, e4⟩
  · have h0 := h1.1
    rw [if_neg hN] at h0
    obtain ⟨hd9, hp, hn2, hgM⟩ := h2.hand (j := N) (by omega) (Nat.le_refl _)
    rw [h4 hN] at hd9
    obtain ⟨LA, EA, AD, PI, z, na, cap, nv, a1, a2, a3, a4, a5, a6, a7, a8, a9, a10, a11, a12⟩ := hd9
    have hZ := a10 (rd_gd hp)
    have hnm : (fun y => nof (fun j => decide (nv j = y)) (rdN (fe N) (ne N)).1) = NMf (fe N) (ne N) := funext (fun y => nof_cg (fun i hi => by rw [a7 i hi]))
    refine (c_H_encode l D cy A X hst hXT e0 tk hXE mi hXL ax adK adV hXX G (fun _ => none) (fun _ => True) (rdV (fe N) (ne N)) z LA EA AD PI (ea (gi N)) na (rdN (fe N) (ne N)).1 cap nv ui (rdG (fe N) (ne N)) o tx rd to kp _ (nI tn) _ iv jv xv se rs sl sf h0 a1 hZ a3 a4 a5 a6 a9 rdV_w h1.2.2.2.2.2.2.1 h1.2.2.2.2.2.2.2.1 h1.2.2.2.2.2.2.2.2.2.2.2.1 trivial trivial).mono (Nat.le_of_ble_eq_true rfl) (Nat.le_of_ble_eq_true rfl) (Nat.le_of_ble_eq_true rfl) (Nat.le_of_ble_eq_true rfl) (Nat.le_of_ble_eq_true rfl) (Nat.le_of_ble_eq_true rfl) (fun _ _ h => h) ?_
    rintro a s oo t ⟨⟨r, G3, e1, hw, e3⟩, e4⟩
    cases hy : spO (rdV (fe N) (ne N)) iv jv with
    | none => rw [hy] at hw; exact ⟨⟨r, G3, e1, ⟨by rw [ENr, if_neg hN, enR, hy]; exact hw.1, by rw [hw.2]; exact hC, by rw [hw.2]; exact KPW.rf⟩, e3⟩, e4⟩
    | some y =>
    rw [hy] at hw
    simp only [] at hw
    cases hc9 : cdN (rdV (fe N) (ne N)) ((rdV (fe N) (ne N)).P y.1 y.2).2.2.1 with
    | none => rw [hc9] at hw; exact ⟨⟨r, G3, e1, ⟨by rw [ENr, if_neg hN, enR, hy]; simp only []; rw [hc9]; exact hw.1, by rw [hw.2]; exact hC, by rw [hw.2]; exact KPW.rf⟩, e3⟩, e4⟩
    | some k9 =>
    rw [hc9] at hw
    simp only [] at hw
    split at hw
    · rename_i hz9
      exact ⟨⟨r, G3, e1, ⟨by rw [ENr, if_neg hN, enR, hy]; simp only []; rw [hc9]; exact hw.1.trans (if_pos hz9).symm, by rw [hw.2]; exact hC, by rw [hw.2]; exact KPW.rf⟩, e3⟩, e4⟩
    · rename_i hz9
      obtain ⟨hr9, b1, b2, hP2, hfr, hl2⟩ := hw
      obtain ⟨y1, y2⟩ := spO_lt hy
      have tS : tag se = 0 := h1.2.2.2.2.2.2.2.2.2.2.2.2.2.2.2.2.2.2.1
      have tR : tag rs = 0 := h1.2.2.2.2.2.2.2.2.2.2.2.2.2.2.2.2.2.2.2.2.2.2.2.2.2.2
      obtain ⟨w1, w2, w3, w4⟩ := a1.oW (Or.inr rfl) a3
      have hlv : ∀ c, c < (rdV (fe N) (ne N)).nS → lvV (rdV (fe N) (ne N)) (20 + c) := fun c hc => Or.inr (Or.inr (Or.inl ⟨by omega, by omega⟩))
      have hln9 : ∀ c, c < (rdV (fe N) (ne N)).nS → lnV (rdV (fe N) (ne N)) (20 + c) = (rdV (fe N) (ne N)).nP c := fun c hc => by have hb := a1.b.2.2.1; unfold lnV; rw [if_neg (by omega), if_neg (by omega), if_neg (by omega), if_neg (by omega), if_neg (by omega), if_neg (by omega), if_neg (by omega), if_pos (by omega), show 20 + c - 20 = c by omega]
      have hap : ∀ c i, c < (rdV (fe N) (ne N)).nS → i < (rdV (fe N) (ne N)).nP c → tag (AD (20 + c) i) = gi N + 2 ∧ AD (20 + c) i ≠ ea (gi N) ∧ AD (20 + c) i ≠ na := fun c i hc hi => ⟨a2.2.2.1 _ _ (hlv c hc) (by rw [hln9 c hc]; exact hi), w3 _ _ (hlv c hc) (by rw [hln9 c hc]; exact hi), mm_ne_oa (a1.L.el _ _ (hlv c hc) (by rw [hln9 c hc]; exact hi)) a4⟩
      have hE : EDy cy e0 tk (fun x => tag x = gi N + 2) G3 (fe N) (ne N) (ea (gi N)) (ra (gi N)) ui := ⟨LA, EA, AD, PI, _, na, cap, nv, hP2, a2, hfr _ _ a3 (fun y => by have := a2.2.2.2.2.1; rw [y] at this; omega) (fun y => by have := a2.2.2.2.2.1; rw [y] at this; omega) (fun i hi => Ne.symm (hap _ i y1 hi).2.1), hfr _ _ a4 (fun y => by have := a2.2.2.2.2.2; rw [y] at this; omega) (fun y => by have := a2.2.2.2.2.2; rw [y] at this; omega) (fun i hi => Ne.symm (hap _ i y1 hi).2.2), a5, a6, a7, a8, a9, fun h => a10 h, a11, a12⟩
      exact ⟨⟨r, G3, e1, ⟨by rw [ENr, if_neg hN, enR, hy]; simp only []; rw [hc9]; exact hr9.trans (if_neg hz9).symm, CSU.cl h1 h2 h3 h5 h6 hN hE b1 b2 hl2 (fun x e n1 n2 n3 y => hfr x e y n2 n3 (fun i hi y2 => n1 (by rw [y2]; exact (hap _ i y1 hi).1)))⟩, e3⟩, e4⟩

set_option maxHeartbeats 4000000 in
theorem k2_job (l : Launch) (D : va_G) (cy : Nat → ClassId) (A : Nat → Prop) (X : State → Prop) (hst : mk_St A X) (hXT : ∀ U : State, X U → TB U) (e0 : Nat) (tk : Nat → Nat) (hXE : ∀ U : State, X U → ES e0 tk A U) (mi : Nat) (hXL : ∀ U : State, X U → EL e0 mi A U) (ax adK adV : Nat → Nat) (hXX : ∀ U : State, X U → TX ax adK adV tk A U) (G : Nat → Option va_E) (W : Nat → Prop) (o tn : Nat) (ft : Nat → Int32) (N : Nat) (fe : Nat → Nat → Int32) (ne : Nat → Nat) (ui : Option Nat) (lf : Nat → Int32) (lt ln : Nat) (fo : Nat → Int32) (hC : CSU cy e0 tk W G o tn ft N fe ne ui lf lt ln fo) (iv : Int32) (xs : Int64) : Met l yX13_job [.code yX13_job cX13_job 4 (some .int)] ({ frames := 12, cells := 0, slots := 0, locals := 360 }) (mk_Pre D vwCl (tyL cy) A X G [.ref o, .int iv, .long xs]) (va_Qi (fun (r : Int32) (G2 : Nat → Option va_E) => ∃ (P9 : Nat → PdT) (pf9 : Nat → Int64) (sf9 : Nat → Int32), r = JBr N (fe N) (ne N) ln fo P9 pf9 sf9 iv xs ∧ CSU cy e0 tk W G2 o tn ft N fe ne ui lf lt ln fo ∧ KPW W G G2) (mk_B D vwCl A) A) 0 0 A := by
  obtain ⟨tag, M, ge, gn, ea, ra, eu, gi, tx, rd, to, se, kp, ow, k, ks, ss, vs, ro, rs, sl, kf, sf, h1, h2, h3, h4, h5, h6⟩ := id hC
  by_cases hN : N = 0
  · have h0 := h1.1
    rw [if_pos hN] at h0
    refine (c_X13_job_n l D cy A X hst hXT G o tx rd to se kp _ (nI tn) _ iv xs h0).mono (Nat.le_of_ble_eq_true rfl) (Nat.le_of_ble_eq_true rfl) (Nat.le_of_ble_eq_true rfl) (Nat.le_of_ble_eq_true rfl) (Nat.le_of_ble_eq_true rfl) (Nat.le_of_ble_eq_true rfl) (fun _ _ h => h) ?_
    rintro a s oo t ⟨⟨r, G3, e1, ⟨hr9, hg⟩, e3⟩, e4⟩
    exact ⟨⟨r, G3, e1, ⟨fun _ _ => (0, 0, 0, 0), fun _ => 0, fun _ => 0, by rw [JBr, if_pos hN]; exact hr9, by rw [hg]; exact hC, by rw [hg]; exact KPW.rf⟩, e3⟩, e4⟩
  · have h0 := h1.1
    rw [if_neg hN] at h0
    obtain ⟨hd9, hp, hn2, hgM⟩ := h2.hand (j := N) (by omega) (Nat.le_refl _)
    rw [h4 hN] at hd9
    obtain ⟨LA, EA, AD, PI, z, na, cap, nv, a1, a2, a3, a4, a5, a6, a7, a8, a9, a10, a11, a12⟩ := hd9
    have hZ := a10 (rd_gd hp)
    have hnm : (fun y => nof (fun j => decide (nv j = y)) (rdN (fe N) (ne N)).1) = NMf (fe N) (ne N) := funext (fun y => nof_cg (fun i hi => by rw [a7 i hi]))
    refine (c_H_job l D cy A X hst hXT e0 tk hXE mi hXL ax adK adV hXX G (fun _ => none) (fun _ => True) (rdV (fe N) (ne N)) z LA EA AD PI (ea (gi N)) na (rdN (fe N) (ne N)).1 cap nv ui (rdG (fe N) (ne N)) o tx rd to se kp _ (nI tn) _ iv xs ro ln fo rs sl sf h0 a1 hZ a3 a4 a5 a6 a9 rdV_w rdV_ko a11 h1.2.2.2.2.2.2.2.2.1 h1.2.2.2.2.2.2.2.2.2.1 h1.2.2.2.2.1 h1.2.2.2.2.2.1 h1.2.2.2.2.2.2.2.2.2.2.1 h1.2.2.2.2.2.2.1 h1.2.2.2.2.2.2.2.1 h1.2.2.2.2.2.2.2.2.2.2.2.1 trivial trivial).mono (Nat.le_of_ble_eq_true rfl) (Nat.le_of_ble_eq_true rfl) (Nat.le_of_ble_eq_true rfl) (Nat.le_of_ble_eq_true rfl) (Nat.le_of_ble_eq_true rfl) (Nat.le_of_ble_eq_true rfl) (fun _ _ h => h) ?_
    rintro a s oo t ⟨⟨r, G3, e1, hw, e3⟩, e4⟩
    cases hy : oIx iv (rdV (fe N) (ne N)).nJ with
    | none => rw [hy] at hw; exact ⟨⟨r, G3, e1, ⟨fun _ _ => (0, 0, 0, 0), fun _ => 0, fun _ => 0, by rw [JBr, if_neg hN, jbA, hy]; exact hw.1, by rw [hw.2]; exact hC, by rw [hw.2]; exact KPW.rf⟩, e3⟩, e4⟩
    | some k9 =>
    rw [hy] at hw
    simp only [] at hw
    have hk9 := oIx_lt hy
    by_cases hv9 : ¬ xs < 0 ∧ xs ≤ 5000
    · rw [if_pos hv9] at hw
      obtain ⟨hr9, b1, b2, hP2, hh2, hl2, hfr⟩ := hw
      have tS : tag se = 0 := h1.2.2.2.2.2.2.2.2.2.2.2.2.2.2.2.2.2.2.1
      have tR : tag rs = 0 := h1.2.2.2.2.2.2.2.2.2.2.2.2.2.2.2.2.2.2.2.2.2.2.2.2.2.2
      obtain ⟨w1, w2, w3, w4⟩ := a1.oW (Or.inr rfl) a3
      have hlv : ∀ c, c < (rdV (fe N) (ne N)).nS → lvV (rdV (fe N) (ne N)) (20 + c) := fun c hc => Or.inr (Or.inr (Or.inl ⟨by omega, by omega⟩))
      have hln9 : ∀ c, c < (rdV (fe N) (ne N)).nS → lnV (rdV (fe N) (ne N)) (20 + c) = (rdV (fe N) (ne N)).nP c := fun c hc => by have hb := a1.b.2.2.1; unfold lnV; rw [if_neg (by omega), if_neg (by omega), if_neg (by omega), if_neg (by omega), if_neg (by omega), if_neg (by omega), if_neg (by omega), if_pos (by omega), show 20 + c - 20 = c by omega]
      have hap : ∀ c i, c < (rdV (fe N) (ne N)).nS → i < (rdV (fe N) (ne N)).nP c → tag (AD (20 + c) i) = gi N + 2 ∧ AD (20 + c) i ≠ ea (gi N) ∧ AD (20 + c) i ≠ na := fun c i hc hi => ⟨a2.2.2.1 _ _ (hlv c hc) (by rw [hln9 c hc]; exact hi), w3 _ _ (hlv c hc) (by rw [hln9 c hc]; exact hi), mm_ne_oa (a1.L.el _ _ (hlv c hc) (by rw [hln9 c hc]; exact hi)) a4⟩
      have hl5 : k9 < lnV (rdV (fe N) (ne N)) 5 := hk9
      have hA5 : tag (AD 5 k9) = gi N + 2 := a2.2.2.1 5 k9 (Or.inl (by decide)) hl5
      have hP5 : tag (PI k9) = gi N + 2 := a2.2.2.2.1 k9 hk9
      have hE : EDy cy e0 tk (fun x => tag x = gi N + 2) G3 (fe N) (ne N) (ea (gi N)) (ra (gi N)) ui := ⟨LA, EA, AD, PI, _, na, cap, nv, hP2, a2, hfr _ _ a3 (Ne.symm (w3 5 k9 (Or.inl (by decide)) hl5)) (Ne.symm (w4 k9 hk9)) (fun y => by have := a2.2.2.2.2.1; rw [y] at this; omega) (fun y => by have := a2.2.2.2.2.1; rw [y] at this; omega) (fun c i hc hi => Ne.symm (hap c i hc hi).2.1), hfr _ _ a4 (mm_ne_ao a4 (a1.L.el 5 k9 (Or.inl (by decide)) hl5)) (Ne.symm (a8 k9 hk9)) (fun y => by have := a2.2.2.2.2.2; rw [y] at this; omega) (fun y => by have := a2.2.2.2.2.2; rw [y] at this; omega) (fun c i hc hi => Ne.symm (hap c i hc hi).2.2), a5, a6, a7, a8, a9, fun h => a10 h, fun j hj => by
        by_cases hjk : j = k9
        · exact ⟨_, hh2, by rw [hjk]; exact up1_eq⟩
        · obtain ⟨h9, q1, q2⟩ := a11 j hj
          exact ⟨h9, q1, (up1_ne hjk).trans q2⟩, a12⟩
      exact ⟨⟨r, G3, e1, ⟨z.pd, z.pv k9, sf, by rw [JBr, if_neg hN, jbA, hy]; simp only []; rw [if_pos hv9]; exact hr9, CSU.cl h1 h2 h3 h5 h6 hN hE b1 b2 hl2 (fun x e n1 n2 n3 y => hfr x e y (fun y2 => n1 (by rw [y2]; exact hA5)) (fun y2 => n1 (by rw [y2]; exact hP5)) n2 n3 (fun c i hc hi y2 => n1 (by rw [y2]; exact (hap c i hc hi).1)))⟩, e3⟩, e4⟩
    · rw [if_neg hv9] at hw; exact ⟨⟨r, G3, e1, ⟨fun _ _ => (0, 0, 0, 0), fun _ => 0, fun _ => 0, by rw [JBr, if_neg hN, jbA, hy]; simp only []; rw [if_neg hv9]; exact hw.1, by rw [hw.2]; exact hC, by rw [hw.2]; exact KPW.rf⟩, e3⟩, e4⟩

set_option maxHeartbeats 4000000 in
theorem k2_compare (l : Launch) (D : va_G) (cy : Nat → ClassId) (A : Nat → Prop) (X : State → Prop) (hst : mk_St A X) (hXT : ∀ U : State, X U → TB U) (e0 : Nat) (tk : Nat → Nat) (hXE : ∀ U : State, X U → ES e0 tk A U) (mi : Nat) (hXL : ∀ U : State, X U → EL e0 mi A U) (ax adK adV : Nat → Nat) (hXX : ∀ U : State, X U → TX ax adK adV tk A U) (G : Nat → Option va_E) (W : Nat → Prop) (o tn : Nat) (ft : Nat → Int32) (N : Nat) (fe : Nat → Nat → Int32) (ne : Nat → Nat) (ui : Option Nat) (lf : Nat → Int32) (lt ln : Nat) (fo : Nat → Int32) (hC : CSU cy e0 tk W G o tn ft N fe ne ui lf lt ln fo) (iv : Int32) : Met l yX13_compare [.code yX13_compare cX13_compare 3 (some .int)] ({ frames := 12, cells := 0, slots := 0, locals := 360 }) (mk_Pre D vwCl (tyL cy) A X G [.ref o, .int iv]) (va_Qi (fun (r : Int32) (G2 : Nat → Option va_E) => CSU cy e0 tk W G2 o tn ft N fe ne ui lf lt ln fo ∧ KPW W G G2) (mk_B D vwCl A) A) 0 0 A := by
  obtain ⟨tag, M, ge, gn, ea, ra, eu, gi, tx, rd, to, se, kp, ow, k, ks, ss, vs, ro, rs, sl, kf, sf, h1, h2, h3, h4, h5, h6⟩ := id hC
  by_cases hN : N = 0
  · have h0 := h1.1
    rw [if_pos hN] at h0
    refine (c_X13_compare_n l D cy A X hst hXT G o tx rd to se kp _ (nI tn) _ iv h0).mono (Nat.le_of_ble_eq_true rfl) (Nat.le_of_ble_eq_true rfl) (Nat.le_of_ble_eq_true rfl) (Nat.le_of_ble_eq_true rfl) (Nat.le_of_ble_eq_true rfl) (Nat.le_of_ble_eq_true rfl) (fun _ _ h => h) ?_
    rintro a s oo t ⟨⟨r, G3, e1, ⟨-, hg⟩, e3⟩, e4⟩
    exact ⟨⟨r, G3, e1, ⟨by rw [hg]; exact hC, by rw [hg]; exact KPW.rf⟩, e3⟩, e4⟩
  · have h0 := h1.1
    rw [if_neg hN] at h0
    obtain ⟨hd9, hp, hn2, hgM⟩ := h2.hand (j := N) (by omega) (Nat.le_refl _)
    rw [h4 hN] at hd9
    obtain ⟨LA, EA, AD, PI, z, na, cap, nv, a1, a2, a3, a4, a5, a6, a7, a8, a9, a10, a11, a12⟩ := hd9
    have hZ := a10 (rd_gd hp)
    have hnm : (fun y => nof (fun j => decide (nv j = y)) (rdN (fe N) (ne N)).1) = NMf (fe N) (ne N) := funext (fun y => nof_cg (fun i hi => by rw [a7 i hi]))
    have hkn := h1.2.2.2.2.2.2.2.2.2.2.2.2.2.1
    by_cases hx9 : ∃ k, k < (if N < 4 then N else 4) ∧ iv = nI (k + 1)
    · obtain ⟨k9, hk9, hi9⟩ := hx9
      have hkN : k9 + 1 ≤ N := by split at hk9 <;> omega
      obtain ⟨⟨LB, EB, AB, PB, zb, nb, cb, nvb, b1, b2, b3, b4, b5, b6, b7, b8, b9, b10, b11, b12⟩, hpb, -, -⟩ := h2.hand (j := k9 + 1) (by omega) hkN
      refine (c_H_compare l D cy A X hst hXT e0 tk hXE mi hXL ax adK adV hXX G (fun _ => none) (fun _ => True) (rdV (fe N) (ne N)) z LA EA AD PI (fun _ => none) (fun _ => True) (rdV (fe (k9 + 1)) (ne (k9 + 1))) zb LB EB AB PB (ea (gi N)) na _ _ _ _ (ea (gi (k9 + 1))) nb _ _ _ _ o tx rd to se kp _ (nI tn) _ kf iv h0 h1.2.2.2.1 hkn a1 hZ b1 (b10 (rd_gd hpb)) a3 b3 (fun k hk hi => ?_)).mono (Nat.le_of_ble_eq_true rfl) (Nat.le_of_ble_eq_true rfl) (Nat.le_of_ble_eq_true rfl) (Nat.le_of_ble_eq_true rfl) (Nat.le_of_ble_eq_true rfl) (Nat.le_of_ble_eq_true rfl) (fun _ _ h => h) ?_
      · have hk4 : k < 4 := by split at hk <;> omega
        have hkN2 : k < N := by split at hk <;> omega
        have hkk : k + 1 = k9 + 1 := nI_inj (by omega) (by omega) (hi.symm.trans hi9)
        rw [h2.2.2 k hkN2 hk4, hkk]
      rintro a s oo t ⟨⟨r, G3, e1, hg, e3⟩, e4⟩
      exact ⟨⟨r, G3, e1, ⟨by rw [hg]; exact hC, by rw [hg]; exact KPW.rf⟩, e3⟩, e4⟩
    · refine (c_H_compareN l D cy A X hst hXT e0 tk hXE mi hXL ax adK adV hXX G (fun _ => none) (fun _ => True) (rdV (fe N) (ne N)) z LA EA AD PI (ea (gi N)) na _ _ _ _ o tx rd to se kp _ (nI tn) _ kf iv h0 h1.2.2.2.1 hkn a1 a3 (fun k hk hi => hx9 ⟨k, hk, hi⟩)).mono (Nat.le_of_ble_eq_true rfl) (Nat.le_of_ble_eq_true rfl) (Nat.le_of_ble_eq_true rfl) (Nat.le_of_ble_eq_true rfl) (Nat.le_of_ble_eq_true rfl) (Nat.le_of_ble_eq_true rfl) (fun _ _ h => h) ?_
      rintro a s oo t ⟨⟨r, G3, e1, hg, e3⟩, e4⟩
      exact ⟨⟨r, G3, e1, ⟨by rw [hg]; exact hC, by rw [hg]; exact KPW.rf⟩, e3⟩, e4⟩
