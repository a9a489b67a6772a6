set_option maxHeartbeats 4000000 in
theorem k_sign (l : Launch) (D : va_G) (cy : Nat → ClassId) (A : Nat → Prop) (X : State → Prop) (hst : mk_St A X) (hXT : ∀ U : State, X U → TB U) (e0 : Nat) (tk : Nat → Nat) (hXE : ∀ U : State, X U → ES e0 tk A U) (mi : Nat) (hXL : ∀ U : State, X U → EL e0 mi A U) (ax adK adV : Nat → Nat) (hXX : ∀ U : State, X U → TX ax adK adV tk A U) (G : Nat → Option va_E) (W : Nat → Prop) (o tn : Nat) (ft : Nat → Int32) (N : Nat) (fe : Nat → Nat → Int32) (ne : Nat → Nat) (hC : CST cy e0 tk W G o tn ft N fe ne) (cv : Int32) (tn2 : Nat) (ft2 : Nat → Int32) (hl2 : tn2 ≤ 2000) (hfin : sg_n cv 4 24 (nI tn, ft) = (nI tn2, ft2)) : Met l yX13_sign [.code yX13_sign cX13_sign 4 none] ({ frames := 12, cells := 0, slots := 0, locals := 360 }) (mk_Pre D vwCl (tyL cy) A X G [.ref o, .int cv]) (va_Qv (fun (G2 : Nat → Option va_E) => CST cy e0 tk W G2 o tn2 ft2 N fe ne ∧ KPW W G G2) (mk_B D vwCl A) A) 0 0 A := by
  obtain ⟨tag, M, ge, gn, ea, ra, gi, tx, rd, to, se, kp, ow, k, ks, ss, vs, ro, rs, ln, sl, kf, fo, sf, h1, h2, h3⟩ := id hC
  have htn := h1.2.2.2.2.2.2.2.2.2.2.2.2.1
  refine (c_X13_sign l D cy A X hst hXT G o tx rd to se kp _ _ (nI tn) _ cv (nI tn2) ft ft2 h1.1 h1.2.2.1 (nI_pos (by omega)) hfin).mono (Nat.le_of_ble_eq_true rfl) (Nat.le_of_ble_eq_true rfl) (Nat.le_of_ble_eq_true rfl) (Nat.le_of_ble_eq_true rfl) (Nat.le_of_ble_eq_true rfl) (Nat.le_of_ble_eq_true rfl) (fun _ _ h => h) ?_
  rintro a s oo t ⟨⟨G3, e1, ⟨b1, b2, -, b4⟩, e3⟩, e4⟩
  have t1 : tag o = 0 := h1.2.2.2.2.2.2.2.2.2.2.2.2.2.2.1
  have t2 : tag tx = 0 := h1.2.2.2.2.2.2.2.2.2.2.2.2.2.2.2.1
  have hw : KPW W G G3 := fun x e w z => b4 x e z (fun y => by rw [y] at w; have := (h3 _ w).1; omega) (fun y => by rw [y] at w; have := (h3 _ w).1; omega)
  refine ⟨⟨G3, e1, ⟨⟨tag, M, ge, gn, ea, ra, gi, tx, rd, to, se, kp, ow, k, ks, ss, vs, ro, rs, ln, sl, kf, fo, sf, h1.tx b1 b2 hl2 b4, h2.mv (fun x e tg z => b4 x e z (fun y => by rw [y] at tg; omega) (fun y => by rw [y] at tg; omega)), fun x w => ⟨(h3 x w).1, ?_⟩⟩, hw⟩, e3⟩, e4⟩
  obtain ⟨e, he⟩ := (h3 x w).2
  exact ⟨e, hw x e w he⟩

theorem oc_n_le {n : Nat} (h : n ≤ 64) : ∃ m, m ≤ 64 ∧ oc_n (nI n) + 1 = nI m ∧ 1 ≤ m ∧ (oc_n (nI n)).toNatClampNeg = m - 1 := by
  unfold oc_n
  by_cases z : n = 64
  · rw [z, if_pos (by decide)]
    exact ⟨1, by omega, by decide, by omega, by decide⟩
  · rw [if_neg (fun y => z (nI_inj (by omega) (by omega) (y.trans (show (64 : Int32) = nI 64 from rfl))))]
    exact ⟨n + 1, by omega, (nI_succ n).symm, by omega, by rw [nI_clamp (by omega)]; rfl⟩

set_option maxHeartbeats 4000000 in
theorem k_octet (l : Launch) (D : va_G) (cy : Nat → ClassId) (A : Nat → Prop) (X : State → Prop) (hst : mk_St A X) (hXT : ∀ U : State, X U → TB U) (e0 : Nat) (tk : Nat → Nat) (hXE : ∀ U : State, X U → ES e0 tk A U) (mi : Nat) (hXL : ∀ U : State, X U → EL e0 mi A U) (ax adK adV : Nat → Nat) (hXX : ∀ U : State, X U → TX ax adK adV tk A U) (G : Nat → Option va_E) (W : Nat → Prop) (o tn : Nat) (ft : Nat → Int32) (N : Nat) (fe : Nat → Nat → Int32) (ne : Nat → Nat) (hC : CST cy e0 tk W G o tn ft N fe ne) (bv : Int32) : Met l yX13_octet [.code yX13_octet cX13_octet 2 none] ({ frames := 12, cells := 0, slots := 0, locals := 360 }) (mk_Pre D vwCl (tyL cy) A X G [.ref o, .int bv]) (va_Qv (fun (G2 : Nat → Option va_E) => CST cy e0 tk W G2 o tn ft N fe ne ∧ KPW W G G2) (mk_B D vwCl A) A) 0 0 A := by
  obtain ⟨tag, M, ge, gn, ea, ra, gi, tx, rd, to, se, kp, ow, k, ks, ss, vs, ro, rs, ln, sl, kf, fo, sf, h1, h2, h3⟩ := id hC
  have hln := h1.2.2.2.2.2.2.2.2.2.2.1
  refine (c_X13_octet l D cy A X hst hXT G o tx rd to se kp _ _ (nI tn) _ ro (nI ln) bv fo h1.1 h1.2.2.2.2.1 h1.2.2.2.2.2.1 (nI_pos (by omega)) (nI_le hln (by decide))).mono (Nat.le_of_ble_eq_true rfl) (Nat.le_of_ble_eq_true rfl) (Nat.le_of_ble_eq_true rfl) (Nat.le_of_ble_eq_true rfl) (Nat.le_of_ble_eq_true rfl) (Nat.le_of_ble_eq_true rfl) (fun _ _ h => h) ?_
  rintro a s oo t ⟨⟨G3, e1, ⟨b1, b2, b4⟩, e3⟩, e4⟩
  have t1 : tag to = 0 := h1.2.2.2.2.2.2.2.2.2.2.2.2.2.2.2.2.2.1
  have t2 : tag ro = 0 := h1.2.2.2.2.2.2.2.2.2.2.2.2.2.2.2.2.2.2.2.2.2.2.2.2.2.1
  obtain ⟨m9, hm9, em9, -, -⟩ := oc_n_le hln
  rw [em9] at b1
  have hw : KPW W G G3 := fun x e w z => b4 x e z (fun y => by rw [y] at w; have := (h3 _ w).1; omega) (fun y => by rw [y] at w; have := (h3 _ w).1; omega)
  refine ⟨⟨G3, e1, ⟨⟨tag, M, ge, gn, ea, ra, gi, tx, rd, to, se, kp, ow, k, ks, ss, vs, ro, rs, m9, sl, kf, _, sf, h1.to b1 b2 hm9 (fun x e _ n1 n2 z => b4 x e z n1 n2), h2.mv (fun x e tg z => b4 x e z (fun y => by rw [y] at tg; omega) (fun y => by rw [y] at tg; omega)), fun x w => ⟨(h3 x w).1, ?_⟩⟩, hw⟩, e3⟩, e4⟩
  obtain ⟨e, he⟩ := (h3 x w).2
  exact ⟨e, hw x e w he⟩

set_option maxHeartbeats 4000000 in
theorem k_service (l : Launch) (D : va_G) (cy : Nat → ClassId) (A : Nat → Prop) (X : State → Prop) (hst : mk_St A X) (hXT : ∀ U : State, X U → TB U) (e0 : Nat) (tk : Nat → Nat) (hXE : ∀ U : State, X U → ES e0 tk A U) (mi : Nat) (hXL : ∀ U : State, X U → EL e0 mi A U) (ax adK adV : Nat → Nat) (hXX : ∀ U : State, X U → TX ax adK adV tk A U) (G : Nat → Option va_E) (W : Nat → Prop) (o tn : Nat) (ft : Nat → Int32) (N : Nat) (fe : Nat → Nat → Int32) (ne : Nat → Nat) (hC : CST cy e0 tk W G o tn ft N fe ne) (iv wv : Int32) : Met l yX13_service [.code yX13_service cX13_service 4 (some .int)] ({ frames := 12, cells := 0, slots := 0, locals := 360 }) (mk_Pre D vwCl (tyL cy) A X G [.ref o, .int iv, .int wv]) (va_Qi (fun (r : Int32) (G2 : Nat → Option va_E) => CST cy e0 tk W G2 o tn ft N fe ne ∧ KPW W G G2) (mk_B D vwCl A) A) 0 0 A := by
  obtain ⟨tag, M, ge, gn, ea, ra, gi, tx, rd, to, se, kp, ow, k, ks, ss, vs, ro, rs, ln, sl, kf, fo, sf, h1, h2, h3⟩ := id hC
  by_cases hN : N = 0
  · have h0 := h1.1
    rw [if_pos hN] at h0
    refine (c_X13_service_n l D cy A X hst hXT G o tx rd to se kp _ (nI tn) _ iv wv h0).mono (Nat.le_of_ble_eq_true rfl) (Nat.le_of_ble_eq_true rfl) (Nat.le_of_ble_eq_true rfl) (Nat.le_of_ble_eq_true rfl) (Nat.le_of_ble_eq_true rfl) (Nat.le_of_ble_eq_true rfl) (fun _ _ h => h) ?_
    rintro a s oo t ⟨⟨r, G3, e1, ⟨-, hg⟩, e3⟩, e4⟩
    exact ⟨⟨r, G3, e1, ⟨by rw [hg]; exact hC, by rw [hg]; exact KPW.rf⟩, e3⟩, e4⟩
  · have h0 := h1.1
    rw [if_neg hN] at h0
    obtain ⟨⟨LA, EA, AD, PI, z, na, cap, nv, ui, a1, a2, a3, a4, a5, a6, a7, a8, a9, a10, a11, a12⟩, hp, hn2, hgM⟩ := h2.hand (j := N) (by omega) (Nat.le_refl _)
    have hZ := a10 (rd_gd hp)
    refine (c_H_service l D cy A X hst hXT e0 tk hXE mi hXL ax adK adV hXX G (fun _ => none) (fun _ => True) (rdV (fe N) (ne N)) z LA EA AD PI (ea (gi N)) na (rdN (fe N) (ne N)).1 cap nv ui (rdG (fe N) (ne N)) o tx rd to se kp _ (nI tn) _ iv wv h0 a1 hZ a3 a4 a5 a6 a9).mono (Nat.le_of_ble_eq_true rfl) (Nat.le_of_ble_eq_true rfl) (Nat.le_of_ble_eq_true rfl) (Nat.le_of_ble_eq_true rfl) (Nat.le_of_ble_eq_true rfl) (Nat.le_of_ble_eq_true rfl) (fun _ _ h => h) ?_
    rintro a s oo t ⟨⟨r, G3, e1, ⟨-, hg⟩, e3⟩, e4⟩
    exact ⟨⟨r, G3, e1, ⟨by rw [hg]; exact hC, by rw [hg]; exact KPW.rf⟩, e3⟩, e4⟩

set_option maxHeartbeats 4000000 in
theorem k_parameter (l : Launch) (D : va_G) (cy : Nat → ClassId) (A : Nat → Prop) (X : State → Prop) (hst : mk_St A X) (hXT : ∀ U : State, X U → TB U) (e0 : Nat) (tk : Nat → Nat) (hXE : ∀ U : State, X U → ES e0 tk A U) (mi : Nat) (hXL : ∀ U : State, X U → EL e0 mi A U) (ax adK adV : Nat → Nat) (hXX : ∀ U : State, X U → TX ax adK adV tk A U) (G : Nat → Option va_E) (W : Nat → Prop) (o tn : Nat) (ft : Nat → Int32) (N : Nat) (fe : Nat → Nat → Int32) (ne : Nat → Nat) (hC : CST cy e0 tk W G o tn ft N fe ne) (iv jv wv : Int32) : Met l yX13_parameter [.code yX13_parameter cX13_parameter 5 (some .int)] ({ frames := 12, cells := 0, slots := 0, locals := 360 }) (mk_Pre D vwCl (tyL cy) A X G [.ref o, .int iv, .int jv, .int wv]) (va_Qi (fun (r : Int32) (G2 : Nat → Option va_E) => CST cy e0 tk W G2 o tn ft N fe ne ∧ KPW W G G2) (mk_B D vwCl A) A) 0 0 A := by
  obtain ⟨tag, M, ge, gn, ea, ra, gi, tx, rd, to, se, kp, ow, k, ks, ss, vs, ro, rs, ln, sl, kf, fo, sf, h1, h2, h3⟩ := id hC
  by_cases hN : N = 0
  · have h0 := h1.1
    rw [if_pos hN] at h0
    refine (c_X13_parameter_n l D cy A X hst hXT G o tx rd to se kp _ (nI tn) _ iv jv wv h0).mono (Nat.le_of_ble_eq_true rfl) (Nat.le_of_ble_eq_true rfl) (Nat.le_of_ble_eq_true rfl) (Nat.le_of_ble_eq_true rfl) (Nat.le_of_ble_eq_true rfl) (Nat.le_of_ble_eq_true rfl) (fun _ _ h => h) ?_
    rintro a s oo t ⟨⟨r, G3, e1, ⟨-, hg⟩, e3⟩, e4⟩
    exact ⟨⟨r, G3, e1, ⟨by rw [hg]; exact hC, by rw [hg]; exact KPW.rf⟩, e3⟩, e4⟩
  · have h0 := h1.1
    rw [if_neg hN] at h0
    obtain ⟨⟨LA, EA, AD, PI, z, na, cap, nv, ui, a1, a2, a3, a4, a5, a6, a7, a8, a9, a10, a11, a12⟩, hp, hn2, hgM⟩ := h2.hand (j := N) (by omega) (Nat.le_refl _)
    have hZ := a10 (rd_gd hp)
    refine (c_H_parameter l D cy A X hst hXT e0 tk hXE mi hXL ax adK adV hXX G (fun _ => none) (fun _ => True) (rdV (fe N) (ne N)) z LA EA AD PI (ea (gi N)) na (rdN (fe N) (ne N)).1 cap nv ui (rdG (fe N) (ne N)) o tx rd to se kp _ (nI tn) _ iv jv wv h0 a1 hZ a3 a4 a5 a6 a9).mono (Nat.le_of_ble_eq_true rfl) (Nat.le_of_ble_eq_true rfl) (Nat.le_of_ble_eq_true rfl) (Nat.le_of_ble_eq_true rfl) (Nat.le_of_ble_eq_true rfl) (Nat.le_of_ble_eq_true rfl) (fun _ _ h => h) ?_
    rintro a s oo t ⟨⟨r, G3, e1, ⟨-, hg⟩, e3⟩, e4⟩
    exact ⟨⟨r, G3, e1, ⟨by rw [hg]; exact hC, by rw [hg]; exact KPW.rf⟩, e3⟩, e4⟩

set_option maxHeartbeats 4000000 in
theorem k_code (l : Launch) (D : va_G) (cy : Nat → ClassId) (A : Nat → Prop) (X : State → Prop) (hst : mk_St A X) (hXT : ∀ U : State, X U → TB U) (e0 : Nat) (tk : Nat → Nat) (hXE : ∀ U : State, X U → ES e0 tk A U) (mi : Nat) (hXL : ∀ U : State, X U → EL e0 mi A U) (ax adK adV : Nat → Nat) (hXX : ∀ U : State, X U → TX ax adK adV tk A U) (G : Nat → Option va_E) (W : Nat → Prop) (o tn : Nat) (ft : Nat → Int32) (N : Nat) (fe : Nat → Nat → Int32) (ne : Nat → Nat) (hC : CST cy e0 tk W G o tn ft N fe ne) (iv : Int32) : Met l yX13_code [.code yX13_code cX13_code 3 (some .int)] ({ frames := 12, cells := 0, slots := 0, locals := 360 }) (mk_Pre D vwCl (tyL cy) A X G [.ref o, .int iv]) (va_Qi (fun (r : Int32) (G2 : Nat → Option va_E) => CST cy e0 tk W G2 o tn ft N fe ne ∧ KPW W G G2) (mk_B D vwCl A) A) 0 0 A := by
  obtain ⟨tag, M, ge, gn, ea, ra, gi, tx, rd, to, se, kp, ow, k, ks, ss, vs, ro, rs, ln, sl, kf, fo, sf, h1, h2, h3⟩ := id hC
  by_cases hN : N = 0
  · have h0 := h1.1
    rw [if_pos hN] at h0
    refine (c_X13_code_n l D cy A X hst hXT G o tx rd to se kp _ (nI tn) _ iv h0).mono (Nat.le_of_ble_eq_true rfl) (Nat.le_of_ble_eq_true rfl) (Nat.le_of_ble_eq_true rfl) (Nat.le_of_ble_eq_true rfl) (Nat.le_of_ble_eq_true rfl) (Nat.le_of_ble_eq_true rfl) (fun _ _ h => h) ?_
    rintro a s oo t ⟨⟨r, G3, e1, ⟨-, hg⟩, e3⟩, e4⟩
    exact ⟨⟨r, G3, e1, ⟨by rw [hg]; exact hC, by rw [hg]; exact KPW.rf⟩, e3⟩, e4⟩
  · have h0 := h1.1
    rw [if_neg hN] at h0
    obtain ⟨⟨LA, EA, AD, PI, z, na, cap, nv, ui, a1, a2, a3, a4, a5, a6, a7, a8, a9, a10, a11, a12⟩, hp, hn2, hgM⟩ := h2.hand (j := N) (by omega) (Nat.le_refl _)
    have hZ := a10 (rd_gd hp)
    refine (c_H_code l D cy A X hst hXT e0 tk hXE mi hXL ax adK adV hXX G (fun _ => none) (fun _ => True) (rdV (fe N) (ne N)) z LA EA AD PI (ea (gi N)) na (rdN (fe N) (ne N)).1 cap nv ui (rdG (fe N) (ne N)) o tx rd to se kp _ (nI tn) _ iv h0 a1 hZ a3 a4 a5 a6 a9).mono (Nat.le_of_ble_eq_true rfl) (Nat.le_of_ble_eq_true rfl) (Nat.le_of_ble_eq_true rfl) (Nat.le_of_ble_eq_true rfl) (Nat.le_of_ble_eq_true rfl) (Nat.le_of_ble_eq_true rfl) (fun _ _ h => h) ?_
    rintro a s oo t ⟨⟨r, G3, e1, ⟨-, hg⟩, e3⟩, e4⟩
    exact ⟨⟨r, G3, e1, ⟨by rw [hg]; exact hC, by rw [hg]; exact KPW.rf⟩, e3⟩, e4⟩

set_option maxHeartbeats 4000000 in
theorem k_ring (l : Launch) (D : va_G) (cy : Nat → ClassId) (A : Nat → Prop) (X : State → Prop) (hst : mk_St A X) (hXT : ∀ U : State, X U → TB U) (e0 : Nat) (tk : Nat → Nat) (hXE : ∀ U : State, X U → ES e0 tk A U) (mi : Nat) (hXL : ∀ U : State, X U → EL e0 mi A U) (ax adK adV : Nat → Nat) (hXX : ∀ U : State, X U → TX ax adK adV tk A U) (G : Nat → Option va_E) (W : Nat → Prop) (o tn : Nat) (ft : Nat → Int32) (N : Nat) (fe : Nat → Nat → Int32) (ne : Nat → Nat) (hC : CST cy e0 tk W G o tn ft N fe ne) (iv : Int32) : Met l yX13_ring [.code yX13_ring cX13_ring 4 (some .int)] ({ frames := 12, cells := 0, slots := 0, locals := 360 }) (mk_Pre D vwCl (tyL cy) A X G [.ref o, .int iv]) (va_Qi (fun (r : Int32) (G2 : Nat → Option va_E) => CST cy e0 tk W G2 o tn ft N fe ne ∧ KPW W G G2) (mk_B D vwCl A) A) 0 0 A := by
  obtain ⟨tag, M, ge, gn, ea, ra, gi, tx, rd, to, se, kp, ow, k, ks, ss, vs, ro, rs, ln, sl, kf, fo, sf, h1, h2, h3⟩ := id hC
  have h0 := h1.1
  cases hr : (if M = 0 then none else ra (M - 1)) with
  | none =>
    rw [hr] at h0
    refine (c_H_ring0 l D cy A X hst hXT e0 tk hXE mi hXL ax adK adV hXX G (fun _ => none) (fun _ => True) EdV.nil PtV.nil (fun x => x) (fun x => x) (fun x => fun y => y) (fun x => x) o tx rd to se kp _ (nI tn) _ iv h0).mono (Nat.le_of_ble_eq_true rfl) (Nat.le_of_ble_eq_true rfl) (Nat.le_of_ble_eq_true rfl) (Nat.le_of_ble_eq_true rfl) (Nat.le_of_ble_eq_true rfl) (Nat.le_of_ble_eq_true rfl) (fun _ _ h => h) ?_
    rintro a s oo t ⟨⟨r, G3, e1, ⟨-, hg⟩, e3⟩, e4⟩
    exact ⟨⟨r, G3, e1, ⟨by rw [hg]; exact hC, by rw [hg]; exact KPW.rf⟩, e3⟩, e4⟩
  | some b =>
    rw [hr] at h0
    by_cases hM : M = 0
    · rw [if_pos hM] at hr; cases hr
    rw [if_neg hM] at hr
    obtain ⟨hn2, LA, EA, AD, PI, z, na, cap, nv, ui, a1, a2, a3, a4, a5, a6, a7, a8, a9, a10, a11, a12⟩ := h2.1 (M - 1) (by omega)
    rw [hr] at a12
    cases hg9 : (rdG (ge (M - 1)) (gn (M - 1))).2 with
    | none => rw [hg9] at a12; cases a12
    | some b9 =>
      rw [hg9] at a12
      obtain ⟨hb1, hb2⟩ := rdG_lt hg9
      have hb := Option.some.inj a12
      rw [hb] at h0
      refine (c_H_ring l D cy A X hst hXT e0 tk hXE mi hXL ax adK adV hXX G (fun _ => none) (fun _ => True) (rdV (ge (M - 1)) (gn (M - 1))) z LA EA AD PI o tx rd to se kp _ (nI tn) _ b9 iv h0 a1 (a10 hb2).1 hb1).mono (Nat.le_of_ble_eq_true rfl) (Nat.le_of_ble_eq_true rfl) (Nat.le_of_ble_eq_true rfl) (Nat.le_of_ble_eq_true rfl) (Nat.le_of_ble_eq_true rfl) (Nat.le_of_ble_eq_true rfl) (fun _ _ h => h) ?_
      rintro a s oo t ⟨⟨r, G3, e1, ⟨-, hg⟩, e3⟩, e4⟩
      exact ⟨⟨r, G3, e1, ⟨by rw [hg]; exact hC, by rw [hg]; exact KPW.rf⟩, e3⟩, e4⟩

set_option maxHeartbeats 4000000 in
theorem k_variant (l : Launch) (D : va_G) (cy : Nat → ClassId) (A : Nat → Prop) (X : State → Prop) (hst : mk_St A X) (hXT : ∀ U : State, X U → TB U) (e0 : Nat) (tk : Nat → Nat) (hXE : ∀ U : State, X U → ES e0 tk A U) (mi : Nat) (hXL : ∀ U : State, X U → EL e0 mi A U) (ax adK adV : Nat → Nat) (hXX : ∀ U : State, X U → TX ax adK adV tk A U) (G : Nat → Option va_E) (W : Nat → Prop) (o tn : Nat) (ft : Nat → Int32) (N : Nat) (fe : Nat → Nat → Int32) (ne : Nat → Nat) (hC : CST cy e0 tk W G o tn ft N fe ne) (iv : Int32) : Met l yX13_variant [.code yX13_variant cX13_variant 2 (some .int)] ({ frames := 12, cells := 0, slots := 0, locals := 360 }) (mk_Pre D vwCl (tyL cy) A X G [.ref o, .int iv]) (va_Qi (fun (r : Int32) (G2 : Nat → Option va_E) => CST cy e0 tk W G2 o tn ft N fe ne ∧ KPW W G G2) (mk_B D vwCl A) A) 0 0 A := by
  obtain ⟨tag, M, ge, gn, ea, ra, gi, tx, rd, to, se, kp, ow, k, ks, ss, vs, ro, rs, ln, sl, kf, fo, sf, h1, h2, h3⟩ := id hC
  by_cases hN : N = 0
  · have h0 := h1.1
    rw [if_pos hN] at h0
    refine (c_X13_variant_n l D cy A X hst hXT G o tx rd to se kp _ (nI tn) _ iv h0).mono (Nat.le_of_ble_eq_true rfl) (Nat.le_of_ble_eq_true rfl) (Nat.le_of_ble_eq_true rfl) (Nat.le_of_ble_eq_true rfl) (Nat.le_of_ble_eq_true rfl) (Nat.le_of_ble_eq_true rfl) (fun _ _ h => h) ?_
    rintro a s oo t ⟨⟨r, G3, e1, ⟨-, hg⟩, e3⟩, e4⟩
    exact ⟨⟨r, G3, e1, ⟨by rw [hg]; exact hC, by rw [hg]; exact KPW.rf⟩, e3⟩, e4⟩
  · have h0 := h1.1
    rw [if_neg hN] at h0
    obtain ⟨⟨LA, EA, AD, PI, z, na, cap, nv, ui, a1, a2, a3, a4, a5, a6, a7, a8, a9, a10, a11, a12⟩, hp, hn2, hgM⟩ := h2.hand (j := N) (by omega) (Nat.le_refl _)
    have hZ := a10 (rd_gd hp)
    refine (c_H_variant l D cy A X hst hXT e0 tk hXE mi hXL ax adK adV hXX G (fun _ => none) (fun _ => True) (rdV (fe N) (ne N)) z LA EA AD PI (ea (gi N)) na (rdN (fe N) (ne N)).1 cap nv ui (rdG (fe N) (ne N)) o tx rd to se kp _ (nI tn) _ iv h0 a1 hZ a3 a4 a5 a6 a9).mono (Nat.le_of_ble_eq_true rfl) (Nat.le_of_ble_eq_true rfl) (Nat.le_of_ble_eq_true rfl) (Nat.le_of_ble_eq_true rfl) (Nat.le_of_ble_eq_true rfl) (Nat.le_of_ble_eq_true rfl) (fun _ _ h => h) ?_
    rintro a s oo t ⟨⟨r, G3, e1, ⟨-, hg⟩, e3⟩, e4⟩
    obtain ⟨w1, w2, w3, w4⟩ := a1.oW (Or.inr rfl) a3
    have hfr : ∀ x e, G x = some e → x ≠ ea (gi N) → G3 x = some e := fun x e y1 y2 => by rw [hg]; exact mm_set_of y1 y2
    have hE : EDx cy e0 tk (fun x => tag x = gi N + 2) G3 (fe N) (ne N) (ea (gi N)) (ra (gi N)) := ⟨LA, EA, AD, PI, z, na, cap, nv, lyA (rdV (fe N) (ne N)) iv, a1.mvG (fun x => x = ea (gi N)) (fun _ _ => trivial) w1 w2 w3 w4 (fun x hx => by rw [hx, hg]; exact ⟨_, mm_set_self⟩) hfr, a2, by rw [hg]; exact mm_set_self, hfr _ _ a4 (mm_ne_ao a4 a3), a5, a6, a7, a8, fun k hk => lyA_lt hk, a10, a11, a12⟩
    have tE : tag (ea (gi N)) = gi N + 2 := a2.2.2.2.2.1
    have tS : tag se = 0 := h1.2.2.2.2.2.2.2.2.2.2.2.2.2.2.2.2.2.2.1
    have tR : tag rs = 0 := h1.2.2.2.2.2.2.2.2.2.2.2.2.2.2.2.2.2.2.2.2.2.2.2.2.2.2
    exact ⟨⟨r, G3, e1, CST.cl h1 h2 h3 hN hE (hfr _ _ h1.2.2.2.2.2.2.1 (fun y => by rw [y] at tS; omega)) (hfr _ _ h1.2.2.2.2.2.2.2.1 (fun y => by rw [y] at tR; omega)) h1.2.2.2.2.2.2.2.2.2.2.2.1 (fun x e n1 n2 n3 y => hfr x e y (fun y2 => n1 (by rw [y2]; exact tE))), e3⟩, e4⟩

theorem spO_lt {v : EdV} {i j : Int32} {y : Nat × Nat} (h : spO v i j = some y) : y.1 < v.nS ∧ y.2 < v.nP y.1 := by
  unfold spO at h
  cases hs : svO v i with
  | none => rw [hs] at h; cases h
  | some c =>
    rw [hs] at h
    cases hp : paO v c j with
    | none => simp only [hp] at h; cases h
    | some p => simp only [hp] at h; cases h; exact ⟨oIx_lt hs, oIx_lt hp⟩

set_option maxHeartbeats 4000000 in
theorem k_decode (l : Launch) (D : va_G) (cy : Nat → ClassId) (A : Nat → Prop) (X : State → Prop) (hst : mk_St A X) (hXT : ∀ U : State, X U → TB U) (e0 : Nat) (tk : Nat → Nat) (hXE : ∀ U : State, X U → ES e0 tk A U) (mi : Nat) (hXL : ∀ U : State, X U → EL e0 mi A U) (ax adK adV : Nat → Nat) (hXX : ∀ U : State, X U → TX ax adK adV tk A U) (G : Nat → Option va_E) (W : Nat → Prop) (o tn : Nat) (ft : Nat → Int32) (N : Nat) (fe : Nat → Nat → Int32) (ne : Nat → Nat) (hC : CST cy e0 tk W G o tn ft N fe ne) (iv jv wv : Int32) : Met l yX13_decode [.code yX13_decode cX13_decode 6 (some .long)] ({ frames := 12, cells := 0, slots := 0, locals := 360 }) (mk_Pre D vwCl (tyL cy) A X G [.ref o, .int iv, .int jv, .int wv]) (va_Ql (fun (r : Int64) (G2 : Nat → Option va_E) => CST cy e0 tk W G2 o tn ft N fe ne ∧ KPW W G G2) (mk_B D vwCl A) A) 0 0 A := by
  obtain ⟨tag, M, ge, gn, ea, ra, gi, tx, rd, to, se, kp, ow, k, ks, ss, vs, ro, rs, ln, sl, kf, fo, sf, h1, h2, h3⟩ := id hC
  by_cases hN : N = 0
  · have h0 := h1.1
    rw [if_pos hN] at h0
    refine (c_X13_decode_n l D cy A X hst hXT G o tx rd to se kp _ (nI tn) _ iv jv wv h0).mono (Nat.le_of_ble_eq_true rfl) (Nat.le_of_ble_eq_true rfl) (Nat.le_of_ble_eq_true rfl) (Nat.le_of_ble_eq_true rfl) (Nat.le_of_ble_eq_true rfl) (Nat.le_of_ble_eq_true rfl) (fun _ _ h => h) ?_
    rintro a s oo t ⟨⟨r, G3, e1, ⟨-, hg⟩, e3⟩, e4⟩
    exact ⟨⟨r, G3, e1, ⟨by rw [hg]; exact hC, by rw [hg]; exact KPW.rf⟩, e3⟩, e4⟩
  · have h0 := h1.1
    rw [if_neg hN] at h0
    obtain ⟨⟨LA, EA, AD, PI, z, na, cap, nv, ui, a1, a2, a3, a4, a5, a6, a7, a8, a9, a10, a11, a12⟩, hp, hn2, hgM⟩ := h2.hand (j := N) (by omega) (Nat.le_refl _)
    have hZ := a10 (rd_gd hp)
    refine (c_H_decode l D cy A X hst hXT e0 tk hXE mi hXL ax adK adV hXX G (fun _ => none) (fun _ => True) (rdV (fe N) (ne N)) z LA EA AD PI (ea (gi N)) na (rdN (fe N) (ne N)).1 cap nv ui (rdG (fe N) (ne N)) o tx rd to se kp _ (nI tn) _ iv jv wv ro ln fo h0 a1 hZ a3 a4 a5 a6 a9 rdV_w h1.2.2.2.2.1 h1.2.2.2.2.2.1 h1.2.2.2.2.2.2.2.2.2.2.1).mono (Nat.le_of_ble_eq_true rfl) (Nat.le_of_ble_eq_true rfl) (Nat.le_of_ble_eq_true rfl) (Nat.le_of_ble_eq_true rfl) (Nat.le_of_ble_eq_true rfl) (Nat.le_of_ble_eq_true rfl) (fun _ _ h => h) ?_
    rintro a s oo t ⟨⟨r, G3, e1, hw, e3⟩, e4⟩
    cases hy : spO (rdV (fe N) (ne N)) iv jv with
    | none => rw [hy] at hw; exact ⟨⟨r, G3, e1, ⟨by rw [hw.2]; exact hC, by rw [hw.2]; exact KPW.rf⟩, e3⟩, e4⟩
    | some y =>
    rw [hy] at hw
    simp only [] at hw
    by_cases hv9 : 0 ≤ wv ∧ wv ≤ 4
    · rw [if_pos hv9] at hw
      obtain ⟨-, hP2, hfr⟩ := hw
      obtain ⟨y1, y2⟩ := spO_lt hy
      have tS : tag se = 0 := h1.2.2.2.2.2.2.2.2.2.2.2.2.2.2.2.2.2.2.1
      have tR : tag rs = 0 := h1.2.2.2.2.2.2.2.2.2.2.2.2.2.2.2.2.2.2.2.2.2.2.2.2.2.2
      obtain ⟨w1, w2, w3, w4⟩ := a1.oW (Or.inr rfl) a3
      have hlv : ∀ c, c < (rdV (fe N) (ne N)).nS → lvV (rdV (fe N) (ne N)) (20 + c) := fun c hc => Or.inr (Or.inr (Or.inl ⟨by omega, by omega⟩))
      have hln9 : ∀ c, c < (rdV (fe N) (ne N)).nS → lnV (rdV (fe N) (ne N)) (20 + c) = (rdV (fe N) (ne N)).nP c := fun c hc => by have hb := a1.b.2.2.1; unfold lnV; rw [if_neg (by omega), if_neg (by omega), if_neg (by omega), if_neg (by omega), if_neg (by omega), if_neg (by omega), if_neg (by omega), if_pos (by omega), show 20 + c - 20 = c by omega]
      have hap : ∀ c i, c < (rdV (fe N) (ne N)).nS → i < (rdV (fe N) (ne N)).nP c → tag (AD (20 + c) i) = gi N + 2 ∧ AD (20 + c) i ≠ ea (gi N) ∧ AD (20 + c) i ≠ na := fun c i hc hi => ⟨a2.2.2.1 _ _ (hlv c hc) (by rw [hln9 c hc]; exact hi), w3 _ _ (hlv c hc) (by rw [hln9 c hc]; exact hi), mm_ne_oa (a1.L.el _ _ (hlv c hc) (by rw [hln9 c hc]; exact hi)) a4⟩
      have hE : EDx cy e0 tk (fun x => tag x = gi N + 2) G3 (fe N) (ne N) (ea (gi N)) (ra (gi N)) := ⟨LA, EA, AD, PI, _, na, cap, nv, ui, hP2, a2, hfr _ _ a3 (fun i hi => Ne.symm (hap _ i y1 hi).2.1), hfr _ _ a4 (fun i hi => Ne.symm (hap _ i y1 hi).2.2), a5, a6, a7, a8, a9, fun h => a10 h, a11, a12⟩
      exact ⟨⟨r, G3, e1, CST.cl h1 h2 h3 hN hE (hfr _ _ h1.2.2.2.2.2.2.1 (fun i hi y => by have := (hap _ i y1 hi).1; rw [← y] at this; omega)) (hfr _ _ h1.2.2.2.2.2.2.2.1 (fun i hi y => by have := (hap _ i y1 hi).1; rw [← y] at this; omega)) h1.2.2.2.2.2.2.2.2.2.2.2.1 (fun x e n1 n2 n3 y => hfr x e y (fun i hi y2 => n1 (by rw [y2]; exact (hap _ i y1 hi).1))), e3⟩, e4⟩
    · rw [if_neg hv9] at hw; exact ⟨⟨r, G3, e1, ⟨by rw [hw.2]; exact hC, by rw [hw.2]; exact KPW.rf⟩, e3⟩, e4⟩

set_option maxHeartbeats 4000000 in
theorem k_encode (l : Launch) (D : va_G) (cy : Nat → ClassId) (A : Nat → Prop) (X : State → Prop) (hst : mk_St A X) (hXT : ∀ U : State, X U → TB U) (e0 : Nat) (tk : Nat → Nat) (hXE : ∀ U : State, X U → ES e0 tk A U) (mi : Nat) (hXL : ∀ U : State, X U → EL e0 mi A U) (ax adK adV : Nat → Nat) (hXX : ∀ U : State, X U → TX ax adK adV tk A U) (G : Nat → Option va_E) (W : Nat → Prop) (o tn : Nat) (ft : Nat → Int32) (N : Nat) (fe : Nat → Nat → Int32) (ne : Nat → Nat) (hC : CST cy e0 tk W G o tn ft N fe ne) (iv jv : Int32) (xv : Int64) : Met l yX13_encode [.code yX13_encode cX13_encode 9 (some .int)] ({ frames := 12, cells := 0, slots := 0, locals := 360 }) (mk_Pre D vwCl (tyL cy) A X G [.ref o, .int iv, .int jv, .long xv]) (va_Qi (fun (r : Int32) (G2 : Nat → Option va_E) => CST cy e0 tk W G2 o tn ft N fe ne ∧ KPW W G G2) (mk_B D vwCl A) A) 0 0 A := by
  obtain ⟨tag, M, ge, gn, ea, ra, gi, tx, rd, to, se, kp, ow, k, ks, ss, vs, ro, rs, ln, sl, kf, fo, sf, h1, h2, h3⟩ := id hC
  by_cases hN : N = 0
  · have h0 := h1.1
    rw [if_pos hN] at h0
    refine (c_X13_encode_n l D cy A X hst hXT G o tx rd to se kp _ (nI tn) _ iv jv xv h0).mono (Nat.le_of_ble_eq_true rfl) (Nat.le_of_ble_eq_true rfl) (Nat.le_of_ble_eq_true rfl) (Nat.le_of_ble_eq_true rfl) (Nat.le_of_ble_eq_true rfl) (Nat.le_of_ble_eq_true rfl) (fun _ _ h => h) ?_
    rintro a s oo t ⟨⟨r, G3, e1, ⟨-, hg⟩, e3⟩, e4⟩
    exact ⟨⟨r, G3, e1, ⟨by rw [hg]; exact hC, by rw [hg]; exact KPW.rf⟩, e3⟩, e4⟩
  · have h0 := h1.1
    rw [if_neg hN] at h0
    obtain ⟨⟨LA, EA, AD, PI, z, na, cap, nv, ui, a1, a2, a3, a4, a5, a6, a7, a8, a9, a10, a11, a12⟩, hp, hn2, hgM⟩ := h2.hand (j := N) (by omega) (Nat.le_refl _)
    have hZ := a10 (rd_gd hp)
    refine (c_H_encode l D cy A X hst hXT e0 tk hXE mi hXL ax adK adV hXX G (fun _ => none) (fun _ => True) (rdV (fe N) (ne N)) z LA EA AD PI (ea (gi N)) na (rdN (fe N) (ne N)).1 cap nv ui (rdG (fe N) (ne N)) o tx rd to kp _ (nI tn) _ iv jv xv se rs sl sf h0 a1 hZ a3 a4 a5 a6 a9 rdV_w h1.2.2.2.2.2.2.1 h1.2.2.2.2.2.2.2.1 h1.2.2.2.2.2.2.2.2.2.2.2.1 trivial trivial).mono (Nat.le_of_ble_eq_true rfl) (Nat.le_of_ble_eq_true rfl) (Nat.le_of_ble_eq_true rfl) (Nat.le_of_ble_eq_true rfl) (Nat.le_of_ble_eq_true rfl) (Nat.le_of_ble_eq_true rfl) (fun _ _ h => h) ?_
    rintro a s oo t ⟨⟨r, G3, e1, hw, e3⟩, e4⟩
    cases hy : spO (rdV (fe N) (ne N)) iv jv with
    | none => rw [hy] at hw; exact ⟨⟨r, G3, e1, ⟨by rw [hw.2]; exact hC, by rw [hw.2]; exact KPW.rf⟩, e3⟩, e4⟩
    | some y =>
    rw [hy] at hw
    simp only [] at hw
    cases hc9 : cdN (rdV (fe N) (ne N)) ((rdV (fe N) (ne N)).P y.1 y.2).2.2.1 with
    | none => rw [hc9] at hw; exact ⟨⟨r, G3, e1, ⟨by rw [hw.2]; exact hC, by rw [hw.2]; exact KPW.rf⟩, e3⟩, e4⟩
    | some k9 =>
    rw [hc9] at hw
    simp only [] at hw
    split at hw
    · exact ⟨⟨r, G3, e1, ⟨by rw [hw.2]; exact hC, by rw [hw.2]; exact KPW.rf⟩, e3⟩, e4⟩
    · obtain ⟨-, b1, b2, hP2, hfr, hl2⟩ := hw
      obtain ⟨y1, y2⟩ := spO_lt hy
      have tS : tag se = 0 := h1.2.2.2.2.2.2.2.2.2.2.2.2.2.2.2.2.2.2.1
      have tR : tag rs = 0 := h1.2.2.2.2.2.2.2.2.2.2.2.2.2.2.2.2.2.2.2.2.2.2.2.2.2.2
      obtain ⟨w1, w2, w3, w4⟩ := a1.oW (Or.inr rfl) a3
      have hlv : ∀ c, c < (rdV (fe N) (ne N)).nS → lvV (rdV (fe N) (ne N)) (20 + c) := fun c hc => Or.inr (Or.inr (Or.inl ⟨by omega, by omega⟩))
      have hln9 : ∀ c, c < (rdV (fe N) (ne N)).nS → lnV (rdV (fe N) (ne N)) (20 + c) = (rdV (fe N) (ne N)).nP c := fun c hc => by have hb := a1.b.2.2.1; unfold lnV; rw [if_neg (by omega), if_neg (by omega), if_neg (by omega), if_neg (by omega), if_neg (by omega), if_neg (by omega), if_neg (by omega), if_pos (by omega), show 20 + c - 20 = c by omega]
      have hap : ∀ c i, c < (rdV (fe N) (ne N)).nS → i < (rdV (fe N) (ne N)).nP c → tag (AD (20 + c) i) = gi N + 2 ∧ AD (20 + c) i ≠ ea (gi N) ∧ AD (20 + c) i ≠ na := fun c i hc hi => ⟨a2.2.2.1 _ _ (hlv c hc) (by rw [hln9 c hc]; exact hi), w3 _ _ (hlv c hc) (by rw [hln9 c hc]; exact hi), mm_ne_oa (a1.L.el _ _ (hlv c hc) (by rw [hln9 c hc]; exact hi)) a4⟩
      have hE : EDx cy e0 tk (fun x => tag x = gi N + 2) G3 (fe N) (ne N) (ea (gi N)) (ra (gi N)) := ⟨LA, EA, AD, PI, _, na, cap, nv, ui, hP2, a2, hfr _ _ a3 (fun y => by have := a2.2.2.2.2.1; rw [y] at this; omega) (fun y => by have := a2.2.2.2.2.1; rw [y] at this; omega) (fun i hi => Ne.symm (hap _ i y1 hi).2.1), hfr _ _ a4 (fun y => by have := a2.2.2.2.2.2; rw [y] at this; omega) (fun y => by have := a2.2.2.2.2.2; rw [y] at this; omega) (fun i hi => Ne.symm (hap _ i y1 hi).2.2), a5, a6, a7, a8, a9, fun h => a10 h, a11, a12⟩
      exact ⟨⟨r, G3, e1, CST.cl h1 h2 h3 hN hE b1 b2 hl2 (fun x e n1 n2 n3 y => hfr x e y n2 n3 (fun i hi y2 => n1 (by rw [y2]; exact (hap _ i y1 hi).1))), e3⟩, e4⟩

set_option maxHeartbeats 4000000 in
theorem k_job (l : Launch) (D : va_G) (cy : Nat → ClassId) (A : Nat → Prop) (X : State → Prop) (hst : mk_St A X) (hXT : ∀ U : State, X U → TB U) (e0 : Nat) (tk : Nat → Nat) (hXE : ∀ U : State, X U → ES e0 tk A U) (mi : Nat) (hXL : ∀ U : State, X U → EL e0 mi A U) (ax adK adV : Nat → Nat) (hXX : ∀ U : State, X U → TX ax adK adV tk A U) (G : Nat → Option va_E) (W : Nat → Prop) (o tn : Nat) (ft : Nat → Int32) (N : Nat) (fe : Nat → Nat → Int32) (ne : Nat → Nat) (hC : CST cy e0 tk W G o tn ft N fe ne) (iv : Int32) (xs : Int64) : Met l yX13_job [.code yX13_job cX13_job 4 (some .int)] ({ frames := 12, cells := 0, slots := 0, locals := 360 }) (mk_Pre D vwCl (tyL cy) A X G [.ref o, .int iv, .long xs]) (va_Qi (fun (r : Int32) (G2 : Nat → Option va_E) => CST cy e0 tk W G2 o tn ft N fe ne ∧ KPW W G G2) (mk_B D vwCl A) A) 0 0 A := by
  obtain ⟨tag, M, ge, gn, ea, ra, gi, tx, rd, to, se, kp, ow, k, ks, ss, vs, ro, rs, ln, sl, kf, fo, sf, h1, h2, h3⟩ := id hC
  by_cases hN : N = 0
  · have h0 := h1.1
    rw [if_pos hN] at h0
    refine (c_X13_job_n l D cy A X hst hXT G o tx rd to se kp _ (nI tn) _ iv xs h0).mono (Nat.le_of_ble_eq_true rfl) (Nat.le_of_ble_eq_true rfl) (Nat.le_of_ble_eq_true rfl) (Nat.le_of_ble_eq_true rfl) (Nat.le_of_ble_eq_true rfl) (Nat.le_of_ble_eq_true rfl) (fun _ _ h => h) ?_
    rintro a s oo t ⟨⟨r, G3, e1, ⟨-, hg⟩, e3⟩, e4⟩
    exact ⟨⟨r, G3, e1, ⟨by rw [hg]; exact hC, by rw [hg]; exact KPW.rf⟩, e3⟩, e4⟩
  · have h0 := h1.1
    rw [if_neg hN] at h0
    obtain ⟨⟨LA, EA, AD, PI, z, na, cap, nv, ui, a1, a2, a3, a4, a5, a6, a7, a8, a9, a10, a11, a12⟩, hp, hn2, hgM⟩ := h2.hand (j := N) (by omega) (Nat.le_refl _)
    have hZ := a10 (rd_gd hp)
    refine (c_H_job l D cy A X hst hXT e0 tk hXE mi hXL ax adK adV hXX G (fun _ => none) (fun _ => True) (rdV (fe N) (ne N)) z LA EA AD PI (ea (gi N)) na (rdN (fe N) (ne N)).1 cap nv ui (rdG (fe N) (ne N)) o tx rd to se kp _ (nI tn) _ iv xs ro ln fo rs sl sf h0 a1 hZ a3 a4 a5 a6 a9 rdV_w rdV_ko a11 h1.2.2.2.2.2.2.2.2.1 h1.2.2.2.2.2.2.2.2.2.1 h1.2.2.2.2.1 h1.2.2.2.2.2.1 h1.2.2.2.2.2.2.2.2.2.2.1 h1.2.2.2.2.2.2.1 h1.2.2.2.2.2.2.2.1 h1.2.2.2.2.2.2.2.2.2.2.2.1 trivial trivial).mono (Nat.le_of_ble_eq_true rfl) (Nat.le_of_ble_eq_true rfl) (Nat.le_of_ble_eq_true rfl) (Nat.le_of_ble_eq_true rfl) (Nat.le_of_ble_eq_true rfl) (Nat.le_of_ble_eq_true rfl) (fun _ _ h => h) ?_
    rintro a s oo t ⟨⟨r, G3, e1, hw, e3⟩, e4⟩
    cases hy : oIx iv (rdV (fe N) (ne N)).nJ with
    | none => rw [hy] at hw; exact ⟨⟨r, G3, e1, ⟨by rw [hw.2]; exact hC, by rw [hw.2]; exact KPW.rf⟩, e3⟩, e4⟩
    | some k9 =>
    rw [hy] at hw
    simp only [] at hw
    have hk9 := oIx_lt hy
    by_cases hv9 : ¬ xs < 0 ∧ xs ≤ 5000
    · rw [if_pos hv9] at hw
      obtain ⟨-, b1, b2, hP2, hh2, hl2, hfr⟩ := hw
      have tS : tag se = 0 := h1.2.2.2.2.2.2.2.2.2.2.2.2.2.2.2.2.2.2.1
      have tR : tag rs = 0 := h1.2.2.2.2.2.2.2.2.2.2.2.2.2.2.2.2.2.2.2.2.2.2.2.2.2.2
      obtain ⟨w1, w2, w3, w4⟩ := a1.oW (Or.inr rfl) a3
      have hlv : ∀ c, c < (rdV (fe N) (ne N)).nS → lvV (rdV (fe N) (ne N)) (20 + c) := fun c hc => Or.inr (Or.inr (Or.inl ⟨by omega, by omega⟩))
      have hln9 : ∀ c, c < (rdV (fe N) (ne N)).nS → lnV (rdV (fe N) (ne N)) (20 + c) = (rdV (fe N) (ne N)).nP c := fun c hc => by have hb := a1.b.2.2.1; unfold lnV; rw [if_neg (by omega), if_neg (by omega), if_neg (by omega), if_neg (by omega), if_neg (by omega), if_neg (by omega), if_neg (by omega), if_pos (by omega), show 20 + c - 20 = c by omega]
      have hap : ∀ c i, c < (rdV (fe N) (ne N)).nS → i < (rdV (fe N) (ne N)).nP c → tag (AD (20 + c) i) = gi N + 2 ∧ AD (20 + c) i ≠ ea (gi N) ∧ AD (20 + c) i ≠ na := fun c i hc hi => ⟨a2.2.2.1 _ _ (hlv c hc) (by rw [hln9 c hc]; exact hi), w3 _ _ (hlv c hc) (by rw [hln9 c hc]; exact hi), mm_ne_oa (a1.L.el _ _ (hlv c hc) (by rw [hln9 c hc]; exact hi)) a4⟩
      have hl5 : k9 < lnV (rdV (fe N) (ne N)) 5 := hk9
      have hA5 : tag (AD 5 k9) = gi N + 2 := a2.2.2.1 5 k9 (Or.inl (by decide)) hl5
      have hP5 : tag (PI k9) = gi N + 2 := a2.2.2.2.1 k9 hk9
      have hE : EDx cy e0 tk (fun x => tag x = gi N + 2) G3 (fe N) (ne N) (ea (gi N)) (ra (gi N)) := ⟨LA, EA, AD, PI, _, na, cap, nv, ui, hP2, a2, hfr _ _ a3 (Ne.symm (w3 5 k9 (Or.inl (by decide)) hl5)) (Ne.symm (w4 k9 hk9)) (fun y => by have := a2.2.2.2.2.1; rw [y] at this; omega) (fun y => by have := a2.2.2.2.2.1; rw [y] at this; omega) (fun c i hc hi => Ne.symm (hap c i hc hi).2.1), hfr _ _ a4 (mm_ne_ao a4 (a1.L.el 5 k9 (Or.inl (by decide)) hl5)) (Ne.symm (a8 k9 hk9)) (fun y => by have := a2.2.2.2.2.2; rw [y] at this; omega) (fun y => by have := a2.2.2.2.2.2; rw [y] at this; omega) (fun c i hc hi => Ne.symm (hap c i hc hi).2.2), a5, a6, a7, a8, a9, fun h => a10 h, fun j hj => by
        by_cases hjk : j = k9
        · exact ⟨_, hh2, by rw [hjk]; exact up1_eq⟩
        · obtain ⟨h9, q1, q2⟩ := a11 j hj
          exact ⟨h9, q1, (up1_ne hjk).trans q2⟩, a12⟩
      exact ⟨⟨r, G3, e1, CST.cl h1 h2 h3 hN hE b1 b2 hl2 (fun x e n1 n2 n3 y => hfr x e y (fun y2 => n1 (by rw [y2]; exact hA5)) (fun y2 => n1 (by rw [y2]; exact hP5)) n2 n3 (fun c i hc hi y2 => n1 (by rw [y2]; exact (hap c i hc hi).1))), e3⟩, e4⟩
    · rw [if_neg hv9] at hw; exact ⟨⟨r, G3, e1, ⟨by rw [hw.2]; exact hC, by rw [hw.2]; exact KPW.rf⟩, e3⟩, e4⟩

set_option maxHeartbeats 4000000 in
theorem k_compare (l : Launch) (D : va_G) (cy : Nat → ClassId) (A : Nat → Prop) (X : State → Prop) (hst : mk_St A X) (hXT : ∀ U : State, X U → TB U) (e0 : Nat) (tk : Nat → Nat) (hXE : ∀ U : State, X U → ES e0 tk A U) (mi : Nat) (hXL : ∀ U : State, X U → EL e0 mi A U) (ax adK adV : Nat → Nat) (hXX : ∀ U : State, X U → TX ax adK adV tk A U) (G : Nat → Option va_E) (W : Nat → Prop) (o tn : Nat) (ft : Nat → Int32) (N : Nat) (fe : Nat → Nat → Int32) (ne : Nat → Nat) (hC : CST cy e0 tk W G o tn ft N fe ne) (iv : Int32) : Met l yX13_compare [.code yX13_compare cX13_compare 3 (some .int)] ({ frames := 12, cells := 0, slots := 0, locals := 360 }) (mk_Pre D vwCl (tyL cy) A X G [.ref o, .int iv]) (va_Qi (fun (r : Int32) (G2 : Nat → Option va_E) => CST cy e0 tk W G2 o tn ft N fe ne ∧ KPW W G G2) (mk_B D vwCl A) A) 0 0 A := by
  obtain ⟨tag, M, ge, gn, ea, ra, gi, tx, rd, to, se, kp, ow, k, ks, ss, vs, ro, rs, ln, sl, kf, fo, sf, h1, h2, h3⟩ := id hC
  by_cases hN : N = 0
  · have h0 := h1.1
    rw [if_pos hN] at h0
    refine (c_X13_compare_n l D cy A X hst hXT G o tx rd to se kp _ (nI tn) _ iv h0).mono (Nat.le_of_ble_eq_true rfl) (Nat.le_of_ble_eq_true rfl) (Nat.le_of_ble_eq_true rfl) (Nat.le_of_ble_eq_true rfl) (Nat.le_of_ble_eq_true rfl) (Nat.le_of_ble_eq_true rfl) (fun _ _ h => h) ?_
    rintro a s oo t ⟨⟨r, G3, e1, ⟨-, hg⟩, e3⟩, e4⟩
    exact ⟨⟨r, G3, e1, ⟨by rw [hg]; exact hC, by rw [hg]; exact KPW.rf⟩, e3⟩, e4⟩
  · have h0 := h1.1
    rw [if_neg hN] at h0
    obtain ⟨⟨LA, EA, AD, PI, z, na, cap, nv, ui, a1, a2, a3, a4, a5, a6, a7, a8, a9, a10, a11, a12⟩, hp, hn2, hgM⟩ := h2.hand (j := N) (by omega) (Nat.le_refl _)
    have hZ := a10 (rd_gd hp)
    have hkn := h1.2.2.2.2.2.2.2.2.2.2.2.2.2.1
    by_cases hx9 : ∃ k, k < (if N < 4 then N else 4) ∧ iv = nI (k + 1)
    · obtain ⟨k9, hk9, hi9⟩ := hx9
      have hkN : k9 + 1 ≤ N := by split at hk9 <;> omega
      obtain ⟨⟨LB, EB, AB, PB, zb, nb, cb, nvb, ub, b1, b2, b3, b4, b5, b6, b7, b8, b9, b10, b11, b12⟩, hpb, -, -⟩ := h2.hand (j := k9 + 1) (by omega) hkN
      refine (c_H_compare l D cy A X hst hXT e0 tk hXE mi hXL ax adK adV hXX G (fun _ => none) (fun _ => True) (rdV (fe N) (ne N)) z LA EA AD PI (fun _ => none) (fun _ => True) (rdV (fe (k9 + 1)) (ne (k9 + 1))) zb LB EB AB PB (ea (gi N)) na _ _ _ _ (ea (gi (k9 + 1))) nb _ _ _ _ o tx rd to se kp _ (nI tn) _ kf iv h0 h1.2.2.2.1 hkn a1 hZ b1 (b10 (rd_gd hpb)) a3 b3 (fun k hk hi => ?_)).mono (Nat.le_of_ble_eq_true rfl) (Nat.le_of_ble_eq_true rfl) (Nat.le_of_ble_eq_true rfl) (Nat.le_of_ble_eq_true rfl) (Nat.le_of_ble_eq_true rfl) (Nat.le_of_ble_eq_true rfl) (fun _ _ h => h) ?_
      · have hk4 : k < 4 := by split at hk <;> omega
        have hkN2 : k < N := by split at hk <;> omega
        have hkk : k + 1 = k9 + 1 := nI_inj (by omega) (by omega) (hi.symm.trans hi9)
        rw [h2.2.2 k hkN2 hk4, hkk]
      rintro a s oo t ⟨⟨r, G3, e1, hg, e3⟩, e4⟩
      exact ⟨⟨r, G3, e1, ⟨by rw [hg]; exact hC, by rw [hg]; exact KPW.rf⟩, e3⟩, e4⟩
    · refine (c_H_compareN l D cy A X hst hXT e0 tk hXE mi hXL ax adK adV hXX G (fun _ => none) (fun _ => True) (rdV (fe N) (ne N)) z LA EA AD PI (ea (gi N)) na _ _ _ _ o tx rd to se kp _ (nI tn) _ kf iv h0 h1.2.2.2.1 hkn a1 a3 (fun k hk hi => hx9 ⟨k, hk, hi⟩)).mono (Nat.le_of_ble_eq_true rfl) (Nat.le_of_ble_eq_true rfl) (Nat.le_of_ble_eq_true rfl) (Nat.le_of_ble_eq_true rfl) (Nat.le_of_ble_eq_true rfl) (Nat.le_of_ble_eq_true rfl) (fun _ _ h => h) ?_
      rintro a s oo t ⟨⟨r, G3, e1, hg, e3⟩, e4⟩
      exact ⟨⟨r, G3, e1, ⟨by rw [hg]; exact hC, by rw [hg]; exact KPW.rf⟩, e3⟩, e4⟩
