set_option maxHeartbeats 4000000 in
theorem k2_rd {cy : Nat → ClassId} {e0 : Nat} {tk : Nat → Nat} {G G2 : Nat → Option va_E} {W : Nat → Prop} {o tn : Nat} {ft : Nat → Int32} {N : Nat} {fe : Nat → Nat → Int32} {ne : Nat → Nat} {tag : Nat → Nat} {M : Nat} {ge : Nat → Nat → Int32} {gn ea : Nat → Nat} {ra eu : Nat → Option Nat} {ui : Option Nat} {gi : Nat → Nat} {tx rd to se kp ow k ks ss vs ro rs ln sl : Nat} {kf : Nat → Option Nat} {fo sf : Nat → Int32} (h1 : CSa cy tk tag G o tx rd to se kp ow k ks ss vs ro rs (if N = 0 then none else some (ea (gi N))) (if M = 0 then none else ra (M - 1)) tn (if N < 4 then N else 4) ln sl ft kf fo sf) (h2 : CSf cy e0 tk tag G M ge gn ea ra eu gi N fe ne kf) (h3 : ∀ x, W x → tag x = 1 ∧ ∃ e, G x = some e) (h4 : ¬ N = 0 → eu (gi N) = ui) (hw : ∃ (q : Nat) (LA EA : Nat → Nat) (AD : Nat → Nat → Nat) (PI : Nat → Nat) (z2 : PtV) (na cap2 : Nat) (nv2 : Nat → Int64), RDS cy tk G2 rd ow k ks ss vs ∧ EDP cy e0 tk G (fun x => x = o ∨ x = rd ∨ x = ow ∨ x = k ∨ x = ks ∨ x = ss ∨ x = vs ∨ x = kp) G2 (rdV ft tn) z2 LA EA AD PI ∧ (∀ k, lvV (rdV ft tn) k → G (LA k) = none) ∧ G q = none ∧ G na = none ∧ (∀ i, i < (rdV ft tn).nJ → PI i ≠ na) ∧ G2 na = some (.inl (cy 2, cap2, .inr (.inl nv2))) ∧ (rdN ft tn).1 ≤ cap2 ∧ cap2 ≤ 2048 ∧ (∀ i, i < (rdN ft tn).1 → nv2 i = (rdN ft tn).2 i) ∧ zOth PtV.nil z2 ∧ ((rdF ft tn).2.2 < 0 → zLo (rdV ft tn) AD z2 ∧ zVl (rdV ft tn) AD z2 ∧ (∀ c, c < (rdV ft tn).nS → zPr (rdV ft tn) AD z2 c) ∧ (∀ c, c < (rdV ft tn).nJ → zOp (rdV ft tn) AD z2 c)) ∧ G2 q = some (.inr (3, [.ref (LA 0), .ref (LA 1), .ref (LA 2), .ref (LA 3), .ref (LA 4), .ref (LA 5), .ref na, .int (nI (rdN ft tn).1), va_rf (if rdP ft tn < 0 then (if (rdV ft tn).nL = 0 then none else some (AD 1 0)) else none), .int ((rdG ft tn).1), va_rf ((rdG ft tn).2.map (AD 1))])) ∧ G2 o = some (.inr (14, [.ref tx, .ref rd, .ref to, .ref se, .ref kp, .int 0, .int (nI (if rdP ft tn < 0 then (if (if N < 4 then N else 4) < 4 then (if N < 4 then N else 4) + 1 else (if N < 4 then N else 4)) else (if N < 4 then N else 4))), va_rf (if rdP ft tn < 0 then some q else (if N = 0 then none else some (ea (gi N)))), va_rf ((rdG ft tn).2.map (AD 1))])) ∧ G2 kp = some (.inl (cy 6, 4, .inr (.inr (.inr (.inr (if rdP ft tn < 0 then (if (if N < 4 then N else 4) < 4 then va_up kf (if N < 4 then N else 4) (some q) else kf) else kf))))))) : (rdP ft tn < 0 → CSU cy e0 tk W G2 o 0 ft (N + 1) (kup fe (N + 1) ft) (kup ne (N + 1) tn) (RDu ft tn) ft tn ln fo) ∧ (¬ rdP ft tn < 0 → CSU cy e0 tk W G2 o 0 ft N fe ne ui ft tn ln fo) ∧ KPW W G G2 := by
  obtain ⟨q, LA, EA, AD, PI, z2, na, cap2, nv2, p1, p2, p3, p4, p5, p6, p7, p8, p9, p10, p11, p12, p13, p14, p15⟩ := hw
  obtain ⟨a1, a2, a3, a4, a5, a6, a7, a8, a9, a10, a11, a12, a13, a14, t1, t2, t3, t4, t5, t6, t7, t8, t9, t10, t11, t12, t13⟩ := id h1
  have hnB : ∀ x, tag x ≠ 0 → ¬ (x = o ∨ x = rd ∨ x = ow ∨ x = k ∨ x = ks ∨ x = ss ∨ x = vs ∨ x = kp) := by
    intro x hx z
    rcases z with z | z | z | z | z | z | z | z <;> (rw [z] at hx; omega)
  have hfr := p2.L.fr
  have hal := p2.L.al
  have hw : KPW W G G2 := fun x e w z => hfr x e z (hnB x (by rw [(h3 x w).1]; decide))
  obtain ⟨T, hT⟩ : ∃ T, T = tgN G tag (M + 2) := ⟨_, rfl⟩
  have Ts : ∀ {x e}, G x = some e → T x = tag x := fun h => by rw [hT]; exact tgN_s h
  have Tn : ∀ {x}, G x = none → T x = M + 2 := fun h => by rw [hT]; exact tgN_n h
  obtain ⟨u0, eu0⟩ : ∃ u : Option Nat, u = if rdP ft tn < 0 then RDu ft tn else none := ⟨_, rfl⟩
  have hE : EDy cy e0 tk (fun x => T x = M + 2) G2 ft tn q ((rdG ft tn).2.map (AD 1)) u0 := by
    refine ⟨LA, EA, AD, PI, z2, na, cap2, nv2, EDP.base p2 (fun _ _ => rfl) (fun _ _ => Or.inl rfl) (fun x e z => by cases z) (fun x e z => by cases z), ⟨fun k hk => Tn (p3 k hk), fun k hk n => Tn (p2.L.fe k hk n), fun k i hk hi => Tn (p2.L.fa k i hk hi), fun i hi => Tn (p2.pn i hi), Tn p4, Tn p5⟩, ?_, p7, p8, p9, p10, p6, ?_, p12, ?_, rfl⟩
    · rw [show u0.map (AD 1) = (if rdP ft tn < 0 then (if (rdV ft tn).nL = 0 then none else some (AD 1 0)) else none) by rw [eu0]; unfold RDu; split <;> (try split) <;> rfl]
      exact p13
    · intro k hk
      rw [eu0] at hk
      unfold RDu at hk
      split at hk
      · split at hk
        · cases hk
        · cases hk; omega
      · cases hk
    · intro j hj
      exact ⟨0, by omega, by rw [p11.2.1]; rfl⟩
  have hold : ∀ g, g < M → EDy cy e0 tk (fun x => T x = g + 2) G2 (ge g) (gn g) (ea g) (ra g) (eu g) := fun g hg => ((h2.1 g hg).2.pr (P2 := fun x => T x = g + 2) (fun x e z y => (Ts z).trans y)).mv (fun x e z y => hfr x e z (hnB x (by rw [← Ts z, y]; omega)))
  have hgE : ∀ g, g < M + 1 → kup gn M tn g ≤ 2000 ∧ EDy cy e0 tk (fun x => T x = g + 2) G2 (kup ge M ft g) (kup gn M tn g) (kup ea M q g) (kup ra M ((rdG ft tn).2.map (AD 1)) g) (kup eu M u0 g) := by
    intro g hg
    by_cases z : g = M
    · rw [z, kup_eq, kup_eq, kup_eq, kup_eq, kup_eq]; exact ⟨a13, hE⟩
    · rw [kup_ne z, kup_ne z, kup_ne z, kup_ne z, kup_ne z]; exact ⟨(h2.1 g (by omega)).1, hold g (by omega)⟩
  have hrg : (if M + 1 = 0 then none else kup ra M ((rdG ft tn).2.map (AD 1)) (M + 1 - 1)) = (rdG ft tn).2.map (AD 1) := by
    rw [if_neg (by omega), show M + 1 - 1 = M by omega, kup_eq]
  have hW3 : ∀ x, W x → T x = 1 ∧ ∃ e, G2 x = some e := fun x w => by
    obtain ⟨e, he⟩ := (h3 x w).2
    exact ⟨(Ts he).trans (h3 x w).1, e, hw x e w he⟩
  have hRn := a2.ne (n := 0) a7 a8
  have hRm := a2.ne (n := 0) a5 a6
  have nB : ∀ x, x ≠ o → x ≠ kp → (∀ y, (y = rd ∨ y = ow ∨ y = k ∨ y = ks ∨ y = ss ∨ y = vs) → y ≠ x) → ¬ (x = o ∨ x = rd ∨ x = ow ∨ x = k ∨ x = ks ∨ x = ss ∨ x = vs ∨ x = kp) := by
    intro x n1 n2 n3 z
    rcases z with z | z | z | z | z | z | z | z
    · exact n1 z
    · exact n3 rd (by simp) z.symm
    · exact n3 ow (by simp) z.symm
    · exact n3 k (by simp) z.symm
    · exact n3 ks (by simp) z.symm
    · exact n3 ss (by simp) z.symm
    · exact n3 vs (by simp) z.symm
    · exact n2 z
  have b3 := hfr _ _ a3 (nB tx (mm_ne_ao a3 a1) (mm_ne_n a3 a4 (by decide)) (fun y hy z => by
    obtain ⟨edp, pl, fa, m, K, S, V, wf, r1, ⟨u1, u2, u3, r2, r3, r4, r5, r6⟩, r7⟩ := a2
    rcases hy with hy | hy | hy | hy | hy | hy
    · exact mm_ne_oa r1 a3 (hy ▸ z)
    · exact mm_ne_n r7 a3 (by decide) (hy ▸ z)
    · exact mm_ne_oa r2 a3 (hy ▸ z)
    · exact mm_ne_n r3 a3 (by decide) (hy ▸ z)
    · exact mm_ne_n r4 a3 (by decide) (hy ▸ z)
    · exact mm_ne_n r5 a3 (by decide) (hy ▸ z)))
  have b5 := hfr _ _ a5 (nB to (mm_ne_oo a5 a1 (by decide)) (mm_ne_oa a5 a4) (fun y hy => (hRm y hy).1))
  have b6 := hfr _ _ a6 (nB ro (mm_ne_ao a6 a1) (mm_ne_n a6 a4 (by decide)) (fun y hy => (hRm y hy).2))
  have b7 := hfr _ _ a7 (nB se (mm_ne_oo a7 a1 (by decide)) (mm_ne_oa a7 a4) (fun y hy => (hRn y hy).1))
  have b8 := hfr _ _ a8 (nB rs (mm_ne_ao a8 a1) (mm_ne_n a8 a4 (by decide)) (fun y hy => (hRn y hy).2))
  have hRt : T rd = 0 ∧ T ow = 0 ∧ T k = 0 ∧ T ks = 0 ∧ T ss = 0 ∧ T vs = 0 := by
    obtain ⟨edp, pl, fa, m, K, S, V, wf, r1, ⟨u1, u2, u3, r2, r3, r4, r5, r6⟩, r7⟩ := a2
    exact ⟨(Ts r1).trans t3, (Ts r7).trans t7, (Ts r2).trans t8, (Ts r3).trans t9, (Ts r4).trans t10, (Ts r5).trans t11⟩
  obtain ⟨x1, x2, x3, x4, x5, x6⟩ := hRt
  refine ⟨fun hs => ?_, fun hs => ?_, hw⟩
  · simp only [if_pos hs] at p14 p15
    refine ⟨T, M + 1, kup ge M ft, kup gn M tn, kup ea M q, kup ra M ((rdG ft tn).2.map (AD 1)), kup eu M u0, kup gi (N + 1) M, tx, rd, to, se, kp, ow, k, ks, ss, vs, ro, rs, sl, _, sf, ⟨?_, p1, b3, p15, b5, b6, b7, b8, a9, a10, a11, a12, by omega, by split <;> omega, (Ts a1).trans t1, (Ts a3).trans t2, x1, (Ts a5).trans t4, (Ts a7).trans t5, (Ts a4).trans t6, x2, x3, x4, x5, x6, (Ts a6).trans t12, (Ts a8).trans t13⟩, ⟨hgE, fun j j1 j2 => ?_, fun j j1 j2 => ?_⟩, hW3, fun _ => ?_, fun z => absurd z (by omega), fun _ => ⟨by rw [show M + 1 - 1 = M by omega, kup_eq], by rw [show M + 1 - 1 = M by omega, kup_eq]⟩⟩
    · rw [hrg, if_neg (show ¬ N + 1 = 0 by omega), kup_eq, kup_eq]
      rw [show (if (if N < 4 then N else 4) < 4 then (if N < 4 then N else 4) + 1 else (if N < 4 then N else 4)) = (if N + 1 < 4 then N + 1 else 4) from kn4] at p14
      exact p14
    · by_cases z : j = N + 1
      · rw [z, kup_eq, kup_eq, kup_eq, kup_eq, kup_eq]
        exact ⟨by omega, rfl, rfl, hs⟩
      · obtain ⟨y1, y2, y3, y4⟩ := h2.2.1 j j1 (by omega)
        rw [kup_ne z, kup_ne z, kup_ne z, kup_ne (by omega), kup_ne (by omega)]
        exact ⟨by omega, y2, y3, y4⟩
    · by_cases z : j = N
      · rw [z] at j2
        rw [z, kup_eq, kup_eq, if_pos (by rw [if_pos j2]; exact j2), if_pos j2]; exact if_pos rfl
      · obtain ⟨y1, -⟩ := h2.2.1 (j + 1) (by omega) (by omega)
        rw [kup_ne (show j + 1 ≠ N + 1 by omega), kup_ne (show gi (j + 1) ≠ M by omega), ← h2.2.2 j (by omega) j2]
        split
        · next z4 => exact va_up_ne _ _ (by first | omega | (split <;> omega))
        · rfl
    · rw [kup_eq, kup_eq, eu0, if_pos hs]
  · simp only [if_neg hs] at p14 p15
    refine ⟨T, M + 1, kup ge M ft, kup gn M tn, kup ea M q, kup ra M ((rdG ft tn).2.map (AD 1)), kup eu M u0, gi, tx, rd, to, se, kp, ow, k, ks, ss, vs, ro, rs, sl, _, sf, ⟨?_, p1, b3, p15, b5, b6, b7, b8, a9, a10, a11, a12, by omega, by split <;> omega, (Ts a1).trans t1, (Ts a3).trans t2, x1, (Ts a5).trans t4, (Ts a7).trans t5, (Ts a4).trans t6, x2, x3, x4, x5, x6, (Ts a6).trans t12, (Ts a8).trans t13⟩, ⟨hgE, fun j j1 j2 => ?_, fun j j1 j2 => ?_⟩, hW3, fun hz => ?_, fun z => absurd z (by omega), fun _ => ⟨by rw [show M + 1 - 1 = M by omega, kup_eq], by rw [show M + 1 - 1 = M by omega, kup_eq]⟩⟩
    · rw [hrg, show (if N = 0 then none else some (kup ea M q (gi N))) = (if N = 0 then none else some (ea (gi N))) by
        by_cases z : N = 0
        · rw [if_pos z, if_pos z]
        · obtain ⟨y1, -⟩ := h2.2.1 N (by omega) (Nat.le_refl _)
          rw [if_neg z, if_neg z, kup_ne (by omega)]]
      exact p14
    · obtain ⟨y1, y2, y3, y4⟩ := h2.2.1 j j1 j2
      rw [kup_ne (by omega), kup_ne (by omega)]
      exact ⟨by omega, y2, y3, y4⟩
    · obtain ⟨y1, -⟩ := h2.2.1 (j + 1) (by omega) (by omega)
      rw [kup_ne (by omega)]
      exact h2.2.2 j j1 j2
    · obtain ⟨y1, -⟩ := h2.2.1 N (by omega) (Nat.le_refl _)
      rw [kup_ne (by omega)]
      exact h4 hz
theorem k2_read (l : Launch) (D : va_G) (cy : Nat → ClassId) (A : Nat → Prop) (X : State → Prop) (hst : mk_St A X) (hXT : ∀ U : State, X U → TB U) (e0 : Nat) (tk : Nat → Nat) (hXE : ∀ U : State, X U → ES e0 tk A U) (mi : Nat) (hXL : ∀ U : State, X U → EL e0 mi A U) (ax adK adV : Nat → Nat) (hXX : ∀ U : State, X U → TX ax adK adV tk A U) (G : Nat → Option va_E) (W : Nat → Prop) (o tn : Nat) (ft : Nat → Int32) (N : Nat) (fe : Nat → Nat → Int32) (ne : Nat → Nat) (ui : Option Nat) (lf : Nat → Int32) (lt ln : Nat) (fo : Nat → Int32) (hC : CSU cy e0 tk W G o tn ft N fe ne ui lf lt ln fo) : Met l yX13_read [.code yX13_read cX13_read 4 (some .int)] ({ frames := 12, cells := 1908, slots := 13714, locals := 360 }) (mk_Pre D vwCl (tyL cy) A X G [.ref o]) (va_Qi (fun (r : Int32) (G2 : Nat → Option va_E) => r = rdA ft tn ∧ (rdP ft tn < 0 → CSU cy e0 tk W G2 o 0 ft (N + 1) (kup fe (N + 1) ft) (kup ne (N + 1) tn) (RDu ft tn) ft tn ln fo) ∧ (¬ rdP ft tn < 0 → CSU cy e0 tk W G2 o 0 ft N fe ne ui ft tn ln fo) ∧ KPW W G G2) (mk_B D vwCl A) A) 1908 13714 A := by
  obtain ⟨tag, M, ge, gn, ea, ra, eu, gi, tx, rd, to, se, kp, ow, k, ks, ss, vs, ro, rs, sl, kf, sf, h1, h2, h3, h4, h5, h6⟩ := id hC
  refine (c_X13_readG l D cy A X hst hXT e0 tk hXE mi hXL ax adK adV hXX G o tx rd to se kp ow k ks ss vs _ _ tn _ ft kf h1.1 h1.2.1 h1.2.2.1 h1.2.2.2.1 h1.2.2.2.2.2.2.2.2.2.2.2.2.1 h1.2.2.2.2.2.2.2.2.2.2.2.2.2.1).mono (Nat.le_of_ble_eq_true rfl) (Nat.le_of_ble_eq_true rfl) (Nat.le_of_ble_eq_true rfl) (Nat.le_of_ble_eq_true rfl) (Nat.le_of_ble_eq_true rfl) (Nat.le_of_ble_eq_true rfl) (fun _ _ h => h) ?_
  rintro a s oo t ⟨⟨r, G3, e1, ⟨hr, hw⟩, e3⟩, e4⟩
  exact ⟨⟨r, G3, e1, ⟨hr, k2_rd h1 h2 h3 h4 hw⟩, e3⟩, e4⟩
theorem k2_read0 (l : Launch) (D : va_G) (cy : Nat → ClassId) (A : Nat → Prop) (X : State → Prop) (hst : mk_St A X) (hXT : ∀ U : State, X U → TB U) (e0 : Nat) (tk : Nat → Nat) (hXE : ∀ U : State, X U → ES e0 tk A U) (mi : Nat) (hXL : ∀ U : State, X U → EL e0 mi A U) (ax adK adV : Nat → Nat) (hXX : ∀ U : State, X U → TX ax adK adV tk A U) (G : Nat → Option va_E) (W : Nat → Prop) (o tn : Nat) (ft : Nat → Int32) (N : Nat) (fe : Nat → Nat → Int32) (ne : Nat → Nat) (ui : Option Nat) (lf : Nat → Int32) (lt ln : Nat) (fo : Nat → Int32) (hC : CSU cy e0 tk W G o tn ft N fe ne ui lf lt ln fo) (htn0 : tn = 0) : Met l yX13_read [.code yX13_read cX13_read 4 (some .int)] ({ frames := 12, cells := 16, slots := 4117, locals := 360 }) (mk_Pre D vwCl (tyL cy) A X G [.ref o]) (va_Qi (fun (r : Int32) (G2 : Nat → Option va_E) => r = rdA ft tn ∧ (rdP ft tn < 0 → CSU cy e0 tk W G2 o 0 ft (N + 1) (kup fe (N + 1) ft) (kup ne (N + 1) tn) (RDu ft tn) ft tn ln fo) ∧ (¬ rdP ft tn < 0 → CSU cy e0 tk W G2 o 0 ft N fe ne ui ft tn ln fo) ∧ KPW W G G2) (mk_B D vwCl A) A) 16 4117 A := by
  obtain ⟨tag, M, ge, gn, ea, ra, eu, gi, tx, rd, to, se, kp, ow, k, ks, ss, vs, ro, rs, sl, kf, sf, h1, h2, h3, h4, h5, h6⟩ := id hC
  refine (c_X13_read0 l D cy A X hst hXT e0 tk hXE mi hXL ax adK adV hXX G o tx rd to se kp ow k ks ss vs _ _ tn _ ft kf h1.1 h1.2.1 h1.2.2.1 h1.2.2.2.1 h1.2.2.2.2.2.2.2.2.2.2.2.2.1 h1.2.2.2.2.2.2.2.2.2.2.2.2.2.1 htn0).mono (Nat.le_of_ble_eq_true rfl) (Nat.le_of_ble_eq_true rfl) (Nat.le_of_ble_eq_true rfl) (Nat.le_of_ble_eq_true rfl) (Nat.le_of_ble_eq_true rfl) (Nat.le_of_ble_eq_true rfl) (fun _ _ h => h) ?_
  rintro a s oo t ⟨⟨r, G3, e1, ⟨hr, hw⟩, e3⟩, e4⟩
  exact ⟨⟨r, G3, e1, ⟨hr, k2_rd h1 h2 h3 h4 hw⟩, e3⟩, e4⟩
theorem k2_readc (l : Launch) (D : va_G) (cy : Nat → ClassId) (A : Nat → Prop) (X : State → Prop) (hst : mk_St A X) (hXT : ∀ U : State, X U → TB U) (e0 : Nat) (tk : Nat → Nat) (hXE : ∀ U : State, X U → ES e0 tk A U) (mi : Nat) (hXL : ∀ U : State, X U → EL e0 mi A U) (ax adK adV : Nat → Nat) (hXX : ∀ U : State, X U → TX ax adK adV tk A U) (G : Nat → Option va_E) (W : Nat → Prop) (o tn : Nat) (ft : Nat → Int32) (N : Nat) (fe : Nat → Nat → Int32) (ne : Nat → Nat) (ui : Option Nat) (lf : Nat → Int32) (lt ln : Nat) (fo : Nat → Int32) (hC : CSU cy e0 tk W G o tn ft N fe ne ui lf lt ln fo) : Met l yX13_read [.code yX13_read cX13_read 4 (some .int)] ({ frames := 12, cells := rdc tn, slots := 13714, locals := 360 }) (mk_Pre D vwCl (tyL cy) A X G [.ref o]) (va_Qi (fun (r : Int32) (G2 : Nat → Option va_E) => r = rdA ft tn ∧ (rdP ft tn < 0 → CSU cy e0 tk W G2 o 0 ft (N + 1) (kup fe (N + 1) ft) (kup ne (N + 1) tn) (RDu ft tn) ft tn ln fo) ∧ (¬ rdP ft tn < 0 → CSU cy e0 tk W G2 o 0 ft N fe ne ui ft tn ln fo) ∧ KPW W G G2) (mk_B D vwCl A) A) (rdc tn) 13714 A := by
  by_cases h : tn = 0
  · rw [rdc_0 h]
    exact (k2_read0 l D cy A X hst hXT e0 tk hXE mi hXL ax adK adV hXX G W o tn ft N fe ne ui lf lt ln fo hC h).mono (Nat.le_of_ble_eq_true rfl) (Nat.le_of_ble_eq_true rfl) (Nat.le_of_ble_eq_true rfl) (Nat.le_of_ble_eq_true rfl) (Nat.le_of_ble_eq_true rfl) (Nat.le_of_ble_eq_true rfl) (fun _ _ h => h) (fun _ _ _ _ h => h)
  · rw [show rdc tn = 1908 from if_neg h]
    exact k2_read l D cy A X hst hXT e0 tk hXE mi hXL ax adK adV hXX G W o tn ft N fe ne ui lf lt ln fo hC
set_option maxHeartbeats 4000000 in
theorem k2_out (l : Launch) (D : va_G) (cy : Nat → ClassId) (A : Nat → Prop) (X : State → Prop) (hst : mk_St A X) (hXT : ∀ U : State, X U → TB U) (e0 : Nat) (tk : Nat → Nat) (hXE : ∀ U : State, X U → ES e0 tk A U) (mi : Nat) (hXL : ∀ U : State, X U → EL e0 mi A U) (ax adK adV : Nat → Nat) (hXX : ∀ U : State, X U → TX ax adK adV tk A U) (G : Nat → Option va_E) (W : Nat → Prop) (o tn : Nat) (ft : Nat → Int32) (N : Nat) (fe : Nat → Nat → Int32) (ne : Nat → Nat) (ui : Option Nat) (lf : Nat → Int32) (lt ln : Nat) (fo : Nat → Int32) (hC : CSU cy e0 tk W G o tn ft N fe ne ui lf lt ln fo) (hpl : ∀ e : Env, l.admits e → e.platform.stackTraces = false) (hXH : ∀ U : State, X U → TH A U) (iv : Int32) (wa : Nat) (lv0 : Nat → Int64) (hwa : G wa = some (.inl (cy 2, 1, .inr (.inl lv0)))) (hWw : W wa) : Met l yL_out [.codeWith yL_out cL_out 4 (some .int) [(0, 9, 12, 13)]] ({ frames := 12, cells := 1, slots := 6, locals := 360 }) (mk_Pre D vwCl (tyL cy) A X G [.ref o, .int iv, .ref wa]) (va_Qi (fun (r : Int32) (G2 : Nat → Option va_E) => CSU cy e0 tk W G2 o tn ft N fe ne ui lf lt ln fo ∧ ∃ lv2 : Nat → Int64, G2 wa = some (.inl (cy 2, 1, .inr (.inl lv2))) ∧ ∀ (x : Nat) (e : va_E), G x = some e → x ≠ wa → G2 x = some e) (mk_B D vwCl A) A) 1 6 A := by
  obtain ⟨tag, M, ge, gn, ea, ra, eu, gi, tx, rd, to, se, kp, ow, k, ks, ss, vs, ro, rs, sl, kf, sf, h1, h2, h3, h4, h5, h6⟩ := id hC
  have hsl := h1.2.2.2.2.2.2.2.2.2.2.2.1
  by_cases hi : iv < 0 ∨ ¬ iv < nI sl
  · refine (c_L_out_t l hpl D cy A X hst hXT hXH G o tx rd to se kp _ _ (nI tn) _ rs (nI sl) iv wa h1.1 h1.2.2.2.2.2.2.1 hi).mono (Nat.le_of_ble_eq_true rfl) (Nat.le_of_ble_eq_true rfl) (Nat.le_of_ble_eq_true rfl) (Nat.le_of_ble_eq_true rfl) (Nat.le_of_ble_eq_true rfl) (Nat.le_of_ble_eq_true rfl) (fun _ _ h => h) ?_
    rintro a s oo t ⟨⟨r, G3, e1, ⟨-, hg⟩, e3⟩, e4⟩
    exact ⟨⟨r, G3, e1, ⟨by rw [hg]; exact hC, lv0, by rw [hg]; exact hwa, fun x e y _ => by rw [hg]; exact y⟩, e3⟩, e4⟩
  · refine (c_L_out_g l D cy A X hst hXT e0 tk hXE mi hXL ax adK adV hXX G o tx rd to se kp _ _ (nI tn) _ rs sl sf iv wa lv0 h1.1 h1.2.2.2.2.2.2.1 h1.2.2.2.2.2.2.2.1 (fun y => hi (Or.inl y)) (Classical.byContradiction (fun y => hi (Or.inr y))) hwa).mono (Nat.le_of_ble_eq_true rfl) (Nat.le_of_ble_eq_true rfl) (Nat.le_of_ble_eq_true rfl) (Nat.le_of_ble_eq_true rfl) (Nat.le_of_ble_eq_true rfl) (Nat.le_of_ble_eq_true rfl) (fun _ _ h => h) ?_
    rintro a s oo t ⟨⟨r, G3, e1, ⟨-, lv2, -, hw, hf⟩, e3⟩, e4⟩
    exact ⟨⟨r, G3, e1, ⟨hC.mv (fun x e n y => hf x e y (fun y2 => n (by rw [y2]; exact hWw))) (fun x hx => by
      by_cases y : x = wa
      · rw [y]; exact ⟨_, hw⟩
      · obtain ⟨e, he⟩ := (h3 x hx).2
        exact ⟨e, hf x e he y⟩), lv2, hw, hf⟩, e3⟩, e4⟩
