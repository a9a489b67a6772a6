set_option maxHeartbeats 4000000 in
theorem rdG_0 : (rdG (fun _ => 0) 0).2 = none := by
  cases h : (rdG (fun _ => 0) 0).2 with
  | none => rfl
  | some b => exact absurd (rdG_lt h).1 (by rw [show (rdV (fun _ => 0) 0).nL = 0 from rfl]; exact Nat.not_lt_zero b)
set_option maxHeartbeats 4000000 in
theorem lw_cst0 {cy : Nat → ClassId} {e0 : Nat} {tk : Nat → Nat} {V : Nat → Prop} {wa : Nat} {G : Nat → Option va_E} {ox tx rd to se kp k ow ks ss vs ro rs : Nat} (a1 : G ox = some (.inr (14, [.ref tx, .ref rd, .ref to, .ref se, .ref kp, .int 0, .int 0, .null, .null]))) (a2 : G tx = some (.inl (cy 0, 2000, .inl (fun _ => 0)))) (a3 : G rd = some (.inr (10, [.ref k, .ref ow, .null, .int 0, .int 0]))) (a4 : G to = some (.inr (7, [.ref ro, .int 0]))) (a5 : G se = some (.inr (7, [.ref rs, .int 0]))) (a6 : G kp = some (.inl (cy 6, 4, .inr (.inr (.inr (.inr (fun _ => none))))))) (a7 : G k = some (.inr (13, [.ref ks, .ref ss, .ref vs, .int 0]))) (a8 : G ow = some (.inl (cy 1, 3, .inl (fun _ => 0)))) (a9 : G ks = some (.inl (cy 5, 2001, .inr (.inr (.inr (.inr (fun _ => none))))))) (a10 : G ss = some (.inl (cy 1, 2001, .inl (fun _ => 0)))) (a11 : G vs = some (.inl (cy 2, 2001, .inr (.inl (fun _ => 0))))) (a12 : G ro = some (.inl (cy 0, 64, .inl (fun _ => 0)))) (a13 : G rs = some (.inl (cy 0, 64, .inl (fun _ => 0)))) (h1 : to ≠ se) (h2 : ro ≠ rs) (hV : ∀ x, (V x ∨ x = wa) → ¬ (x = ox ∨ x = tx ∨ x = rd ∨ x = to ∨ x = se ∨ x = kp ∨ x = k ∨ x = ow ∨ x = ks ∨ x = ss ∨ x = vs ∨ x = ro ∨ x = rs) ∧ ∃ e, G x = some e) : CSU cy e0 tk (fun x => V x ∨ x = wa) G ox 0 (fun _ => 0) 0 (fun _ _ => 0) (fun _ => 0) none (fun _ => 0) 0 0 (fun _ => 0) := by
  obtain ⟨tag, ht0, ht1⟩ : ∃ tag : Nat → Nat, (∀ x, (x = ox ∨ x = tx ∨ x = rd ∨ x = to ∨ x = se ∨ x = kp ∨ x = k ∨ x = ow ∨ x = ks ∨ x = ss ∨ x = vs ∨ x = ro ∨ x = rs) → tag x = 0) ∧ ∀ x, ¬ (x = ox ∨ x = tx ∨ x = rd ∨ x = to ∨ x = se ∨ x = kp ∨ x = k ∨ x = ow ∨ x = ks ∨ x = ss ∨ x = vs ∨ x = ro ∨ x = rs) → tag x = 1 := by
    have h : ∀ x : Nat, ∃ y : Nat, ((x = ox ∨ x = tx ∨ x = rd ∨ x = to ∨ x = se ∨ x = kp ∨ x = k ∨ x = ow ∨ x = ks ∨ x = ss ∨ x = vs ∨ x = ro ∨ x = rs) → y = 0) ∧ (¬ (x = ox ∨ x = tx ∨ x = rd ∨ x = to ∨ x = se ∨ x = kp ∨ x = k ∨ x = ow ∨ x = ks ∨ x = ss ∨ x = vs ∨ x = ro ∨ x = rs) → y = 1) := by
      intro x
      by_cases z : (x = ox ∨ x = tx ∨ x = rd ∨ x = to ∨ x = se ∨ x = kp ∨ x = k ∨ x = ow ∨ x = ks ∨ x = ss ∨ x = vs ∨ x = ro ∨ x = rs)
      · exact ⟨0, fun _ => rfl, fun n => absurd z n⟩
      · exact ⟨1, fun n => absurd n z, fun _ => rfl⟩
    exact ⟨fun x => (h x).choose, fun x hx => (h x).choose_spec.1 hx, fun x hx => (h x).choose_spec.2 hx⟩
  refine ⟨tag, 0, (fun _ _ => 0), (fun _ => 0), (fun _ => 0), (fun _ => none), (fun _ => none), (fun _ => 0), tx, rd, to, se, kp, ow, k, ks, ss, vs, ro, rs, 0, (fun _ => none), (fun _ => 0), ⟨a1, ⟨none, 0, 0, 0, fun _ => 0, fun _ => 0, fun _ => 0, fun _ => 0, a3, ⟨_, _, _, a7, a9, a10, a11, fun j hj => absurd hj (Nat.not_lt_zero j)⟩, a8⟩, a2, a6, a4, a12, a5, a13, h1, h2, by omega, by omega, by omega, by decide, ht0 ox (by simp), ht0 tx (by simp), ht0 rd (by simp), ht0 to (by simp), ht0 se (by simp), ht0 kp (by simp), ht0 ow (by simp), ht0 k (by simp), ht0 ks (by simp), ht0 ss (by simp), ht0 vs (by simp), ht0 ro (by simp), ht0 rs (by simp)⟩, ⟨fun g hg => absurd hg (Nat.not_lt_zero g), fun j j1 j2 => absurd j1 (by omega), fun j j1 _ => absurd j1 (Nat.not_lt_zero j)⟩, fun x hx => ⟨ht1 x (hV x hx).1, (hV x hx).2⟩, fun h => absurd rfl h, fun _ => rdG_0, fun h => absurd rfl h⟩
theorem lw_rst0 {cy : Nat → ClassId} {V : Nat → Prop} {G : Nat → Option va_E} {mo : Nat} {Ar : Nat → Nat} (hM : MD cy G mo Ar mI0 (fun _ _ => 0) (fun _ _ => 0)) (hV : V mo ∧ ∀ k, mdR k = true → V (Ar k)) : RSV cy V G mo 0 (fun _ => 0) 0 (fun _ _ => 0) (fun _ => 0) none (fun _ => 0) 0 0 (fun _ => 0) :=
  ⟨Ar, mI0, fun _ _ => 0, fun _ _ => 0, 1, 0, hM, hV, rfl, by omega, fun i hi => absurd hi (Nat.not_lt_zero i), by decide, rfl, rfl, rfl, rfl, fun i hi _ => absurd hi (Nat.not_lt_zero i), ⟨fun _ => rfl, fun h => absurd h (by omega)⟩, by omega, rfl, fun i hi => absurd hi (Nat.not_lt_zero i), by omega, rfl, ⟨by decide, fun _ => rfl, fun b hb => by rw [rdG_0] at hb; cases hb⟩⟩
set_option maxHeartbeats 40000000 in
set_option maxRecDepth 100000 in
theorem law_all {p : Program} {e : Env} {s : State} {m : MethodId} {below : List Frame} {meth : Method} {c : Code} (l : Launch) (hpl : ∀ e : Env, l.admits e → e.platform.stackTraces = false) {b L : Nat} {xs : Nat → Int32} (hL : L ≤ 2560) (C0 : lw_At p s m meth c b L xs) (hTXo : ∀ (e0 : Nat) (tk : Nat → Nat), ES e0 tk (fun q : Nat => s.heap.size ≤ q) s → ∃ ax adK adV : Nat → Nat, TX ax adK adV tk (fun q : Nat => s.heap.size ≤ q) s) : W p l e room_1 s m #[Value.ref b] below meth c s.heap [] 0 0 (lw_Z below #[Value.ref b] s) (entryFrame m ([Value.ref b] : List Value).toArray 7) := by
  have hTH := TH_of C0.2.2.2.2.2.1 C0.2.2.2.2.2.2.2.2.2
  obtain ⟨hx, hb, hr, hml, hown, hts, hX0, hbl, hlocks, hgv⟩ := id C0
  have hT := TB_of hts
  obtain ⟨D, cy, hK⟩ := K_of hts
  obtain ⟨e0, tk, hE⟩ := ES_of hts hgv
  obtain ⟨mi, hEL⟩ := EL_of hgv hE
  obtain ⟨ax, adK, adV, hTX⟩ := hTXo e0 tk hE
  obtain ⟨A, eA⟩ : ∃ A : Nat → Prop, A = fun q : Nat => s.heap.size ≤ q := ⟨_, rfl⟩
  rw [← eA] at hE hTH hEL hTX
  have hA : ∀ q : Nat, s.heap.size ≤ q → A q := fun q h => by rw [eA]; exact h
  have hbA : ¬ A b := by rw [eA]; exact Nat.not_le.mpr hbl
  obtain ⟨X, eX⟩ : ∃ X : State → Prop, X = fun U => TB U ∧ ES e0 tk A U ∧ TH A U ∧ EL e0 mi A U ∧ TX ax adK adV tk A U := ⟨_, rfl⟩
  have hst : mk_St A X := by rw [eX]; exact fun s U hW hk h => ⟨TB_warm hW h.1, ES_st s U hW hk h.2.1, TH_st s U hW hk h.2.2.1, EL_st s U hW hk h.2.2.2.1, TX_st s U hW hk h.2.2.2.2⟩
  have hXT : ∀ U : State, X U → TB U := by rw [eX]; exact fun U h => h.1
  have hXE : ∀ U : State, X U → ES e0 tk A U := by rw [eX]; exact fun U h => h.2.1
  have hXH : ∀ U : State, X U → TH A U := by rw [eX]; exact fun U h => h.2.2.1
  have hXL : ∀ U : State, X U → EL e0 mi A U := by rw [eX]; exact fun U h => h.2.2.2.1
  have hXX : ∀ U : State, X U → TX ax adK adV tk A U := by rw [eX]; exact fun U h => h.2.2.2.2
  have hX : X s := by rw [eX]; exact ⟨hT, hE, hTH, hEL, hTX⟩
  have hS : va_S A s.heap s.heap [] := va_S.rf
  obtain ⟨G, eG⟩ : ∃ G : Nat → Option va_E, G = fun _ => none := ⟨_, rfl⟩
  have hG : mm D vwCl A G s.heap := by rw [eG]; exact mm.empty
  have hf_X13 : ∀ w ∈ u_ws RX13 TX13 9, w.before #[Value.ref b] s = true := tb_list hT fX13
  have hf_X14 : ∀ w ∈ u_ws RX14 TX14 76, w.before #[Value.ref b] s = true := tb_list hT fX14
  have hl := lv_entry ([.ref b]) (n := 7) (Nat.le_of_ble_eq_true rfl)
  rw [lg_entry_eq]
  generalize (lg_sl ([.ref b]) ++ List.replicate (7 - (lg_sl ([.ref b])).length) Slot.unset).toArray = ls at hl ⊢
  have hl : lv_has ls 7 [(0, .ref b)] := hl
  refine mm_new (ci := 14) (fs := [.null, .null, .null, .null, .null, .int 0, .int 0, .null, .null]) hx hb hf_X13 (fun _ h9 => h9) tyX13 tyX13_ok hown (tb_use hT tw_138) (tb_use hT tw_139) (tb_use hT tw_105) hK hG hS hA rfl (fun j hj => by rcases (show j = 0 ∨ j = 1 ∨ j = 2 ∨ j = 3 ∨ j = 4 ∨ j = 5 ∨ j = 6 ∨ j = 7 ∨ j = 8 by omega) with rfl | rfl | rfl | rfl | rfl | rfl | rfl | rfl | rfl <;> rfl) (by exact Nat.le_of_ble_eq_true rfl) (by exact Nat.le_of_ble_eq_true rfl) dL_law_0 (fun q1 H hn_q1 hG hS => ?_)
  obtain ⟨G2, eG2⟩ : ∃ g, g = mm_set G q1 (.inr (14, [.null, .null, .null, .null, .null, .int 0, .int 0, .null, .null])) := ⟨_, rfl⟩
  have hG : mm D vwCl A G2 H := by rw [eG2]; exact hG
  have k3 : G2 q1 = some (.inr (14, [.null, .null, .null, .null, .null, .int 0, .int 0, .null, .null])) := by rw [eG2]; exact mm_set_self
  refine lv_dup hx hb dL_law_3 rfl ?_
  refine va_callv (va_runI (As := []) (rest := [.ref q1]) ⟨hx, hb, hml, hown, (fun _ h9 => absurd h9 List.not_mem_nil : ∀ w ∈ ([] : List Cond), w.before _ s = true)⟩ (c_X13_init l D cy A X hst hXT G2 q1 k3) (tb_ci 0 hT tw_142 tw_105 tw_140 tw_141 rfl rfl rfl hq_X13_init ⟨Nat.le_of_ble_eq_true rfl, Nat.le_of_ble_eq_true rfl⟩) (mk_preS hst hG hK hA hX hS) rfl rfl hl.1 rfl (lv_room (Nat.le_of_ble_eq_true rfl)) dL_law_4 ⟨Nat.le_of_ble_eq_true rfl, Nat.le_of_ble_eq_true rfl⟩) hS (fun q _ h => h) (fun q h => h) (fun  G4 t H locs ht hvm hw hB hz1 hk1 hS => ?_)
  have hG : mm D vwCl A G4 H := by rw [← ht]; exact hB
  clear hB hz1 hk1 hvm ht
  obtain ⟨tx, rd, to, se, kp, tk_, ow, ks, ss, vs, ro, rs, h5_0, h5_1, h5_2, h5_3, h5_4, h5_5, h5_6, h5_7, h5_8, h5_9, h5_10, h5_11, h5_12, hne1, hne2, h5_f⟩ := hw
  refine lv_astore_n (lv' := [(1, .ref q1), (0, .ref b)]) hx hb dL_law_7 rfl hl (by decide) rfl (fun ls hl => ?_)
  refine mm_new (ci := 15) (fs := [.null, .null, .null, .null, .null, .null, .null, .null, .null, .null, .null, .null, .null, .null, .null, .null, .null, .null, .null, .null, .null, .null, .null, .null, .null, .null, .null, .null, .null, .null, .null, .null, .null, .null, .null, .null, .null, .null, .int 0, .int 0, .null, .int 0, .int 0, .int 0, .int 0, .null, .null, .null, .int 0, .int 0, .int 0, .int 0, .int 0, .int 0, .int 0, .int 0, .int 0, .int 0, .int 0, .null, .null, .null, .null, .int 0, .null, .null, .int 0, .null, .int 0, .int 0, .null, .null, .null, .null, .null, .null]) hx hb hf_X14 (fun _ h9 => h9) tyX14 tyX14_ok hown (tb_use hT tw_1385) (tb_use hT tw_1386) (tb_use hT tw_109) hK hG hS hA rfl (fun j hj => by rcases (show j = 0 ∨ j = 1 ∨ j = 2 ∨ j = 3 ∨ j = 4 ∨ j = 5 ∨ j = 6 ∨ j = 7 ∨ j = 8 ∨ j = 9 ∨ j = 10 ∨ j = 11 ∨ j = 12 ∨ j = 13 ∨ j = 14 ∨ j = 15 ∨ j = 16 ∨ j = 17 ∨ j = 18 ∨ j = 19 ∨ j = 20 ∨ j = 21 ∨ j = 22 ∨ j = 23 ∨ j = 24 ∨ j = 25 ∨ j = 26 ∨ j = 27 ∨ j = 28 ∨ j = 29 ∨ j = 30 ∨ j = 31 ∨ j = 32 ∨ j = 33 ∨ j = 34 ∨ j = 35 ∨ j = 36 ∨ j = 37 ∨ j = 38 ∨ j = 39 ∨ j = 40 ∨ j = 41 ∨ j = 42 ∨ j = 43 ∨ j = 44 ∨ j = 45 ∨ j = 46 ∨ j = 47 ∨ j = 48 ∨ j = 49 ∨ j = 50 ∨ j = 51 ∨ j = 52 ∨ j = 53 ∨ j = 54 ∨ j = 55 ∨ j = 56 ∨ j = 57 ∨ j = 58 ∨ j = 59 ∨ j = 60 ∨ j = 61 ∨ j = 62 ∨ j = 63 ∨ j = 64 ∨ j = 65 ∨ j = 66 ∨ j = 67 ∨ j = 68 ∨ j = 69 ∨ j = 70 ∨ j = 71 ∨ j = 72 ∨ j = 73 ∨ j = 74 ∨ j = 75 by omega) with rfl | rfl | rfl | rfl | rfl | rfl | rfl | rfl | rfl | rfl | rfl | rfl | rfl | rfl | rfl | rfl | rfl | rfl | rfl | rfl | rfl | rfl | rfl | rfl | rfl | rfl | rfl | rfl | rfl | rfl | rfl | rfl | rfl | rfl | rfl | rfl | rfl | rfl | rfl | rfl | rfl | rfl | rfl | rfl | rfl | rfl | rfl | rfl | rfl | rfl | rfl | rfl | rfl | rfl | rfl | rfl | rfl | rfl | rfl | rfl | rfl | rfl | rfl | rfl | rfl | rfl | rfl | rfl | rfl | rfl | rfl | rfl | rfl | rfl | rfl | rfl <;> rfl) (by exact Nat.le_of_ble_eq_true rfl) (by exact Nat.le_of_ble_eq_true rfl) dL_law_8 (fun q6 H hn_q6 hG hS => ?_)
  obtain ⟨G7, eG7⟩ : ∃ g, g = mm_set G4 q6 (.inr (15, [.null, .null, .null, .null, .null, .null, .null, .null, .null, .null, .null, .null, .null, .null, .null, .null, .null, .null, .null, .null, .null, .null, .null, .null, .null, .null, .null, .null, .null, .null, .null, .null, .null, .null, .null, .null, .null, .null, .int 0, .int 0, .null, .int 0, .int 0, .int 0, .int 0, .null, .null, .null, .int 0, .int 0, .int 0, .int 0, .int 0, .int 0, .int 0, .int 0, .int 0, .int 0, .int 0, .null, .null, .null, .null, .int 0, .null, .null, .int 0, .null, .int 0, .int 0, .null, .null, .null, .null, .null, .null])) := ⟨_, rfl⟩
  have hG : mm D vwCl A G7 H := by rw [eG7]; exact hG
  have k8 : G7 q1 = some (.inr (14, [.ref tx, .ref rd, .ref to, .ref se, .ref kp, .int 0, .int 0, .null, .null])) := by rw [eG7]; exact mm_set_new h5_0 hn_q6
  have k9 : G7 tx = some (.inl (cy 0, 2000, .inl (fun _ => 0))) := by rw [eG7]; exact mm_set_new h5_1 hn_q6
  have k10 : G7 rd = some (.inr (10, [.ref tk_, .ref ow, .null, .int 0, .int 0])) := by rw [eG7]; exact mm_set_new h5_2 hn_q6
  have k11 : G7 to = some (.inr (7, [.ref ro, .int 0])) := by rw [eG7]; exact mm_set_new h5_3 hn_q6
  have k12 : G7 se = some (.inr (7, [.ref rs, .int 0])) := by rw [eG7]; exact mm_set_new h5_4 hn_q6
  have k13 : G7 kp = some (.inl (cy 6, 4, .inr (.inr (.inr (.inr (fun _ => none)))))) := by rw [eG7]; exact mm_set_new h5_5 hn_q6
  have k14 : G7 tk_ = some (.inr (13, [.ref ks, .ref ss, .ref vs, .int 0])) := by rw [eG7]; exact mm_set_new h5_6 hn_q6
  have k15 : G7 ow = some (.inl (cy 1, 3, .inl (fun _ => 0))) := by rw [eG7]; exact mm_set_new h5_7 hn_q6
  have k16 : G7 ks = some (.inl (cy 5, 2001, .inr (.inr (.inr (.inr (fun _ => none)))))) := by rw [eG7]; exact mm_set_new h5_8 hn_q6
  have k17 : G7 ss = some (.inl (cy 1, 2001, .inl (fun _ => 0))) := by rw [eG7]; exact mm_set_new h5_9 hn_q6
  have k18 : G7 vs = some (.inl (cy 2, 2001, .inr (.inl (fun _ => 0)))) := by rw [eG7]; exact mm_set_new h5_10 hn_q6
  have k19 : G7 ro = some (.inl (cy 0, 64, .inl (fun _ => 0))) := by rw [eG7]; exact mm_set_new h5_11 hn_q6
  have k20 : G7 rs = some (.inl (cy 0, 64, .inl (fun _ => 0))) := by rw [eG7]; exact mm_set_new h5_12 hn_q6
  have k21 : G7 q6 = some (.inr (15, [.null, .null, .null, .null, .null, .null, .null, .null, .null, .null, .null, .null, .null, .null, .null, .null, .null, .null, .null, .null, .null, .null, .null, .null, .null, .null, .null, .null, .null, .null, .null, .null, .null, .null, .null, .null, .null, .null, .int 0, .int 0, .null, .int 0, .int 0, .int 0, .int 0, .null, .null, .null, .int 0, .int 0, .int 0, .int 0, .int 0, .int 0, .int 0, .int 0, .int 0, .int 0, .int 0, .null, .null, .null, .null, .int 0, .null, .null, .int 0, .null, .int 0, .int 0, .null, .null, .null, .null, .null, .null])) := by rw [eG7]; exact mm_set_self
  refine lv_dup hx hb dL_law_11 rfl ?_
  refine va_callv (va_runI (As := []) (rest := [.ref q6]) ⟨hx, hb, hml, hown, (fun _ h9 => absurd h9 List.not_mem_nil : ∀ w ∈ ([] : List Cond), w.before _ s = true)⟩ (c_X14_init l D cy A X hst hXT G7 q6 k21) (tb_ci 0 hT tw_1389 tw_109 tw_1387 tw_1388 rfl rfl rfl hq_X14_init ⟨Nat.le_of_ble_eq_true rfl, Nat.le_of_ble_eq_true rfl⟩) (mk_preS hst hG hK hA hX hS) rfl rfl hl.1 rfl (lv_room (Nat.le_of_ble_eq_true rfl)) dL_law_12 ⟨Nat.le_of_ble_eq_true rfl, Nat.le_of_ble_eq_true rfl⟩) hS (fun q _ h => h) (fun q h => h) (fun  G22 t H locs ht hvm hw hB hz1 hk1 hS => ?_)
  have hG : mm D vwCl A G22 H := by rw [← ht]; exact hB
  clear hB hz1 hk1 hvm ht
  obtain ⟨Ar, hM, h47, hz, h23_f⟩ := hw
  have mz_q1 : q1 ≠ q6 := (mm_ne_oo k8 k21 (by decide))
  have az_q1 : ∀ k, mdR k = true → Ar k ≠ q1 := fun k hk z => by have z1 := hz k hk; rw [z, k8] at z1; cases z1
  have k24 : G22 q1 = some (.inr (14, [.ref tx, .ref rd, .ref to, .ref se, .ref kp, .int 0, .int 0, .null, .null])) := h23_f _ _ k8 mz_q1
  have mz_tx : tx ≠ q6 := (mm_ne_ao k9 k21)
  have az_tx : ∀ k, mdR k = true → Ar k ≠ tx := fun k hk z => by have z1 := hz k hk; rw [z, k9] at z1; cases z1
  have k25 : G22 tx = some (.inl (cy 0, 2000, .inl (fun _ => 0))) := h23_f _ _ k9 mz_tx
  have mz_rd : rd ≠ q6 := (mm_ne_oo k10 k21 (by decide))
  have az_rd : ∀ k, mdR k = true → Ar k ≠ rd := fun k hk z => by have z1 := hz k hk; rw [z, k10] at z1; cases z1
  have k26 : G22 rd = some (.inr (10, [.ref tk_, .ref ow, .null, .int 0, .int 0])) := h23_f _ _ k10 mz_rd
  have mz_to : to ≠ q6 := (mm_ne_oo k11 k21 (by decide))
  have az_to : ∀ k, mdR k = true → Ar k ≠ to := fun k hk z => by have z1 := hz k hk; rw [z, k11] at z1; cases z1
  have k27 : G22 to = some (.inr (7, [.ref ro, .int 0])) := h23_f _ _ k11 mz_to
  have mz_se : se ≠ q6 := (mm_ne_oo k12 k21 (by decide))
  have az_se : ∀ k, mdR k = true → Ar k ≠ se := fun k hk z => by have z1 := hz k hk; rw [z, k12] at z1; cases z1
  have k28 : G22 se = some (.inr (7, [.ref rs, .int 0])) := h23_f _ _ k12 mz_se
  have mz_kp : kp ≠ q6 := (mm_ne_ao k13 k21)
  have az_kp : ∀ k, mdR k = true → Ar k ≠ kp := fun k hk z => by have z1 := hz k hk; rw [z, k13] at z1; cases z1
  have k29 : G22 kp = some (.inl (cy 6, 4, .inr (.inr (.inr (.inr (fun _ => none)))))) := h23_f _ _ k13 mz_kp
  have mz_tk_ : tk_ ≠ q6 := (mm_ne_oo k14 k21 (by decide))
  have az_tk_ : ∀ k, mdR k = true → Ar k ≠ tk_ := fun k hk z => by have z1 := hz k hk; rw [z, k14] at z1; cases z1
  have k30 : G22 tk_ = some (.inr (13, [.ref ks, .ref ss, .ref vs, .int 0])) := h23_f _ _ k14 mz_tk_
  have mz_ow : ow ≠ q6 := (mm_ne_ao k15 k21)
  have az_ow : ∀ k, mdR k = true → Ar k ≠ ow := fun k hk z => by have z1 := hz k hk; rw [z, k15] at z1; cases z1
  have k31 : G22 ow = some (.inl (cy 1, 3, .inl (fun _ => 0))) := h23_f _ _ k15 mz_ow
  have mz_ks : ks ≠ q6 := (mm_ne_ao k16 k21)
  have az_ks : ∀ k, mdR k = true → Ar k ≠ ks := fun k hk z => by have z1 := hz k hk; rw [z, k16] at z1; cases z1
  have k32 : G22 ks = some (.inl (cy 5, 2001, .inr (.inr (.inr (.inr (fun _ => none)))))) := h23_f _ _ k16 mz_ks
  have mz_ss : ss ≠ q6 := (mm_ne_ao k17 k21)
  have az_ss : ∀ k, mdR k = true → Ar k ≠ ss := fun k hk z => by have z1 := hz k hk; rw [z, k17] at z1; cases z1
  have k33 : G22 ss = some (.inl (cy 1, 2001, .inl (fun _ => 0))) := h23_f _ _ k17 mz_ss
  have mz_vs : vs ≠ q6 := (mm_ne_ao k18 k21)
  have az_vs : ∀ k, mdR k = true → Ar k ≠ vs := fun k hk z => by have z1 := hz k hk; rw [z, k18] at z1; cases z1
  have k34 : G22 vs = some (.inl (cy 2, 2001, .inr (.inl (fun _ => 0)))) := h23_f _ _ k18 mz_vs
  have mz_ro : ro ≠ q6 := (mm_ne_ao k19 k21)
  have az_ro : ∀ k, mdR k = true → Ar k ≠ ro := fun k hk z => by have z1 := hz k hk; rw [z, k19] at z1; cases z1
  have k35 : G22 ro = some (.inl (cy 0, 64, .inl (fun _ => 0))) := h23_f _ _ k19 mz_ro
  have mz_rs : rs ≠ q6 := (mm_ne_ao k20 k21)
  have az_rs : ∀ k, mdR k = true → Ar k ≠ rs := fun k hk z => by have z1 := hz k hk; rw [z, k20] at z1; cases z1
  have k36 : G22 rs = some (.inl (cy 0, 64, .inl (fun _ => 0))) := h23_f _ _ k20 mz_rs
  clear hz
  refine lv_astore_n (lv' := [(2, .ref q6), (1, .ref q1), (0, .ref b)]) hx hb dL_law_15 rfl hl (by decide) rfl (fun ls hl => ?_)
  refine lv_iconst (v := 1) hx hb dL_law_16 (by decide) ?_
  have hMg := hM
  refine mm_newa (n := 1) (atype := .long) (ty := .long) (N' := 1) (a0 := (1, .inr (.inl (fun _ => 0)))) hx hb (tb_arr hT tw_176) rfl hK hG hS hA 2 rfl (fun cA => rfl) (by decide) (by decide) (by decide) (by exact Nat.le_of_ble_eq_true rfl) (by exact Nat.le_of_ble_eq_true rfl) dL_law_17 (fun q37 H hn_q37 hG hS => ?_)
  obtain ⟨G38, eG38⟩ : ∃ g, g = mm_set G22 q37 (.inl (cy 2, 1, .inr (.inl (fun _ => 0)))) := ⟨_, rfl⟩
  have hG : mm D vwCl A G38 H := by rw [eG38]; exact hG
  have k39 : G38 q1 = some (.inr (14, [.ref tx, .ref rd, .ref to, .ref se, .ref kp, .int 0, .int 0, .null, .null])) := by rw [eG38]; exact mm_set_new k24 hn_q37
  have k40 : G38 tx = some (.inl (cy 0, 2000, .inl (fun _ => 0))) := by rw [eG38]; exact mm_set_new k25 hn_q37
  have k41 : G38 rd = some (.inr (10, [.ref tk_, .ref ow, .null, .int 0, .int 0])) := by rw [eG38]; exact mm_set_new k26 hn_q37
  have k42 : G38 to = some (.inr (7, [.ref ro, .int 0])) := by rw [eG38]; exact mm_set_new k27 hn_q37
  have k43 : G38 se = some (.inr (7, [.ref rs, .int 0])) := by rw [eG38]; exact mm_set_new k28 hn_q37
  have k44 : G38 kp = some (.inl (cy 6, 4, .inr (.inr (.inr (.inr (fun _ => none)))))) := by rw [eG38]; exact mm_set_new k29 hn_q37
  have k45 : G38 tk_ = some (.inr (13, [.ref ks, .ref ss, .ref vs, .int 0])) := by rw [eG38]; exact mm_set_new k30 hn_q37
  have k46 : G38 ow = some (.inl (cy 1, 3, .inl (fun _ => 0))) := by rw [eG38]; exact mm_set_new k31 hn_q37
  have k47 : G38 ks = some (.inl (cy 5, 2001, .inr (.inr (.inr (.inr (fun _ => none)))))) := by rw [eG38]; exact mm_set_new k32 hn_q37
  have k48 : G38 ss = some (.inl (cy 1, 2001, .inl (fun _ => 0))) := by rw [eG38]; exact mm_set_new k33 hn_q37
  have k49 : G38 vs = some (.inl (cy 2, 2001, .inr (.inl (fun _ => 0)))) := by rw [eG38]; exact mm_set_new k34 hn_q37
  have k50 : G38 ro = some (.inl (cy 0, 64, .inl (fun _ => 0))) := by rw [eG38]; exact mm_set_new k35 hn_q37
  have k51 : G38 rs = some (.inl (cy 0, 64, .inl (fun _ => 0))) := by rw [eG38]; exact mm_set_new k36 hn_q37
  have k52 : G38 q37 = some (.inl (cy 2, 1, .inr (.inl (fun _ => 0)))) := by rw [eG38]; exact mm_set_self
  replace hM := MD.fr (G2 := G38) (fun _ => True) hM (fun x e h0 _ => by rw [eG38]; exact mm_set_new h0 hn_q37) trivial (fun _ _ => trivial)
  refine lv_astore_n (lv' := [(3, .ref q37), (2, .ref q6), (1, .ref q1), (0, .ref b)]) hx hb dL_law_19 rfl hl (by decide) rfl (fun ls hl => ?_)
  refine lv_iconst (v := 0) hx hb dL_law_20 (by decide) ?_
  refine lv_istore (lv' := [(4, .int 0), (3, .ref q37), (2, .ref q6), (1, .ref q1), (0, .ref b)]) hx hb dL_law_21 hl (by decide) rfl (fun ls hl => ?_)
  obtain ⟨Vq, eV⟩ : ∃ V : Nat → Prop, V = fun x => x = q6 ∨ ∃ k, mdR k = true ∧ x = Ar k := ⟨_, rfl⟩
  have hV1 : Vq q6 ∧ ∀ k, mdR k = true → Vq (Ar k) := by rw [eV]; exact ⟨Or.inl rfl, fun k hk => Or.inr ⟨k, hk, rfl⟩⟩
  have hVe : ∀ x, Vq x → x = q6 ∨ ∃ k, mdR k = true ∧ x = Ar k := by rw [eV]; exact fun x h => h
  clear eV
  have hVwa : ¬ Vq q37 := by
    intro z
    rcases hVe _ z with z | ⟨k, hk, z⟩
    · exact absurd (z ▸ hMg.1) (by rw [hn_q37]; exact fun y => by cases y)
    · obtain ⟨e9, h9⟩ := hMg.at hk; rw [← z, hn_q37] at h9; cases h9
  have hBx : ∀ x, (Vq x ∨ x = q37) → ¬ (x = q1 ∨ x = tx ∨ x = rd ∨ x = to ∨ x = se ∨ x = kp ∨ x = tk_ ∨ x = ow ∨ x = ks ∨ x = ss ∨ x = vs ∨ x = ro ∨ x = rs) ∧ ∃ e, G38 x = some e := by
    intro x hx9
    rcases hx9 with hx9 | hx9
    · rcases hVe _ hx9 with z | ⟨k, hk, z⟩
      · rw [z]
        refine ⟨?_, ⟨_, hM.1⟩⟩
        rintro (y | y | y | y | y | y | y | y | y | y | y | y | y)
        · exact mz_q1 y.symm
        · exact mz_tx y.symm
        · exact mz_rd y.symm
        · exact mz_to y.symm
        · exact mz_se y.symm
        · exact mz_kp y.symm
        · exact mz_tk_ y.symm
        · exact mz_ow y.symm
        · exact mz_ks y.symm
        · exact mz_ss y.symm
        · exact mz_vs y.symm
        · exact mz_ro y.symm
        · exact mz_rs y.symm
      · rw [z]
        refine ⟨?_, hM.at hk⟩
        rintro (y | y | y | y | y | y | y | y | y | y | y | y | y)
        · exact az_q1 k hk y
        · exact az_tx k hk y
        · exact az_rd k hk y
        · exact az_to k hk y
        · exact az_se k hk y
        · exact az_kp k hk y
        · exact az_tk_ k hk y
        · exact az_ow k hk y
        · exact az_ks k hk y
        · exact az_ss k hk y
        · exact az_vs k hk y
        · exact az_ro k hk y
        · exact az_rs k hk y
    · rw [hx9]
      refine ⟨?_, ⟨_, k52⟩⟩
      rintro (y | y | y | y | y | y | y | y | y | y | y | y | y)
      · exact absurd y.symm (mm_ne_oa k39 k52)
      · exact absurd y.symm (mm_ne_e k40 k52 (fun z => by have z2 := (Prod.mk.inj (Prod.mk.inj (Sum.inl.inj z)).2).2; cases z2))
      · exact absurd y.symm (mm_ne_oa k41 k52)
      · exact absurd y.symm (mm_ne_oa k42 k52)
      · exact absurd y.symm (mm_ne_oa k43 k52)
      · exact absurd y.symm (mm_ne_e k44 k52 (fun z => by have z2 := (Prod.mk.inj (Prod.mk.inj (Sum.inl.inj z)).2).2; cases z2))
      · exact absurd y.symm (mm_ne_oa k45 k52)
      · exact absurd y.symm (mm_ne_e k46 k52 (fun z => by have z2 := (Prod.mk.inj (Prod.mk.inj (Sum.inl.inj z)).2).2; cases z2))
      · exact absurd y.symm (mm_ne_e k47 k52 (fun z => by have z2 := (Prod.mk.inj (Prod.mk.inj (Sum.inl.inj z)).2).2; cases z2))
      · exact absurd y.symm (mm_ne_e k48 k52 (fun z => by have z2 := (Prod.mk.inj (Prod.mk.inj (Sum.inl.inj z)).2).2; cases z2))
      · exact absurd y.symm (mm_ne_n k49 k52 (by decide))
      · exact absurd y.symm (mm_ne_e k50 k52 (fun z => by have z2 := (Prod.mk.inj (Prod.mk.inj (Sum.inl.inj z)).2).2; cases z2))
      · exact absurd y.symm (mm_ne_e k51 k52 (fun z => by have z2 := (Prod.mk.inj (Prod.mk.inj (Sum.inl.inj z)).2).2; cases z2))
  have hC := lw_cst0 (e0 := e0) (tk := tk) (V := Vq) (wa := q37) k39 k40 k41 k42 k43 k44 k45 k46 k47 k48 k49 k50 k51 hne1 hne2 hBx
  have hR := lw_rst0 hM hV1
  have hl : lv_has ls 7 [(4, .int (nI (5 * 0))), (3, .ref q37), (2, .ref q6), (1, .ref q1), (0, .ref b)] := hl
  refine W.widen (k := 69) (n := 60000) (by omega) (by omega) ?_
  exact law_loop l hpl hL C0 hK eA hst hXT hXE hXL hXX hXH hX (Vq := Vq) (ox := q1) (mo := q6) (wa := q37) hVwa 512 0 69 60000 0 0 (fun _ => 0) (fun _ _ => 0) (fun _ => 0) none (fun _ => 0) 0 0 (fun _ => 0) (fun _ => 0) (by omega) (by omega) (by omega) (fun h => absurd rfl h) (by omega) G38 hC hR k52 _ _ hG hS ls (lv_sub hl [4, 3, 2, 1, 0] rfl)
