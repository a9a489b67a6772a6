/-- the reference's cells stand still where others are written -/
theorem MD.fr {cy : Nat → ClassId} {G G2 : Nat → Option va_E} {o : Nat} {Ar : Nat → Nat} {Iv : Nat → Int32} {F : Nat → Nat → Int32} {L : Nat → Nat → Int64} (P : Nat → Prop) (h : MD cy G o Ar Iv F L) (hfr : ∀ (x : Nat) (e : va_E), G x = some e → P x → G2 x = some e) (ho : P o) (ha : ∀ k, mdR k = true → P (Ar k)) : MD cy G2 o Ar Iv F L := by
  obtain ⟨h1, h2, h3, h4, h5⟩ := h
  exact ⟨hfr _ _ h1 ho, fun k hk => hfr _ _ (h2 k hk) (ha k (mdR_I hk)), fun k hk => hfr _ _ (h3 k hk) (ha k (mdR_J hk)), hfr _ _ h4 (ha _ (by decide)), h5⟩
set_option maxHeartbeats 40000000 in
set_option maxRecDepth 100000 in
theorem law_5 {p : Program} {e : Env} {s : State} {m : MethodId} {below : List Frame} {meth : Method} {c : Code} (l : Launch) (hpl : ∀ e : Env, l.admits e → e.platform.stackTraces = false) {b : Nat} {xs : Nat → Int32} (C0 : lw_At p s m meth c b 5 xs) : W p l e room_1 s m #[Value.ref b] below meth c s.heap [] 0 0 (lw_Z below #[Value.ref b] s) (entryFrame m ([Value.ref b] : List Value).toArray 7) := by
  have hTH := TH_of C0.2.2.2.2.2.1 C0.2.2.2.2.2.2.2.2.2
  obtain ⟨hx, hb, hr, hml, hown, hts, hX0, hbl, hlocks, hgv⟩ := C0
  have hT := TB_of hts
  obtain ⟨D, cy, hK⟩ := K_of hts
  obtain ⟨e0, tk, hE⟩ := ES_of hts hgv
  obtain ⟨A, eA⟩ : ∃ A : Nat → Prop, A = fun q : Nat => s.heap.size ≤ q := ⟨_, rfl⟩
  rw [← eA] at hE hTH
  have hA : ∀ q : Nat, s.heap.size ≤ q → A q := fun q h => by rw [eA]; exact h
  have hbA : ¬ A b := by rw [eA]; exact Nat.not_le.mpr hbl
  obtain ⟨X, eX⟩ : ∃ X : State → Prop, X = fun U => TB U ∧ ES e0 tk A U ∧ TH A U := ⟨_, rfl⟩
  have hst : mk_St A X := by rw [eX]; exact fun s U hW hk h => ⟨TB_warm hW h.1, ES_st s U hW hk h.2.1, TH_st s U hW hk h.2.2⟩
  have hXT : ∀ U : State, X U → TB U := by rw [eX]; exact fun U h => h.1
  have hXE : ∀ U : State, X U → ES e0 tk A U := by rw [eX]; exact fun U h => h.2.1
  have hXH : ∀ U : State, X U → TH A U := by rw [eX]; exact fun U h => h.2.2
  have hX : X s := by rw [eX]; exact ⟨hT, hE, hTH⟩
  have hS : va_S A s.heap s.heap [] := va_S.rf
  obtain ⟨G, eG⟩ : ∃ G : Nat → Option va_E, G = fun _ => none := ⟨_, rfl⟩
  have hG : mm D vwCl A G s.heap := by rw [eG]; exact mm.empty
  have hf_X14 : ∀ w ∈ u_ws RX14 TX14 76, w.before #[Value.ref b] s = true := tb_list hT fX14
  have hf_X13 : ∀ w ∈ u_ws RX13 TX13 9, w.before #[Value.ref b] s = true := tb_list hT fX13
  have hl := lv_entry ([.ref b]) (n := 7) (Nat.le_of_ble_eq_true rfl)
  rw [lg_entry_eq]
  generalize (lg_sl ([.ref b]) ++ List.replicate (7 - (lg_sl ([.ref b])).length) Slot.unset).toArray = ls at hl ⊢
  have hl : lv_has ls 7 [(0, .ref b)] := hl
  refine mm_new (ci := 14) (fs := [.null, .null, .null, .null, .null, .int 0, .int 0, .null, .null]) hx hb hf_X13 (fun _ h9 => h9) tyX13 tyX13_ok hown (tb_use hT tw_138) (tb_use hT tw_139) (tb_use hT tw_105) hK hG hS hA rfl (fun j hj => by rcases (show j = 0 ∨ j = 1 ∨ j = 2 ∨ j = 3 ∨ j = 4 ∨ j = 5 ∨ j = 6 ∨ j = 7 ∨ j = 8 by omega) with rfl | rfl | rfl | rfl | rfl | rfl | rfl | rfl | rfl <;> rfl) (by exact Nat.le_of_ble_eq_true rfl) (by exact Nat.le_of_ble_eq_true rfl) dL_law_0 (fun q1 H hn_q1 hG hS => ?_)
  obtain ⟨G2, eG2⟩ : ∃ g, g = mm_set G q1 (.inr (14, [.null, .null, .null, .null, .null, .int 0, .int 0, .null, .null])) := ⟨_, rfl⟩
  have hG : mm D vwCl A G2 H := by rw [eG2]; exact hG
  have k3 : G2 q1 = some (.inr (14, [.null, .null, .null, .null, .null, .int 0, .int 0, .null, .null])) := by rw [eG2]; exact mm_set_self
  refine lv_dup hx hb dL_law_3 rfl ?_
  refine va_callv (va_runI (As := []) (rest := [.ref q1]) ⟨hx, hb, hml, hown, (fun _ h9 => absurd h9 List.not_mem_nil : ∀ w ∈ ([] : List Cond), w.before _ s = true)⟩ (c_X13_init l D cy A X hst hXT G2 q1 k3) (tb_ci 0 hT tw_142 tw_105 tw_140 tw_141 rfl rfl rfl (by decide +kernel) ⟨Nat.le_of_ble_eq_true rfl, Nat.le_of_ble_eq_true rfl⟩) (mk_preS hst hG hK hA hX hS) rfl rfl hl.1 rfl (lv_room (Nat.le_of_ble_eq_true rfl)) dL_law_4 ⟨Nat.le_of_ble_eq_true rfl, Nat.le_of_ble_eq_true rfl⟩) hS (fun q _ h => h) (fun q h => h) (fun  G4 t H1 locs ht hvm hw hB hz1 hk1 hS => ?_)
  have hG : mm D vwCl A G4 H1 := by rw [← ht]; exact hB
  clear hB hz1 hk1 hvm ht
  generalize H1 = H at hG hS ⊢
  obtain ⟨tx, rd, to, se, kp, tk_, ow, ks, ss, vs, ro, rs, h5_0, h5_1, h5_2, h5_3, h5_4, h5_5, h5_6, h5_7, h5_8, h5_9, h5_10, h5_11, h5_12, hne1, hne2, h5_f⟩ := hw
  refine lv_astore_n (lv' := [(1, .ref q1), (0, .ref b)]) hx hb dL_law_7 rfl hl (by decide) rfl (fun ls hl => ?_)
  refine mm_new (ci := 15) (fs := [.null, .null, .null, .null, .null, .null, .null, .null, .null, .null, .null, .null, .null, .null, .null, .null, .null, .null, .null, .null, .null, .null, .null, .null, .null, .null, .null, .null, .null, .null, .null, .null, .null, .null, .null, .null, .null, .null, .int 0, .int 0, .null, .int 0, .int 0, .int 0, .int 0, .null, .null, .null, .int 0, .int 0, .int 0, .int 0, .int 0, .int 0, .int 0, .int 0, .int 0, .int 0, .int 0, .null, .null, .null, .null, .int 0, .null, .null, .int 0, .null, .int 0, .int 0, .null, .null, .null, .null, .null, .null]) hx hb hf_X14 (fun _ h9 => h9) tyX14 tyX14_ok hown (tb_use hT tw_1385) (tb_use hT tw_1386) (tb_use hT tw_109) hK hG hS hA rfl (fun j hj => by rcases (show j = 0 ∨ j = 1 ∨ j = 2 ∨ j = 3 ∨ j = 4 ∨ j = 5 ∨ j = 6 ∨ j = 7 ∨ j = 8 ∨ j = 9 ∨ j = 10 ∨ j = 11 ∨ j = 12 ∨ j = 13 ∨ j = 14 ∨ j = 15 ∨ j = 16 ∨ j = 17 ∨ j = 18 ∨ j = 19 ∨ j = 20 ∨ j = 21 ∨ j = 22 ∨ j = 23 ∨ j = 24 ∨ j = 25 ∨ j = 26 ∨ j = 27 ∨ j = 28 ∨ j = 29 ∨ j = 30 ∨ j = 31 ∨ j = 32 ∨ j = 33 ∨ j = 34 ∨ j = 35 ∨ j = 36 ∨ j = 37 ∨ j = 38 ∨ j = 39 ∨ j = 40 ∨ j = 41 ∨ j = 42 ∨ j = 43 ∨ j = 44 ∨ j = 45 ∨ j = 46 ∨ j = 47 ∨ j = 48 ∨ j = 49 ∨ j = 50 ∨ j = 51 ∨ j = 52 ∨ j = 53 ∨ j = 54 ∨ j = 55 ∨ j = 56 ∨ j = 57 ∨ j = 58 ∨ j = 59 ∨ j = 60 ∨ j = 61 ∨ j = 62 ∨ j = 63 ∨ j = 64 ∨ j = 65 ∨ j = 66 ∨ j = 67 ∨ j = 68 ∨ j = 69 ∨ j = 70 ∨ j = 71 ∨ j = 72 ∨ j = 73 ∨ j = 74 ∨ j = 75 by omega) with rfl | rfl | rfl | rfl | rfl | rfl | rfl | rfl | rfl | rfl | rfl | rfl | rfl | rfl | rfl | rfl | rfl | rfl | rfl | rfl | rfl | rfl | rfl | rfl | rfl | rfl | rfl | rfl | rfl | rfl | rfl | rfl | rfl | rfl | rfl | rfl | rfl | rfl | rfl | rfl | rfl | rfl | rfl | rfl | rfl | rfl | rfl | rfl | rfl | rfl | rfl | rfl | rfl | rfl | rfl | rfl | rfl | rfl | rfl | rfl | rfl | rfl | rfl | rfl | rfl | rfl | rfl | rfl | rfl | rfl | rfl | rfl | rfl | rfl | rfl | rfl <;> rfl) (by exact Nat.le_of_ble_eq_true rfl) (by exact Nat.le_of_ble_eq_true rfl) dL_law_8 (fun q6 H hn_q6 hG hS => ?_)
  obtain ⟨G7, eG7⟩ : ∃ g, g = mm_set G4 q6 (.inr (15, [.null, .null, .null, .null, .null, .null, .null, .null, .null, .null, .null, .null, .null, .null, .null, .null, .null, .null, .null, .null, .null, .null, .null, .null, .null, .null, .null, .null, .null, .null, .null, .null, .null, .null, .null, .null, .null, .null, .int 0, .int 0, .null, .int 0, .int 0, .int 0, .int 0, .null, .null, .null, .int 0, .int 0, .int 0, .int 0, .int 0, .int 0, .int 0, .int 0, .int 0, .int 0, .int 0, .null, .null, .null, .null, .int 0, .null, .null, .int 0, .null, .int 0, .int 0, .null, .null, .null, .null, .null, .null])) := ⟨_, rfl⟩
  have hG : mm D vwCl A G7 H := by rw [eG7]; exact hG
  have k8 : G7 q1 = some (.inr (14, [.ref tx, .ref rd, .ref to, .ref se, .ref kp, .int 0, .int 0, .null, .null])) := by rw [eG7]; exact mm_set_new h5_0 hn_q6
  have k9 : G7 tx = some (.inl (cy 0, 2000, .inl (fun _ => 0))) := by rw [eG7]; exact mm_set_new h5_1 hn_q6
  have k10 : G7 rd = some (.inr (10, [.ref tk_, .ref ow, .null, .int 0, .int 0])) := by rw [eG7]; exact mm_set_new h5_2 hn_q6
  have k11 : G7 to = some (.inr (7, [.ref ro, .int 0])) := by rw [eG7]; exact mm_set_new h5_3 hn_q6
  have k12 : G7 se = some (.inr (7, [.ref rs, .int 0])) := by rw [eG7]; exact mm_set_new h5_4 hn_q6
  have k13 : G7 kp = some (.inl (cy 6, 4, .inr (.inr (.inr (.inr (fun _ => none)))))) := by rw [eG7]; exact mm_set_new h5_5 hn_q6
  have k14 : G7 tk_ = some (.inr (13, [.ref ks, .ref ss, .ref vs, .int 0])) := by rw [eG7]; exact mm_set_new h5_6 hn_q6
  have k15 : G7 ow = some (.inl (cy 1, 3, .inl (fun _ => 0))) := by rw [eG7]; exact mm_set_new h5_7 hn_q6
  have k16 : G7 ks = some (.inl (cy 5, 2001, .inr (.inr (.inr (.inr (fun _ => none)))))) := by rw [eG7]; exact mm_set_new h5_8 hn_q6
  have k17 : G7 ss = some (.inl (cy 1, 2001, .inl (fun _ => 0))) := by rw [eG7]; exact mm_set_new h5_9 hn_q6
  have k18 : G7 vs = some (.inl (cy 2, 2001, .inr (.inl (fun _ => 0)))) := by rw [eG7]; exact mm_set_new h5_10 hn_q6
  have k19 : G7 ro = some (.inl (cy 0, 64, .inl (fun _ => 0))) := by rw [eG7]; exact mm_set_new h5_11 hn_q6
  have k20 : G7 rs = some (.inl (cy 0, 64, .inl (fun _ => 0))) := by rw [eG7]; exact mm_set_new h5_12 hn_q6
  have k21 : G7 q6 = some (.inr (15, [.null, .null, .null, .null, .null, .null, .null, .null, .null, .null, .null, .null, .null, .null, .null, .null, .null, .null, .null, .null, .null, .null, .null, .null, .null, .null, .null, .null, .null, .null, .null, .null, .null, .null, .null, .null, .null, .null, .int 0, .int 0, .null, .int 0, .int 0, .int 0, .int 0, .null, .null, .null, .int 0, .int 0, .int 0, .int 0, .int 0, .int 0, .int 0, .int 0, .int 0, .int 0, .int 0, .null, .null, .null, .null, .int 0, .null, .null, .int 0, .null, .int 0, .int 0, .null, .null, .null, .null, .null, .null])) := by rw [eG7]; exact mm_set_self
  refine lv_dup hx hb dL_law_11 rfl ?_
  refine va_callv (va_runI (As := []) (rest := [.ref q6]) ⟨hx, hb, hml, hown, (fun _ h9 => absurd h9 List.not_mem_nil : ∀ w ∈ ([] : List Cond), w.before _ s = true)⟩ (c_X14_init l D cy A X hst hXT G7 q6 k21) (tb_ci 0 hT tw_1389 tw_109 tw_1387 tw_1388 rfl rfl rfl (by decide +kernel) ⟨Nat.le_of_ble_eq_true rfl, Nat.le_of_ble_eq_true rfl⟩) (mk_preS hst hG hK hA hX hS) rfl rfl hl.1 rfl (lv_room (Nat.le_of_ble_eq_true rfl)) dL_law_12 ⟨Nat.le_of_ble_eq_true rfl, Nat.le_of_ble_eq_true rfl⟩) hS (fun q _ h => h) (fun q h => h) (fun  G22 t H1 locs ht hvm hw hB hz1 hk1 hS => ?_)
  have hG : mm D vwCl A G22 H1 := by rw [← ht]; exact hB
  clear hB hz1 hk1 hvm ht
  generalize H1 = H at hG hS ⊢
  obtain ⟨Ar, hM, h47, hz, h23_f⟩ := hw
  have mz_q1 : q1 ≠ q6 := (mm_ne_oo k8 k21 (by decide))
  have az_q1 : ∀ k, mdR k = true → Ar k ≠ q1 := fun k hk z => by have z1 := hz k hk; rw [z, k8] at z1; cases z1
  have k24 : G22 q1 = some (.inr (14, [.ref tx, .ref rd, .ref to, .ref se, .ref kp, .int 0, .int 0, .null, .null])) := h23_f _ _ k8 mz_q1
  have mz_tx : tx ≠ q6 := (mm_ne_ao k9 k21)
  have az_tx : ∀ k, mdR k = true → Ar k ≠ tx := fun k hk z => by have z1 := hz k hk; rw [z, k9] at z1; cases z1
  have k25 : G22 tx = some (.inl (cy 0, 2000, .inl (fun _ => 0))) := h23_f _ _ k9 mz_tx
  have mz_rd : rd ≠ q6 := (mm_ne_oo k10 k21 (by decide))
  have az_rd : ∀ k, mdR k = true → Ar k ≠ rd := fun k hk z => by have z1 := hz k hk; rw [z, k10] at z1; cases z1
  have k26 : G22 rd = some (.inr (10, [.ref tk_, .ref ow, .null, .int 0, .int 0])) := h23_f _ _ k10 mz_rd
  have mz_to : to ≠ q6 := (mm_ne_oo k11 k21 (by decide))
  have az_to : ∀ k, mdR k = true → Ar k ≠ to := fun k hk z => by have z1 := hz k hk; rw [z, k11] at z1; cases z1
  have k27 : G22 to = some (.inr (7, [.ref ro, .int 0])) := h23_f _ _ k11 mz_to
  have mz_se : se ≠ q6 := (mm_ne_oo k12 k21 (by decide))
  have az_se : ∀ k, mdR k = true → Ar k ≠ se := fun k hk z => by have z1 := hz k hk; rw [z, k12] at z1; cases z1
  have k28 : G22 se = some (.inr (7, [.ref rs, .int 0])) := h23_f _ _ k12 mz_se
  have mz_kp : kp ≠ q6 := (mm_ne_ao k13 k21)
  have az_kp : ∀ k, mdR k = true → Ar k ≠ kp := fun k hk z => by have z1 := hz k hk; rw [z, k13] at z1; cases z1
  have k29 : G22 kp = some (.inl (cy 6, 4, .inr (.inr (.inr (.inr (fun _ => none)))))) := h23_f _ _ k13 mz_kp
  have mz_tk_ : tk_ ≠ q6 := (mm_ne_oo k14 k21 (by decide))
  have az_tk_ : ∀ k, mdR k = true → Ar k ≠ tk_ := fun k hk z => by have z1 := hz k hk; rw [z, k14] at z1; cases z1
  have k30 : G22 tk_ = some (.inr (13, [.ref ks, .ref ss, .ref vs, .int 0])) := h23_f _ _ k14 mz_tk_
  have mz_ow : ow ≠ q6 := (mm_ne_ao k15 k21)
  have az_ow : ∀ k, mdR k = true → Ar k ≠ ow := fun k hk z => by have z1 := hz k hk; rw [z, k15] at z1; cases z1
  have k31 : G22 ow = some (.inl (cy 1, 3, .inl (fun _ => 0))) := h23_f _ _ k15 mz_ow
  have mz_ks : ks ≠ q6 := (mm_ne_ao k16 k21)
  have az_ks : ∀ k, mdR k = true → Ar k ≠ ks := fun k hk z => by have z1 := hz k hk; rw [z, k16] at z1; cases z1
  have k32 : G22 ks = some (.inl (cy 5, 2001, .inr (.inr (.inr (.inr (fun _ => none)))))) := h23_f _ _ k16 mz_ks
  have mz_ss : ss ≠ q6 := (mm_ne_ao k17 k21)
  have az_ss : ∀ k, mdR k = true → Ar k ≠ ss := fun k hk z => by have z1 := hz k hk; rw [z, k17] at z1; cases z1
  have k33 : G22 ss = some (.inl (cy 1, 2001, .inl (fun _ => 0))) := h23_f _ _ k17 mz_ss
  have mz_vs : vs ≠ q6 := (mm_ne_ao k18 k21)
  have az_vs : ∀ k, mdR k = true → Ar k ≠ vs := fun k hk z => by have z1 := hz k hk; rw [z, k18] at z1; cases z1
  have k34 : G22 vs = some (.inl (cy 2, 2001, .inr (.inl (fun _ => 0)))) := h23_f _ _ k18 mz_vs
  have mz_ro : ro ≠ q6 := (mm_ne_ao k19 k21)
  have az_ro : ∀ k, mdR k = true → Ar k ≠ ro := fun k hk z => by have z1 := hz k hk; rw [z, k19] at z1; cases z1
  have k35 : G22 ro = some (.inl (cy 0, 64, .inl (fun _ => 0))) := h23_f _ _ k19 mz_ro
  have mz_rs : rs ≠ q6 := (mm_ne_ao k20 k21)
  have az_rs : ∀ k, mdR k = true → Ar k ≠ rs := fun k hk z => by have z1 := hz k hk; rw [z, k20] at z1; cases z1
  have k36 : G22 rs = some (.inl (cy 0, 64, .inl (fun _ => 0))) := h23_f _ _ k20 mz_rs
  clear hz
  refine lv_astore_n (lv' := [(2, .ref q6), (1, .ref q1), (0, .ref b)]) hx hb dL_law_15 rfl hl (by decide) rfl (fun ls hl => ?_)
  refine lv_iconst (v := 1) hx hb dL_law_16 (by decide) ?_
  refine mm_newa (n := 1) (atype := .long) (ty := .long) (N' := 1) (a0 := (1, .inr (.inl (fun _ => 0)))) hx hb (tb_arr hT tw_176) rfl hK hG hS hA 2 rfl (fun cA => rfl) (by decide) (by decide) (by decide) (by exact Nat.le_of_ble_eq_true rfl) (by exact Nat.le_of_ble_eq_true rfl) dL_law_17 (fun q37 H hn_q37 hG hS => ?_)
  obtain ⟨G38, eG38⟩ : ∃ g, g = mm_set G22 q37 (.inl (cy 2, 1, .inr (.inl (fun _ => 0)))) := ⟨_, rfl⟩
  have hG : mm D vwCl A G38 H := by rw [eG38]; exact hG
  have k39 : G38 q1 = some (.inr (14, [.ref tx, .ref rd, .ref to, .ref se, .ref kp, .int 0, .int 0, .null, .null])) := by rw [eG38]; exact mm_set_new k24 hn_q37
  have k40 : G38 tx = some (.inl (cy 0, 2000, .inl (fun _ => 0))) := by rw [eG38]; exact mm_set_new k25 hn_q37
  have k41 : G38 rd = some (.inr (10, [.ref tk_, .ref ow, .null, .int 0, .int 0])) := by rw [eG38]; exact mm_set_new k26 hn_q37
  have k42 : G38 to = some (.inr (7, [.ref ro, .int 0])) := by rw [eG38]; exact mm_set_new k27 hn_q37
  have k43 : G38 se = some (.inr (7, [.ref rs, .int 0])) := by rw [eG38]; exact mm_set_new k28 hn_q37
  have k44 : G38 kp = some (.inl (cy 6, 4, .inr (.inr (.inr (.inr (fun _ => none)))))) := by rw [eG38]; exact mm_set_new k29 hn_q37
  have k45 : G38 tk_ = some (.inr (13, [.ref ks, .ref ss, .ref vs, .int 0])) := by rw [eG38]; exact mm_set_new k30 hn_q37
  have k46 : G38 ow = some (.inl (cy 1, 3, .inl (fun _ => 0))) := by rw [eG38]; exact mm_set_new k31 hn_q37
  have k47 : G38 ks = some (.inl (cy 5, 2001, .inr (.inr (.inr (.inr (fun _ => none)))))) := by rw [eG38]; exact mm_set_new k32 hn_q37
  have k48 : G38 ss = some (.inl (cy 1, 2001, .inl (fun _ => 0))) := by rw [eG38]; exact mm_set_new k33 hn_q37
  have k49 : G38 vs = some (.inl (cy 2, 2001, .inr (.inl (fun _ => 0)))) := by rw [eG38]; exact mm_set_new k34 hn_q37
  have k50 : G38 ro = some (.inl (cy 0, 64, .inl (fun _ => 0))) := by rw [eG38]; exact mm_set_new k35 hn_q37
  have k51 : G38 rs = some (.inl (cy 0, 64, .inl (fun _ => 0))) := by rw [eG38]; exact mm_set_new k36 hn_q37
  have k52 : G38 q37 = some (.inl (cy 2, 1, .inr (.inl (fun _ => 0)))) := by rw [eG38]; exact mm_set_self
  replace hM := MD.fr (G2 := G38) (fun _ => True) hM (fun x e h0 _ => by rw [eG38]; exact mm_set_new h0 hn_q37) trivial (fun _ _ => trivial)
  refine lv_astore_n (lv' := [(3, .ref q37), (2, .ref q6), (1, .ref q1), (0, .ref b)]) hx hb dL_law_19 rfl hl (by decide) rfl (fun ls hl => ?_)
  refine lv_iconst (v := 0) hx hb dL_law_20 (by decide) ?_
  refine lv_istore (lv' := [(4, .int 0), (3, .ref q37), (2, .ref q6), (1, .ref q1), (0, .ref b)]) hx hb dL_law_21 hl (by decide) rfl (fun ls hl => ?_)
  refine lv_iload hx hb dL_law_23 (lv_at hl 0 rfl) ?_
  refine lv_aload_n hx hb dL_law_25 rfl (lv_at hl 4 rfl) ?_
  refine va_slen hx hb hX0 hbl hbA hS dL_law_26 ?_
  refine lv_iconst (v := 5) hx hb dL_law_27 (by decide) ?_
  refine lv_isub hx hb dL_law_28 ?_
  refine lv_icmp_gt (tgt := 613) hx hb dL_law_29 (by decide) (fun c_29 => ?_) (fun c_29 => ?_)
  · skip
    exact absurd c_29 (by decide)
  · skip
    refine lv_aload_n hx hb dL_law_32 rfl (lv_at hl 4 rfl) ?_
    refine lv_iload hx hb dL_law_33 (lv_at hl 0 rfl) ?_
    refine va_sld hx hb hX0 hbl hbA hS (i := 0) (vp_in_lt (m := 5) (by decide) (by decide) rfl) dL_law_35 ?_
    refine lv_topi (fun x54 ex54 => ?_)
    refine lv_bipush (v := 15) hx hb dL_law_36 (by decide) ?_
    refine lv_iand hx hb dL_law_38 ?_
    by_cases sw_39 : (x54 &&& 15).toInt < 0 ∨ 12 < (x54 &&& 15).toInt
    · skip
      refine lv_tableOut (tgt := 607) hx hb dL_law_39 sw_39 (by decide) ?_
      obtain ⟨x55, ex55⟩ : ∃ y : Int32, y = 0 + 5 := ⟨_, rfl⟩
      refine lv_iinc (v := x55) (lv' := [(4, .int x55), (3, .ref q37), (2, .ref q6), (1, .ref q1), (0, .ref b)]) hx hb dL_law_607 hl (k := 0) rfl (by rw [ex55]; rfl) (by decide) rfl (fun ls hl => ?_)
      refine lv_goto (tgt := 23) hx hb dL_law_610 (by decide) ?_
      refine lv_iload hx hb dL_law_23 (lv_at hl 0 rfl) ?_
      refine lv_aload_n hx hb dL_law_25 rfl (lv_at hl 4 rfl) ?_
      refine va_slen hx hb hX0 hbl hbA hS dL_law_26 ?_
      refine lv_iconst (v := 5) hx hb dL_law_27 (by decide) ?_
      refine lv_isub hx hb dL_law_28 ?_
      refine lv_icmp_gt (tgt := 613) hx hb dL_law_29 (by decide) (fun c_29 => ?_) (fun c_29 => ?_)
      · skip
        refine lv_iconst (v := 1) hx hb dL_law_613 (by decide) ?_
        refine va_forget (fun q hq => by have hz := hS.2.2 q hq; rw [eA] at hz; exact hz) ?_
        refine W.widen (k := 600002) (n := 7302232) (by omega) (by omega) ?_
        exact lw_ret hx hb hr hlocks dL_law_614
      · skip
        exact absurd (by rw [ex55]; decide) c_29
    · skip
      have hlo : ¬ (x54 &&& 15).toInt < 0 := fun z => sw_39 (Or.inl z)
      have hhi : ¬ 12 < (x54 &&& 15).toInt := fun z => sw_39 (Or.inr z)
      have hcs : (x54 &&& 15).toInt = 0 ∨ (x54 &&& 15).toInt = 1 ∨ (x54 &&& 15).toInt = 2 ∨ (x54 &&& 15).toInt = 3 ∨ (x54 &&& 15).toInt = 4 ∨ (x54 &&& 15).toInt = 5 ∨ (x54 &&& 15).toInt = 6 ∨ (x54 &&& 15).toInt = 7 ∨ (x54 &&& 15).toInt = 8 ∨ (x54 &&& 15).toInt = 9 ∨ (x54 &&& 15).toInt = 10 ∨ (x54 &&& 15).toInt = 11 ∨ (x54 &&& 15).toInt = 12 := by omega
      rcases hcs with sw_39 | sw_39 | sw_39 | sw_39 | sw_39 | sw_39 | sw_39 | sw_39 | sw_39 | sw_39 | sw_39 | sw_39 | sw_39
      · skip
        refine lv_tableIn (tgt := 104) hx hb dL_law_39 hlo hhi (off := 65) (by rw [sw_39]; rfl) (by decide) ?_
        refine lv_aload_n hx hb dL_law_104 rfl (lv_at hl 3 rfl) ?_
        refine lv_aload_n hx hb dL_law_105 rfl (lv_at hl 4 rfl) ?_
        refine lv_iload hx hb dL_law_106 (lv_at hl 0 rfl) ?_
        refine lv_iconst (v := 1) hx hb dL_law_108 (by decide) ?_
        refine lv_iadd hx hb dL_law_109 ?_
        refine va_sld hx hb hX0 hbl hbA hS (i := (0 + 1)) (vp_in_lt (m := 5) (by decide) (by decide) rfl) dL_law_110 ?_
        refine lv_topi (fun x57 ex57 => ?_)
        refine va_callv (va_runV (As := [.int x57]) (rest := []) ⟨hx, hb, hml, hown, (fun _ h9 => absurd h9 List.not_mem_nil : ∀ w ∈ ([] : List Cond), w.before _ s = true)⟩ (c_X13_sign l D cy A X hst hXT G38 q1 tx rd to se kp none none 0 0 x57 (sg_n x57 4 24 (0, (fun _ => 0))).1 (fun _ => 0) (sg_n x57 4 24 (0, (fun _ => 0))).2 k39 k40 (by decide) rfl) (tb_cw (C := RX13) 1 hT tw_242 tw_105 tw_239 tw_240 tw_241 rfl rfl (by decide +kernel) ⟨Nat.le_of_ble_eq_true rfl, Nat.le_of_ble_eq_true rfl⟩) (mk_preV hst hG hK hA hX hS (ci := 14) rfl k39) rfl rfl hl.1 rfl (lv_room (Nat.le_of_ble_eq_true rfl)) dL_law_111 ⟨Nat.le_of_ble_eq_true rfl, Nat.le_of_ble_eq_true rfl⟩) hS (fun q _ h => h) (fun q h => h) (fun  G58 t H1 locs ht hvm hw hB hz1 hk1 hS => ?_)
        have hG : mm D vwCl A G58 H1 := by rw [← ht]; exact hB
        clear hB hz1 hk1 hvm ht
        generalize H1 = H at hG hS ⊢
        obtain ⟨-, -, -, h59_f⟩ := hw
        replace hM := MD.fr (fun x => x ≠ q1 ∧ x ≠ tx) hM (fun x e h0 hp => h59_f x e h0 hp.1 hp.2) ⟨Ne.symm mz_q1, Ne.symm mz_tx⟩ (fun k hk => ⟨az_q1 k hk, az_tx k hk⟩)
        refine lv_aload_n hx hb dL_law_114 rfl (lv_at hl 2 rfl) ?_
        refine lv_aload_n hx hb dL_law_115 rfl (lv_at hl 4 rfl) ?_
        refine lv_iload hx hb dL_law_116 (lv_at hl 0 rfl) ?_
        refine lv_iconst (v := 1) hx hb dL_law_118 (by decide) ?_
        refine lv_iadd hx hb dL_law_119 ?_
        refine va_sld hx hb hX0 hbl hbA hS (i := (0 + 1)) (vp_in_lt (m := 5) (by decide) (by decide) rfl) dL_law_120 ?_
        refine lv_topi (fun x61 ex61 => ?_)
        refine va_callv (va_runV (As := [.int x61]) (rest := []) ⟨hx, hb, hml, hown, (fun _ h9 => absurd h9 List.not_mem_nil : ∀ w ∈ ([] : List Cond), w.before _ s = true)⟩ (c_X14_sign l D cy A X hst hXT G58 q6 Ar mI0 (fun _ _ => 0) (fun _ _ => 0) x61 (sm_n x61 4 24 (0, (fun _ => 0))).1 (sm_n x61 4 24 (0, (fun _ => 0))).2 hM (by decide) rfl) (tb_cw (C := RX14) 1 hT tw_1628 tw_109 tw_1625 tw_1626 tw_1627 rfl rfl (by decide +kernel) ⟨Nat.le_of_ble_eq_true rfl, Nat.le_of_ble_eq_true rfl⟩) (mk_preV hst hG hK hA hX hS (ci := 15) rfl hM.1) rfl rfl hl.1 rfl (lv_room (Nat.le_of_ble_eq_true rfl)) dL_law_121 ⟨Nat.le_of_ble_eq_true rfl, Nat.le_of_ble_eq_true rfl⟩) hS (fun q _ h => h) (fun q h => h) (fun  G62 t H1 locs ht hvm hw hB hz1 hk1 hS => ?_)
        have hG : mm D vwCl A G62 H1 := by rw [← ht]; exact hB
        clear hB hz1 hk1 hvm ht
        generalize H1 = H at hG hS ⊢
        refine lv_goto (tgt := 607) hx hb dL_law_124 (by decide) ?_
        obtain ⟨x63, ex63⟩ : ∃ y : Int32, y = 0 + 5 := ⟨_, rfl⟩
        refine lv_iinc (v := x63) (lv' := [(4, .int x63), (3, .ref q37), (2, .ref q6), (1, .ref q1), (0, .ref b)]) hx hb dL_law_607 hl (k := 0) rfl (by rw [ex63]; rfl) (by decide) rfl (fun ls hl => ?_)
        refine lv_goto (tgt := 23) hx hb dL_law_610 (by decide) ?_
        refine lv_iload hx hb dL_law_23 (lv_at hl 0 rfl) ?_
        refine lv_aload_n hx hb dL_law_25 rfl (lv_at hl 4 rfl) ?_
        refine va_slen hx hb hX0 hbl hbA hS dL_law_26 ?_
        refine lv_iconst (v := 5) hx hb dL_law_27 (by decide) ?_
        refine lv_isub hx hb dL_law_28 ?_
        refine lv_icmp_gt (tgt := 613) hx hb dL_law_29 (by decide) (fun c_29 => ?_) (fun c_29 => ?_)
        · skip
          refine lv_iconst (v := 1) hx hb dL_law_613 (by decide) ?_
          refine va_forget (fun q hq => by have hz := hS.2.2 q hq; rw [eA] at hz; exact hz) ?_
          refine W.widen (k := 600002) (n := 7302232) (by omega) (by omega) ?_
          exact lw_ret hx hb hr hlocks dL_law_614
        · skip
          exact absurd (by rw [ex63]; decide) c_29
      · skip
        refine lv_tableIn (tgt := 127) hx hb dL_law_39 hlo hhi (off := 88) (by rw [sw_39]; rfl) (by decide) ?_
        refine lv_aload_n hx hb dL_law_127 rfl (lv_at hl 3 rfl) ?_
        refine va_calli (va_runV (As := []) (rest := []) ⟨hx, hb, hml, hown, (fun _ h9 => absurd h9 List.not_mem_nil : ∀ w ∈ ([] : List Cond), w.before _ s = true)⟩ (c_X13_read_e l D cy A X hst hXT e0 tk hXE G38 q1 tx rd to se kp tk_ ow ks ss vs k39 k40 k41 k44 k45 k47 k48 k49) (tb_cw (C := RX13) 0 hT tw_246 tw_105 tw_243 tw_244 tw_245 rfl rfl (by decide +kernel) ⟨Nat.le_of_ble_eq_true rfl, Nat.le_of_ble_eq_true rfl⟩) (mk_preV hst hG hK hA hX hS (ci := 14) rfl k39) rfl rfl hl.1 rfl (lv_room (Nat.le_of_ble_eq_true rfl)) dL_law_128 ⟨Nat.le_of_ble_eq_true rfl, Nat.le_of_ble_eq_true rfl⟩) hS (fun q _ h => h) (fun q h => h) (fun r64 G65 t H1 locs ht hvm hw hB hz1 hk1 hS => ?_)
        have hG : mm D vwCl A G65 H1 := by rw [← ht]; exact hB
        clear hB hz1 hk1 hvm ht
        generalize H1 = H at hG hS ⊢
        obtain ⟨er64, h66_f⟩ := hw
        replace hM := MD.fr (fun x => x ≠ q1 ∧ x ≠ rd ∧ x ≠ tk_ ∧ x ≠ ks ∧ x ≠ ss ∧ x ≠ vs ∧ x ≠ kp) hM (fun x e h0 hp => h66_f x e h0 hp.1 hp.2.1 hp.2.2.1 hp.2.2.2.1 hp.2.2.2.2.1 hp.2.2.2.2.2.1 hp.2.2.2.2.2.2) ⟨Ne.symm mz_q1, Ne.symm mz_rd, Ne.symm mz_tk_, Ne.symm mz_ks, Ne.symm mz_ss, Ne.symm mz_vs, Ne.symm mz_kp⟩ (fun k hk => ⟨az_q1 k hk, az_rd k hk, az_tk_ k hk, az_ks k hk, az_ss k hk, az_vs k hk, az_kp k hk⟩)
        refine lv_aload_n hx hb dL_law_131 rfl (lv_at hl 2 rfl) ?_
        refine va_calli (va_runV (As := []) (rest := [.int r64]) ⟨hx, hb, hml, hown, (fun _ h9 => absurd h9 List.not_mem_nil : ∀ w ∈ ([] : List Cond), w.before _ s = true)⟩ (c_X14_read_e l D cy A X hst hXT G65 q6 Ar mI0 (fun _ _ => 0) (fun _ _ => 0)  hM rfl rfl rfl h47) (tb_cw (C := RX14) 0 hT tw_1632 tw_109 tw_1629 tw_1630 tw_1631 rfl rfl (by decide +kernel) ⟨Nat.le_of_ble_eq_true rfl, Nat.le_of_ble_eq_true rfl⟩) (mk_preV hst hG hK hA hX hS (ci := 15) rfl hM.1) rfl rfl hl.1 rfl (lv_room (Nat.le_of_ble_eq_true rfl)) dL_law_132 ⟨Nat.le_of_ble_eq_true rfl, Nat.le_of_ble_eq_true rfl⟩) hS (fun q _ h => h) (fun q h => h) (fun r67 G68 t H1 locs ht hvm hw hB hz1 hk1 hS => ?_)
        have hG : mm D vwCl A G68 H1 := by rw [← ht]; exact hB
        clear hB hz1 hk1 hvm ht
        generalize H1 = H at hG hS ⊢
        obtain ⟨er67, -⟩ := hw
        refine lv_icmp_eq (tgt := 607) hx hb dL_law_135 (by decide) (fun c_135 => ?_) (fun c_135 => ?_)
        · skip
          obtain ⟨x69, ex69⟩ : ∃ y : Int32, y = 0 + 5 := ⟨_, rfl⟩
          refine lv_iinc (v := x69) (lv' := [(4, .int x69), (3, .ref q37), (2, .ref q6), (1, .ref q1), (0, .ref b)]) hx hb dL_law_607 hl (k := 0) rfl (by rw [ex69]; rfl) (by decide) rfl (fun ls hl => ?_)
          refine lv_goto (tgt := 23) hx hb dL_law_610 (by decide) ?_
          refine lv_iload hx hb dL_law_23 (lv_at hl 0 rfl) ?_
          refine lv_aload_n hx hb dL_law_25 rfl (lv_at hl 4 rfl) ?_
          refine va_slen hx hb hX0 hbl hbA hS dL_law_26 ?_
          refine lv_iconst (v := 5) hx hb dL_law_27 (by decide) ?_
          refine lv_isub hx hb dL_law_28 ?_
          refine lv_icmp_gt (tgt := 613) hx hb dL_law_29 (by decide) (fun c_29 => ?_) (fun c_29 => ?_)
          · skip
            refine lv_iconst (v := 1) hx hb dL_law_613 (by decide) ?_
            refine va_forget (fun q hq => by have hz := hS.2.2 q hq; rw [eA] at hz; exact hz) ?_
            refine W.widen (k := 600002) (n := 7302232) (by omega) (by omega) ?_
            exact lw_ret hx hb hr hlocks dL_law_614
          · skip
            exact absurd (by rw [ex69]; decide) c_29
        · skip
          exact absurd (by rw [er64, er67]) c_135
      · skip
        refine lv_tableIn (tgt := 140) hx hb dL_law_39 hlo hhi (off := 101) (by rw [sw_39]; rfl) (by decide) ?_
        refine lv_aload_n hx hb dL_law_140 rfl (lv_at hl 3 rfl) ?_
        refine lv_aload_n hx hb dL_law_141 rfl (lv_at hl 4 rfl) ?_
        refine lv_iload hx hb dL_law_142 (lv_at hl 0 rfl) ?_
        refine lv_iconst (v := 1) hx hb dL_law_144 (by decide) ?_
        refine lv_iadd hx hb dL_law_145 ?_
        refine va_sld hx hb hX0 hbl hbA hS (i := (0 + 1)) (vp_in_lt (m := 5) (by decide) (by decide) rfl) dL_law_146 ?_
        refine lv_topi (fun x71 ex71 => ?_)
        refine lv_aload_n hx hb dL_law_147 rfl (lv_at hl 4 rfl) ?_
        refine lv_iload hx hb dL_law_148 (lv_at hl 0 rfl) ?_
        refine lv_iconst (v := 2) hx hb dL_law_150 (by decide) ?_
        refine lv_iadd hx hb dL_law_151 ?_
        refine va_sld hx hb hX0 hbl hbA hS (i := (0 + 2)) (vp_in_lt (m := 5) (by decide) (by decide) rfl) dL_law_152 ?_
        refine lv_topi (fun x73 ex73 => ?_)
        refine va_calli (va_runV (As := [.int x71, .int x73]) (rest := []) ⟨hx, hb, hml, hown, (fun _ h9 => absurd h9 List.not_mem_nil : ∀ w ∈ ([] : List Cond), w.before _ s = true)⟩ (c_X13_service_0 l D cy A X hst hXT G38 q1 tx rd to se kp 0 0 x71 x73 k39) (tb_cw (C := RX13) 2 hT tw_1086 tw_105 tw_1083 tw_1084 tw_1085 rfl rfl (by decide +kernel) ⟨Nat.le_of_ble_eq_true rfl, Nat.le_of_ble_eq_true rfl⟩) (mk_preV hst hG hK hA hX hS (ci := 14) rfl k39) rfl rfl hl.1 rfl (lv_room (Nat.le_of_ble_eq_true rfl)) dL_law_153 ⟨Nat.le_of_ble_eq_true rfl, Nat.le_of_ble_eq_true rfl⟩) hS (fun q _ h => h) (fun q h => h) (fun r74 G75 t H1 locs ht hvm hw hB hz1 hk1 hS => ?_)
        have hG : mm D vwCl A G75 H1 := by rw [← ht]; exact hB
        clear hB hz1 hk1 hvm ht
        generalize H1 = H at hG hS ⊢
        obtain ⟨er74, hw⟩ := hw
        rw [hw] at hG
        refine lv_aload_n hx hb dL_law_156 rfl (lv_at hl 2 rfl) ?_
        refine lv_aload_n hx hb dL_law_157 rfl (lv_at hl 4 rfl) ?_
        refine lv_iload hx hb dL_law_158 (lv_at hl 0 rfl) ?_
        refine lv_iconst (v := 1) hx hb dL_law_160 (by decide) ?_
        refine lv_iadd hx hb dL_law_161 ?_
        refine va_sld hx hb hX0 hbl hbA hS (i := (0 + 1)) (vp_in_lt (m := 5) (by decide) (by decide) rfl) dL_law_162 ?_
        refine lv_topi (fun x77 ex77 => ?_)
        refine lv_aload_n hx hb dL_law_163 rfl (lv_at hl 4 rfl) ?_
        refine lv_iload hx hb dL_law_164 (lv_at hl 0 rfl) ?_
        refine lv_iconst (v := 2) hx hb dL_law_166 (by decide) ?_
        refine lv_iadd hx hb dL_law_167 ?_
        refine va_sld hx hb hX0 hbl hbA hS (i := (0 + 2)) (vp_in_lt (m := 5) (by decide) (by decide) rfl) dL_law_168 ?_
        refine lv_topi (fun x79 ex79 => ?_)
        refine va_calli (va_runV (As := [.int x77, .int x79]) (rest := [.int r74]) ⟨hx, hb, hml, hown, (fun _ h9 => absurd h9 List.not_mem_nil : ∀ w ∈ ([] : List Cond), w.before _ s = true)⟩ (c_X14_service_0 l D cy A X hst hXT G38 q6 Ar mI0 (fun _ _ => 0) (fun _ _ => 0) x77 x79 hM rfl ) (tb_cw (C := RX14) 2 hT tw_1810 tw_109 tw_1807 tw_1808 tw_1809 rfl rfl (by decide +kernel) ⟨Nat.le_of_ble_eq_true rfl, Nat.le_of_ble_eq_true rfl⟩) (mk_preV hst hG hK hA hX hS (ci := 15) rfl hM.1) rfl rfl hl.1 rfl (lv_room (Nat.le_of_ble_eq_true rfl)) dL_law_169 ⟨Nat.le_of_ble_eq_true rfl, Nat.le_of_ble_eq_true rfl⟩) hS (fun q _ h => h) (fun q h => h) (fun r80 G81 t H1 locs ht hvm hw hB hz1 hk1 hS => ?_)
        have hG : mm D vwCl A G81 H1 := by rw [← ht]; exact hB
        clear hB hz1 hk1 hvm ht
        generalize H1 = H at hG hS ⊢
        obtain ⟨er80, hM2, -⟩ := hw
        refine lv_icmp_eq (tgt := 607) hx hb dL_law_172 (by decide) (fun c_172 => ?_) (fun c_172 => ?_)
        · skip
          obtain ⟨x82, ex82⟩ : ∃ y : Int32, y = 0 + 5 := ⟨_, rfl⟩
          refine lv_iinc (v := x82) (lv' := [(4, .int x82), (3, .ref q37), (2, .ref q6), (1, .ref q1), (0, .ref b)]) hx hb dL_law_607 hl (k := 0) rfl (by rw [ex82]; rfl) (by decide) rfl (fun ls hl => ?_)
          refine lv_goto (tgt := 23) hx hb dL_law_610 (by decide) ?_
          refine lv_iload hx hb dL_law_23 (lv_at hl 0 rfl) ?_
          refine lv_aload_n hx hb dL_law_25 rfl (lv_at hl 4 rfl) ?_
          refine va_slen hx hb hX0 hbl hbA hS dL_law_26 ?_
          refine lv_iconst (v := 5) hx hb dL_law_27 (by decide) ?_
          refine lv_isub hx hb dL_law_28 ?_
          refine lv_icmp_gt (tgt := 613) hx hb dL_law_29 (by decide) (fun c_29 => ?_) (fun c_29 => ?_)
          · skip
            refine lv_iconst (v := 1) hx hb dL_law_613 (by decide) ?_
            refine va_forget (fun q hq => by have hz := hS.2.2 q hq; rw [eA] at hz; exact hz) ?_
            refine W.widen (k := 600002) (n := 7302232) (by omega) (by omega) ?_
            exact lw_ret hx hb hr hlocks dL_law_614
          · skip
            exact absurd (by rw [ex82]; decide) c_29
        · skip
          exact absurd (by rw [er74, er80]) c_172
      · skip
        refine lv_tableIn (tgt := 177) hx hb dL_law_39 hlo hhi (off := 138) (by rw [sw_39]; rfl) (by decide) ?_
        refine lv_aload_n hx hb dL_law_177 rfl (lv_at hl 3 rfl) ?_
        refine lv_aload_n hx hb dL_law_178 rfl (lv_at hl 4 rfl) ?_
        refine lv_iload hx hb dL_law_179 (lv_at hl 0 rfl) ?_
        refine lv_iconst (v := 1) hx hb dL_law_181 (by decide) ?_
        refine lv_iadd hx hb dL_law_182 ?_
        refine va_sld hx hb hX0 hbl hbA hS (i := (0 + 1)) (vp_in_lt (m := 5) (by decide) (by decide) rfl) dL_law_183 ?_
        refine lv_topi (fun x84 ex84 => ?_)
        refine lv_aload_n hx hb dL_law_184 rfl (lv_at hl 4 rfl) ?_
        refine lv_iload hx hb dL_law_185 (lv_at hl 0 rfl) ?_
        refine lv_iconst (v := 2) hx hb dL_law_187 (by decide) ?_
        refine lv_iadd hx hb dL_law_188 ?_
        refine va_sld hx hb hX0 hbl hbA hS (i := (0 + 2)) (vp_in_lt (m := 5) (by decide) (by decide) rfl) dL_law_189 ?_
        refine lv_topi (fun x86 ex86 => ?_)
        refine lv_aload_n hx hb dL_law_190 rfl (lv_at hl 4 rfl) ?_
        refine lv_iload hx hb dL_law_191 (lv_at hl 0 rfl) ?_
        refine lv_iconst (v := 3) hx hb dL_law_193 (by decide) ?_
        refine lv_iadd hx hb dL_law_194 ?_
        refine va_sld hx hb hX0 hbl hbA hS (i := (0 + 3)) (vp_in_lt (m := 5) (by decide) (by decide) rfl) dL_law_195 ?_
        refine lv_topi (fun x88 ex88 => ?_)
        refine va_calli (va_runV (As := [.int x84, .int x86, .int x88]) (rest := []) ⟨hx, hb, hml, hown, (fun _ h9 => absurd h9 List.not_mem_nil : ∀ w ∈ ([] : List Cond), w.before _ s = true)⟩ (c_X13_parameter_0 l D cy A X hst hXT G38 q1 tx rd to se kp 0 0 x84 x86 x88 k39) (tb_cw (C := RX13) 3 hT tw_1100 tw_105 tw_1097 tw_1098 tw_1099 rfl rfl (by decide +kernel) ⟨Nat.le_of_ble_eq_true rfl, Nat.le_of_ble_eq_true rfl⟩) (mk_preV hst hG hK hA hX hS (ci := 14) rfl k39) rfl rfl hl.1 rfl (lv_room (Nat.le_of_ble_eq_true rfl)) dL_law_196 ⟨Nat.le_of_ble_eq_true rfl, Nat.le_of_ble_eq_true rfl⟩) hS (fun q _ h => h) (fun q h => h) (fun r89 G90 t H1 locs ht hvm hw hB hz1 hk1 hS => ?_)
        have hG : mm D vwCl A G90 H1 := by rw [← ht]; exact hB
        clear hB hz1 hk1 hvm ht
        generalize H1 = H at hG hS ⊢
        obtain ⟨er89, hw⟩ := hw
        rw [hw] at hG
        refine lv_aload_n hx hb dL_law_199 rfl (lv_at hl 2 rfl) ?_
        refine lv_aload_n hx hb dL_law_200 rfl (lv_at hl 4 rfl) ?_
        refine lv_iload hx hb dL_law_201 (lv_at hl 0 rfl) ?_
        refine lv_iconst (v := 1) hx hb dL_law_203 (by decide) ?_
        refine lv_iadd hx hb dL_law_204 ?_
        refine va_sld hx hb hX0 hbl hbA hS (i := (0 + 1)) (vp_in_lt (m := 5) (by decide) (by decide) rfl) dL_law_205 ?_
        refine lv_topi (fun x92 ex92 => ?_)
        refine lv_aload_n hx hb dL_law_206 rfl (lv_at hl 4 rfl) ?_
        refine lv_iload hx hb dL_law_207 (lv_at hl 0 rfl) ?_
        refine lv_iconst (v := 2) hx hb dL_law_209 (by decide) ?_
        refine lv_iadd hx hb dL_law_210 ?_
        refine va_sld hx hb hX0 hbl hbA hS (i := (0 + 2)) (vp_in_lt (m := 5) (by decide) (by decide) rfl) dL_law_211 ?_
        refine lv_topi (fun x94 ex94 => ?_)
        refine lv_aload_n hx hb dL_law_212 rfl (lv_at hl 4 rfl) ?_
        refine lv_iload hx hb dL_law_213 (lv_at hl 0 rfl) ?_
        refine lv_iconst (v := 3) hx hb dL_law_215 (by decide) ?_
        refine lv_iadd hx hb dL_law_216 ?_
        refine va_sld hx hb hX0 hbl hbA hS (i := (0 + 3)) (vp_in_lt (m := 5) (by decide) (by decide) rfl) dL_law_217 ?_
        refine lv_topi (fun x96 ex96 => ?_)
        refine va_calli (va_runV (As := [.int x92, .int x94, .int x96]) (rest := [.int r89]) ⟨hx, hb, hml, hown, (fun _ h9 => absurd h9 List.not_mem_nil : ∀ w ∈ ([] : List Cond), w.before _ s = true)⟩ (c_X14_parameter_0 l D cy A X hst hXT G38 q6 Ar mI0 (fun _ _ => 0) (fun _ _ => 0) x92 x94 x96 hM rfl ) (tb_cw (C := RX14) 3 hT tw_1818 tw_109 tw_1815 tw_1816 tw_1817 rfl rfl (by decide +kernel) ⟨Nat.le_of_ble_eq_true rfl, Nat.le_of_ble_eq_true rfl⟩) (mk_preV hst hG hK hA hX hS (ci := 15) rfl hM.1) rfl rfl hl.1 rfl (lv_room (Nat.le_of_ble_eq_true rfl)) dL_law_218 ⟨Nat.le_of_ble_eq_true rfl, Nat.le_of_ble_eq_true rfl⟩) hS (fun q _ h => h) (fun q h => h) (fun r97 G98 t H1 locs ht hvm hw hB hz1 hk1 hS => ?_)
        have hG : mm D vwCl A G98 H1 := by rw [← ht]; exact hB
        clear hB hz1 hk1 hvm ht
        generalize H1 = H at hG hS ⊢
        obtain ⟨er97, hM2, -⟩ := hw
        refine lv_icmp_eq (tgt := 607) hx hb dL_law_221 (by decide) (fun c_221 => ?_) (fun c_221 => ?_)
        · skip
          obtain ⟨x99, ex99⟩ : ∃ y : Int32, y = 0 + 5 := ⟨_, rfl⟩
          refine lv_iinc (v := x99) (lv' := [(4, .int x99), (3, .ref q37), (2, .ref q6), (1, .ref q1), (0, .ref b)]) hx hb dL_law_607 hl (k := 0) rfl (by rw [ex99]; rfl) (by decide) rfl (fun ls hl => ?_)
          refine lv_goto (tgt := 23) hx hb dL_law_610 (by decide) ?_
          refine lv_iload hx hb dL_law_23 (lv_at hl 0 rfl) ?_
          refine lv_aload_n hx hb dL_law_25 rfl (lv_at hl 4 rfl) ?_
          refine va_slen hx hb hX0 hbl hbA hS dL_law_26 ?_
          refine lv_iconst (v := 5) hx hb dL_law_27 (by decide) ?_
          refine lv_isub hx hb dL_law_28 ?_
          refine lv_icmp_gt (tgt := 613) hx hb dL_law_29 (by decide) (fun c_29 => ?_) (fun c_29 => ?_)
          · skip
            refine lv_iconst (v := 1) hx hb dL_law_613 (by decide) ?_
            refine va_forget (fun q hq => by have hz := hS.2.2 q hq; rw [eA] at hz; exact hz) ?_
            refine W.widen (k := 600002) (n := 7302232) (by omega) (by omega) ?_
            exact lw_ret hx hb hr hlocks dL_law_614
          · skip
            exact absurd (by rw [ex99]; decide) c_29
        · skip
          exact absurd (by rw [er89, er97]) c_221
      · skip
        refine lv_tableIn (tgt := 226) hx hb dL_law_39 hlo hhi (off := 187) (by rw [sw_39]; rfl) (by decide) ?_
        refine lv_aload_n hx hb dL_law_226 rfl (lv_at hl 3 rfl) ?_
        refine lv_aload_n hx hb dL_law_227 rfl (lv_at hl 4 rfl) ?_
        refine lv_iload hx hb dL_law_228 (lv_at hl 0 rfl) ?_
        refine lv_iconst (v := 1) hx hb dL_law_230 (by decide) ?_
        refine lv_iadd hx hb dL_law_231 ?_
        refine va_sld hx hb hX0 hbl hbA hS (i := (0 + 1)) (vp_in_lt (m := 5) (by decide) (by decide) rfl) dL_law_232 ?_
        refine lv_topi (fun x101 ex101 => ?_)
        refine lv_aload_n hx hb dL_law_233 rfl (lv_at hl 4 rfl) ?_
        refine lv_iload hx hb dL_law_234 (lv_at hl 0 rfl) ?_
        refine lv_iconst (v := 2) hx hb dL_law_236 (by decide) ?_
        refine lv_iadd hx hb dL_law_237 ?_
        refine va_sld hx hb hX0 hbl hbA hS (i := (0 + 2)) (vp_in_lt (m := 5) (by decide) (by decide) rfl) dL_law_238 ?_
        refine lv_topi (fun x103 ex103 => ?_)
        refine lv_aload_n hx hb dL_law_239 rfl (lv_at hl 4 rfl) ?_
        refine lv_iload hx hb dL_law_240 (lv_at hl 0 rfl) ?_
        refine lv_iconst (v := 3) hx hb dL_law_242 (by decide) ?_
        refine lv_iadd hx hb dL_law_243 ?_
        refine va_sld hx hb hX0 hbl hbA hS (i := (0 + 3)) (vp_in_lt (m := 5) (by decide) (by decide) rfl) dL_law_244 ?_
        refine lv_topi (fun x105 ex105 => ?_)
        refine va_calll (va_runV (As := [.int x101, .int x103, .int x105]) (rest := []) ⟨hx, hb, hml, hown, (fun _ h9 => absurd h9 List.not_mem_nil : ∀ w ∈ ([] : List Cond), w.before _ s = true)⟩ (c_X13_decode_0 l D cy A X hst hXT G38 q1 tx rd to se kp 0 0 x101 x103 x105 k39) (tb_cw (C := RX13) 3 hT tw_1108 tw_105 tw_1105 tw_1106 tw_1107 rfl rfl (by decide +kernel) ⟨Nat.le_of_ble_eq_true rfl, Nat.le_of_ble_eq_true rfl⟩) (mk_preV hst hG hK hA hX hS (ci := 14) rfl k39) rfl rfl hl.1 rfl (lv_room (Nat.le_of_ble_eq_true rfl)) dL_law_245 ⟨Nat.le_of_ble_eq_true rfl, Nat.le_of_ble_eq_true rfl⟩) hS (fun q _ h => h) (fun q h => h) (fun r106 G107 t H1 locs ht hvm hw hB hz1 hk1 hS => ?_)
        have hG : mm D vwCl A G107 H1 := by rw [← ht]; exact hB
        clear hB hz1 hk1 hvm ht
        generalize H1 = H at hG hS ⊢
        obtain ⟨er106, hw⟩ := hw
        rw [hw] at hG
        refine lv_aload_n hx hb dL_law_248 rfl (lv_at hl 2 rfl) ?_
        refine lv_aload_n hx hb dL_law_249 rfl (lv_at hl 4 rfl) ?_
        refine lv_iload hx hb dL_law_250 (lv_at hl 0 rfl) ?_
        refine lv_iconst (v := 1) hx hb dL_law_252 (by decide) ?_
        refine lv_iadd hx hb dL_law_253 ?_
        refine va_sld hx hb hX0 hbl hbA hS (i := (0 + 1)) (vp_in_lt (m := 5) (by decide) (by decide) rfl) dL_law_254 ?_
        refine lv_topi (fun x109 ex109 => ?_)
        refine lv_aload_n hx hb dL_law_255 rfl (lv_at hl 4 rfl) ?_
        refine lv_iload hx hb dL_law_256 (lv_at hl 0 rfl) ?_
        refine lv_iconst (v := 2) hx hb dL_law_258 (by decide) ?_
        refine lv_iadd hx hb dL_law_259 ?_
        refine va_sld hx hb hX0 hbl hbA hS (i := (0 + 2)) (vp_in_lt (m := 5) (by decide) (by decide) rfl) dL_law_260 ?_
        refine lv_topi (fun x111 ex111 => ?_)
        refine lv_aload_n hx hb dL_law_261 rfl (lv_at hl 4 rfl) ?_
        refine lv_iload hx hb dL_law_262 (lv_at hl 0 rfl) ?_
        refine lv_iconst (v := 3) hx hb dL_law_264 (by decide) ?_
        refine lv_iadd hx hb dL_law_265 ?_
        refine va_sld hx hb hX0 hbl hbA hS (i := (0 + 3)) (vp_in_lt (m := 5) (by decide) (by decide) rfl) dL_law_266 ?_
        refine lv_topi (fun x113 ex113 => ?_)
        refine va_calll (va_runV (As := [.int x109, .int x111, .int x113]) (rest := [.long r106]) ⟨hx, hb, hml, hown, (fun _ h9 => absurd h9 List.not_mem_nil : ∀ w ∈ ([] : List Cond), w.before _ s = true)⟩ (c_X14_decode_0 l D cy A X hst hXT G38 q6 Ar mI0 (fun _ _ => 0) (fun _ _ => 0) x109 x111 x113 hM rfl ) (tb_cw (C := RX14) 3 hT tw_1830 tw_109 tw_1827 tw_1828 tw_1829 rfl rfl (by decide +kernel) ⟨Nat.le_of_ble_eq_true rfl, Nat.le_of_ble_eq_true rfl⟩) (mk_preV hst hG hK hA hX hS (ci := 15) rfl hM.1) rfl rfl hl.1 rfl (lv_room (Nat.le_of_ble_eq_true rfl)) dL_law_267 ⟨Nat.le_of_ble_eq_true rfl, Nat.le_of_ble_eq_true rfl⟩) hS (fun q _ h => h) (fun q h => h) (fun r114 G115 t H1 locs ht hvm hw hB hz1 hk1 hS => ?_)
        have hG : mm D vwCl A G115 H1 := by rw [← ht]; exact hB
        clear hB hz1 hk1 hvm ht
        generalize H1 = H at hG hS ⊢
        obtain ⟨er114, hM2, -⟩ := hw
        refine W.lcmp hx hb dL_law_270 ?_
        refine lv_if_eq (tgt := 607) hx hb dL_law_271 (by decide) (fun c_271 => ?_) (fun c_271 => ?_)
        · skip
          obtain ⟨x117, ex117⟩ : ∃ y : Int32, y = 0 + 5 := ⟨_, rfl⟩
          refine lv_iinc (v := x117) (lv' := [(4, .int x117), (3, .ref q37), (2, .ref q6), (1, .ref q1), (0, .ref b)]) hx hb dL_law_607 hl (k := 0) rfl (by rw [ex117]; rfl) (by decide) rfl (fun ls hl => ?_)
          refine lv_goto (tgt := 23) hx hb dL_law_610 (by decide) ?_
          refine lv_iload hx hb dL_law_23 (lv_at hl 0 rfl) ?_
          refine lv_aload_n hx hb dL_law_25 rfl (lv_at hl 4 rfl) ?_
          refine va_slen hx hb hX0 hbl hbA hS dL_law_26 ?_
          refine lv_iconst (v := 5) hx hb dL_law_27 (by decide) ?_
          refine lv_isub hx hb dL_law_28 ?_
          refine lv_icmp_gt (tgt := 613) hx hb dL_law_29 (by decide) (fun c_29 => ?_) (fun c_29 => ?_)
          · skip
            refine lv_iconst (v := 1) hx hb dL_law_613 (by decide) ?_
            refine va_forget (fun q hq => by have hz := hS.2.2 q hq; rw [eA] at hz; exact hz) ?_
            refine W.widen (k := 600002) (n := 7302232) (by omega) (by omega) ?_
            exact lw_ret hx hb hr hlocks dL_law_614
          · skip
            exact absurd (by rw [ex117]; decide) c_29
        · skip
          exact absurd (by rw [er106, er114]; decide) c_271
      · skip
        refine lv_tableIn (tgt := 276) hx hb dL_law_39 hlo hhi (off := 237) (by rw [sw_39]; rfl) (by decide) ?_
        refine lv_aload_n hx hb dL_law_276 rfl (lv_at hl 3 rfl) ?_
        refine lv_aload_n hx hb dL_law_277 rfl (lv_at hl 4 rfl) ?_
        refine lv_iload hx hb dL_law_278 (lv_at hl 0 rfl) ?_
        refine lv_iconst (v := 1) hx hb dL_law_280 (by decide) ?_
        refine lv_iadd hx hb dL_law_281 ?_
        refine va_sld hx hb hX0 hbl hbA hS (i := (0 + 1)) (vp_in_lt (m := 5) (by decide) (by decide) rfl) dL_law_282 ?_
        refine lv_topi (fun x119 ex119 => ?_)
        obtain ⟨x120, ex120⟩ : ∃ y, y = (x119 : Int32).toInt8.toInt32 := ⟨_, rfl⟩
        refine lv_i2b (v := x120) hx hb dL_law_283 ex120.symm ?_
        refine va_callv (va_runV (As := [.int x120]) (rest := []) ⟨hx, hb, hml, hown, (fun _ h9 => absurd h9 List.not_mem_nil : ∀ w ∈ ([] : List Cond), w.before _ s = true)⟩ (c_X13_octet l D cy A X hst hXT G38 q1 tx rd to se kp none none 0 0 ro 0 x120 (fun _ => 0) k39 k42 k50 (by decide) (by decide)) (tb_cw (C := RX13) 1 hT tw_1178 tw_105 tw_1175 tw_1176 tw_1177 rfl rfl (by decide +kernel) ⟨Nat.le_of_ble_eq_true rfl, Nat.le_of_ble_eq_true rfl⟩) (mk_preV hst hG hK hA hX hS (ci := 14) rfl k39) rfl rfl hl.1 rfl (lv_room (Nat.le_of_ble_eq_true rfl)) dL_law_284 ⟨Nat.le_of_ble_eq_true rfl, Nat.le_of_ble_eq_true rfl⟩) hS (fun q _ h => h) (fun q h => h) (fun  G121 t H1 locs ht hvm hw hB hz1 hk1 hS => ?_)
        have hG : mm D vwCl A G121 H1 := by rw [← ht]; exact hB
        clear hB hz1 hk1 hvm ht
        generalize H1 = H at hG hS ⊢
        obtain ⟨-, -, h122_f⟩ := hw
        replace hM := MD.fr (fun x => x ≠ to ∧ x ≠ ro) hM (fun x e h0 hp => h122_f x e h0 hp.1 hp.2) ⟨Ne.symm mz_to, Ne.symm mz_ro⟩ (fun k hk => ⟨az_to k hk, az_ro k hk⟩)
        refine lv_aload_n hx hb dL_law_287 rfl (lv_at hl 2 rfl) ?_
        refine lv_aload_n hx hb dL_law_288 rfl (lv_at hl 4 rfl) ?_
        refine lv_iload hx hb dL_law_289 (lv_at hl 0 rfl) ?_
        refine lv_iconst (v := 1) hx hb dL_law_291 (by decide) ?_
        refine lv_iadd hx hb dL_law_292 ?_
        refine va_sld hx hb hX0 hbl hbA hS (i := (0 + 1)) (vp_in_lt (m := 5) (by decide) (by decide) rfl) dL_law_293 ?_
        refine lv_topi (fun x124 ex124 => ?_)
        obtain ⟨x125, ex125⟩ : ∃ y, y = (x124 : Int32).toInt8.toInt32 := ⟨_, rfl⟩
        refine lv_i2b (v := x125) hx hb dL_law_294 ex125.symm ?_
        refine va_callv (va_runV (As := [.int x125]) (rest := []) ⟨hx, hb, hml, hown, (fun _ h9 => absurd h9 List.not_mem_nil : ∀ w ∈ ([] : List Cond), w.before _ s = true)⟩ (c_X14_octet l D cy A X hst hXT G121 q6 Ar mI0 (fun _ _ => 0) (fun _ _ => 0) x125 hM (by decide) (by decide)) (tb_cw (C := RX14) 1 hT tw_1826 tw_109 tw_1823 tw_1824 tw_1825 rfl rfl (by decide +kernel) ⟨Nat.le_of_ble_eq_true rfl, Nat.le_of_ble_eq_true rfl⟩) (mk_preV hst hG hK hA hX hS (ci := 15) rfl hM.1) rfl rfl hl.1 rfl (lv_room (Nat.le_of_ble_eq_true rfl)) dL_law_295 ⟨Nat.le_of_ble_eq_true rfl, Nat.le_of_ble_eq_true rfl⟩) hS (fun q _ h => h) (fun q h => h) (fun  G126 t H1 locs ht hvm hw hB hz1 hk1 hS => ?_)
        have hG : mm D vwCl A G126 H1 := by rw [← ht]; exact hB
        clear hB hz1 hk1 hvm ht
        generalize H1 = H at hG hS ⊢
        refine lv_goto (tgt := 607) hx hb dL_law_298 (by decide) ?_
        obtain ⟨x127, ex127⟩ : ∃ y : Int32, y = 0 + 5 := ⟨_, rfl⟩
        refine lv_iinc (v := x127) (lv' := [(4, .int x127), (3, .ref q37), (2, .ref q6), (1, .ref q1), (0, .ref b)]) hx hb dL_law_607 hl (k := 0) rfl (by rw [ex127]; rfl) (by decide) rfl (fun ls hl => ?_)
        refine lv_goto (tgt := 23) hx hb dL_law_610 (by decide) ?_
        refine lv_iload hx hb dL_law_23 (lv_at hl 0 rfl) ?_
        refine lv_aload_n hx hb dL_law_25 rfl (lv_at hl 4 rfl) ?_
        refine va_slen hx hb hX0 hbl hbA hS dL_law_26 ?_
        refine lv_iconst (v := 5) hx hb dL_law_27 (by decide) ?_
        refine lv_isub hx hb dL_law_28 ?_
        refine lv_icmp_gt (tgt := 613) hx hb dL_law_29 (by decide) (fun c_29 => ?_) (fun c_29 => ?_)
        · skip
          refine lv_iconst (v := 1) hx hb dL_law_613 (by decide) ?_
          refine va_forget (fun q hq => by have hz := hS.2.2 q hq; rw [eA] at hz; exact hz) ?_
          refine W.widen (k := 600002) (n := 7302232) (by omega) (by omega) ?_
          exact lw_ret hx hb hr hlocks dL_law_614
        · skip
          exact absurd (by rw [ex127]; decide) c_29
      · skip
        refine lv_tableIn (tgt := 301) hx hb dL_law_39 hlo hhi (off := 262) (by rw [sw_39]; rfl) (by decide) ?_
        refine lv_aload_n hx hb dL_law_301 rfl (lv_at hl 3 rfl) ?_
        refine lv_aload_n hx hb dL_law_302 rfl (lv_at hl 4 rfl) ?_
        refine lv_iload hx hb dL_law_303 (lv_at hl 0 rfl) ?_
        refine lv_iconst (v := 1) hx hb dL_law_305 (by decide) ?_
        refine lv_iadd hx hb dL_law_306 ?_
        refine va_sld hx hb hX0 hbl hbA hS (i := (0 + 1)) (vp_in_lt (m := 5) (by decide) (by decide) rfl) dL_law_307 ?_
        refine lv_topi (fun x129 ex129 => ?_)
        refine lv_aload_n hx hb dL_law_308 rfl (lv_at hl 4 rfl) ?_
        refine lv_iload hx hb dL_law_309 (lv_at hl 0 rfl) ?_
        refine lv_iconst (v := 2) hx hb dL_law_311 (by decide) ?_
        refine lv_iadd hx hb dL_law_312 ?_
        refine va_sld hx hb hX0 hbl hbA hS (i := (0 + 2)) (vp_in_lt (m := 5) (by decide) (by decide) rfl) dL_law_313 ?_
        refine lv_topi (fun x131 ex131 => ?_)
        refine lv_aload_n hx hb dL_law_314 rfl (lv_at hl 4 rfl) ?_
        refine lv_iload hx hb dL_law_315 (lv_at hl 0 rfl) ?_
        refine lv_iconst (v := 3) hx hb dL_law_317 (by decide) ?_
        refine lv_iadd hx hb dL_law_318 ?_
        refine va_sld hx hb hX0 hbl hbA hS (i := (0 + 3)) (vp_in_lt (m := 5) (by decide) (by decide) rfl) dL_law_319 ?_
        refine lv_topi (fun x133 ex133 => ?_)
        obtain ⟨x134, ex134⟩ : ∃ y, y = (x133 : Int32).toInt64 := ⟨_, rfl⟩
        refine lv_i2l (v := x134) hx hb dL_law_320 ex134.symm ?_
        refine lv_bipush (v := 32) hx hb dL_law_321 (by decide) ?_
        obtain ⟨x135, ex135⟩ : ∃ y, y = (x134 : Int64) <<< ((32 : Int32).toInt64 &&& 63) := ⟨_, rfl⟩
        refine lv_lshl (v := x135) hx hb dL_law_323 ex135.symm ?_
        refine lv_aload_n hx hb dL_law_324 rfl (lv_at hl 4 rfl) ?_
        refine lv_iload hx hb dL_law_325 (lv_at hl 0 rfl) ?_
        refine lv_iconst (v := 4) hx hb dL_law_327 (by decide) ?_
        refine lv_iadd hx hb dL_law_328 ?_
        refine va_sld hx hb hX0 hbl hbA hS (i := (0 + 4)) (vp_in_lt (m := 5) (by decide) (by decide) rfl) dL_law_329 ?_
        refine lv_topi (fun x137 ex137 => ?_)
        obtain ⟨x138, ex138⟩ : ∃ y, y = (x137 : Int32).toInt64 := ⟨_, rfl⟩
        refine lv_i2l (v := x138) hx hb dL_law_330 ex138.symm ?_
        refine lv_ldc2 hx hb hown (tb_use hT tw_1899) dL_law_331 ?_
        refine lv_land hx hb dL_law_334 ?_
        refine lv_lor hx hb dL_law_335 ?_
        refine va_calli (va_runV (As := [.int x129, .int x131, .long (x135 ||| (x138 &&& 4294967295))]) (rest := []) ⟨hx, hb, hml, hown, (fun _ h9 => absurd h9 List.not_mem_nil : ∀ w ∈ ([] : List Cond), w.before _ s = true)⟩ (c_X13_encode_0 l D cy A X hst hXT G38 q1 tx rd to se kp 0 0 x129 x131 (x135 ||| (x138 &&& 4294967295)) k39) (tb_cw (C := RX13) 3 hT tw_1186 tw_105 tw_1183 tw_1184 tw_1185 rfl rfl (by decide +kernel) ⟨Nat.le_of_ble_eq_true rfl, Nat.le_of_ble_eq_true rfl⟩) (mk_preV hst hG hK hA hX hS (ci := 14) rfl k39) rfl rfl hl.1 rfl (lv_room (Nat.le_of_ble_eq_true rfl)) dL_law_336 ⟨Nat.le_of_ble_eq_true rfl, Nat.le_of_ble_eq_true rfl⟩) hS (fun q _ h => h) (fun q h => h) (fun r139 G140 t H1 locs ht hvm hw hB hz1 hk1 hS => ?_)
        have hG : mm D vwCl A G140 H1 := by rw [← ht]; exact hB
        clear hB hz1 hk1 hvm ht
        generalize H1 = H at hG hS ⊢
        obtain ⟨er139, hw⟩ := hw
        rw [hw] at hG
        refine lv_aload_n hx hb dL_law_339 rfl (lv_at hl 2 rfl) ?_
        refine lv_aload_n hx hb dL_law_340 rfl (lv_at hl 4 rfl) ?_
        refine lv_iload hx hb dL_law_341 (lv_at hl 0 rfl) ?_
        refine lv_iconst (v := 1) hx hb dL_law_343 (by decide) ?_
        refine lv_iadd hx hb dL_law_344 ?_
        refine va_sld hx hb hX0 hbl hbA hS (i := (0 + 1)) (vp_in_lt (m := 5) (by decide) (by decide) rfl) dL_law_345 ?_
        refine lv_topi (fun x142 ex142 => ?_)
        refine lv_aload_n hx hb dL_law_346 rfl (lv_at hl 4 rfl) ?_
        refine lv_iload hx hb dL_law_347 (lv_at hl 0 rfl) ?_
        refine lv_iconst (v := 2) hx hb dL_law_349 (by decide) ?_
        refine lv_iadd hx hb dL_law_350 ?_
        refine va_sld hx hb hX0 hbl hbA hS (i := (0 + 2)) (vp_in_lt (m := 5) (by decide) (by decide) rfl) dL_law_351 ?_
        refine lv_topi (fun x144 ex144 => ?_)
        refine lv_aload_n hx hb dL_law_352 rfl (lv_at hl 4 rfl) ?_
        refine lv_iload hx hb dL_law_353 (lv_at hl 0 rfl) ?_
        refine lv_iconst (v := 3) hx hb dL_law_355 (by decide) ?_
        refine lv_iadd hx hb dL_law_356 ?_
        refine va_sld hx hb hX0 hbl hbA hS (i := (0 + 3)) (vp_in_lt (m := 5) (by decide) (by decide) rfl) dL_law_357 ?_
        refine lv_topi (fun x146 ex146 => ?_)
        obtain ⟨x147, ex147⟩ : ∃ y, y = (x146 : Int32).toInt64 := ⟨_, rfl⟩
        refine lv_i2l (v := x147) hx hb dL_law_358 ex147.symm ?_
        refine lv_bipush (v := 32) hx hb dL_law_359 (by decide) ?_
        obtain ⟨x148, ex148⟩ : ∃ y, y = (x147 : Int64) <<< ((32 : Int32).toInt64 &&& 63) := ⟨_, rfl⟩
        refine lv_lshl (v := x148) hx hb dL_law_361 ex148.symm ?_
        refine lv_aload_n hx hb dL_law_362 rfl (lv_at hl 4 rfl) ?_
        refine lv_iload hx hb dL_law_363 (lv_at hl 0 rfl) ?_
        refine lv_iconst (v := 4) hx hb dL_law_365 (by decide) ?_
        refine lv_iadd hx hb dL_law_366 ?_
        refine va_sld hx hb hX0 hbl hbA hS (i := (0 + 4)) (vp_in_lt (m := 5) (by decide) (by decide) rfl) dL_law_367 ?_
        refine lv_topi (fun x150 ex150 => ?_)
        obtain ⟨x151, ex151⟩ : ∃ y, y = (x150 : Int32).toInt64 := ⟨_, rfl⟩
        refine lv_i2l (v := x151) hx hb dL_law_368 ex151.symm ?_
        refine lv_ldc2 hx hb hown (tb_use hT tw_1899) dL_law_369 ?_
        refine lv_land hx hb dL_law_372 ?_
        refine lv_lor hx hb dL_law_373 ?_
        refine va_calli (va_runV (As := [.int x142, .int x144, .long (x148 ||| (x151 &&& 4294967295))]) (rest := [.int r139]) ⟨hx, hb, hml, hown, (fun _ h9 => absurd h9 List.not_mem_nil : ∀ w ∈ ([] : List Cond), w.before _ s = true)⟩ (c_X14_encode_0 l D cy A X hst hXT G38 q6 Ar mI0 (fun _ _ => 0) (fun _ _ => 0) x142 x144 (x148 ||| (x151 &&& 4294967295)) hM rfl ) (tb_cw (C := RX14) 3 hT tw_1857 tw_109 tw_1854 tw_1855 tw_1856 rfl rfl (by decide +kernel) ⟨Nat.le_of_ble_eq_true rfl, Nat.le_of_ble_eq_true rfl⟩) (mk_preV hst hG hK hA hX hS (ci := 15) rfl hM.1) rfl rfl hl.1 rfl (lv_room (Nat.le_of_ble_eq_true rfl)) dL_law_374 ⟨Nat.le_of_ble_eq_true rfl, Nat.le_of_ble_eq_true rfl⟩) hS (fun q _ h => h) (fun q h => h) (fun r152 G153 t H1 locs ht hvm hw hB hz1 hk1 hS => ?_)
        have hG : mm D vwCl A G153 H1 := by rw [← ht]; exact hB
        clear hB hz1 hk1 hvm ht
        generalize H1 = H at hG hS ⊢
        obtain ⟨er152, hM2, -⟩ := hw
        refine lv_icmp_eq (tgt := 607) hx hb dL_law_377 (by decide) (fun c_377 => ?_) (fun c_377 => ?_)
        · skip
          obtain ⟨x154, ex154⟩ : ∃ y : Int32, y = 0 + 5 := ⟨_, rfl⟩
          refine lv_iinc (v := x154) (lv' := [(4, .int x154), (3, .ref q37), (2, .ref q6), (1, .ref q1), (0, .ref b)]) hx hb dL_law_607 hl (k := 0) rfl (by rw [ex154]; rfl) (by decide) rfl (fun ls hl => ?_)
          refine lv_goto (tgt := 23) hx hb dL_law_610 (by decide) ?_
          refine lv_iload hx hb dL_law_23 (lv_at hl 0 rfl) ?_
          refine lv_aload_n hx hb dL_law_25 rfl (lv_at hl 4 rfl) ?_
          refine va_slen hx hb hX0 hbl hbA hS dL_law_26 ?_
          refine lv_iconst (v := 5) hx hb dL_law_27 (by decide) ?_
          refine lv_isub hx hb dL_law_28 ?_
          refine lv_icmp_gt (tgt := 613) hx hb dL_law_29 (by decide) (fun c_29 => ?_) (fun c_29 => ?_)
          · skip
            refine lv_iconst (v := 1) hx hb dL_law_613 (by decide) ?_
            refine va_forget (fun q hq => by have hz := hS.2.2 q hq; rw [eA] at hz; exact hz) ?_
            refine W.widen (k := 600002) (n := 7302232) (by omega) (by omega) ?_
            exact lw_ret hx hb hr hlocks dL_law_614
          · skip
            exact absurd (by rw [ex154]; decide) c_29
        · skip
          exact absurd (by rw [er139, er152]) c_377
      · skip
        refine lv_tableIn (tgt := 382) hx hb dL_law_39 hlo hhi (off := 343) (by rw [sw_39]; rfl) (by decide) ?_
        refine lv_aload_n hx hb dL_law_382 rfl (lv_at hl 3 rfl) ?_
        refine lv_aload_n hx hb dL_law_383 rfl (lv_at hl 4 rfl) ?_
        refine lv_iload hx hb dL_law_384 (lv_at hl 0 rfl) ?_
        refine lv_iconst (v := 1) hx hb dL_law_386 (by decide) ?_
        refine lv_iadd hx hb dL_law_387 ?_
        refine va_sld hx hb hX0 hbl hbA hS (i := (0 + 1)) (vp_in_lt (m := 5) (by decide) (by decide) rfl) dL_law_388 ?_
        refine lv_topi (fun x156 ex156 => ?_)
        refine lv_aload_n hx hb dL_law_389 rfl (lv_at hl 1 rfl) ?_
        refine va_calli (tr_runSW (hh := [(0, 9, 12, 13)]) (bytes := cL_out) (maxL := 4) (ret := some .int) (n := 3) (As := [.ref q1, .int x156, .ref q37]) (rest := []) ⟨hx, hb, hml, hown, (fun _ h9 => absurd h9 List.not_mem_nil : ∀ w ∈ ([] : List Cond), w.before _ s = true)⟩ (c_L_out_t l hpl D cy A X hst hXT hXH G38 q1 tx rd to se kp none none 0 0 rs 0 x156 q37 k39 k43 (Decidable.em _)) rfl rfl (Nat.le_of_ble_eq_true rfl) (Nat.le_of_ble_eq_true rfl) (tb_one hT tw_1312) (List.mem_singleton.mpr rfl) (tb_use hT tw_1312) (tb_use hT tw_104) (tb_use hT tw_1311) (by decide +kernel) (by decide +kernel) (tb_use hT tw_1310) (mk_preS hst hG hK hA hX hS) rfl rfl hl.1 rfl (lv_room (Nat.le_of_ble_eq_true rfl)) dL_law_390 ⟨(Nat.le_of_ble_eq_true rfl), (Nat.le_of_ble_eq_true rfl)⟩) hS (fun q _ h => h) (fun q h => h) (fun r157 G158 t H1 locs ht hvm hw hB hz1 hk1 hS => ?_)
        have hG : mm D vwCl A G158 H1 := by rw [← ht]; exact hB
        clear hB hz1 hk1 hvm ht
        generalize H1 = H at hG hS ⊢
        obtain ⟨er157, hw⟩ := hw
        rw [hw] at hG
        refine lv_istore (lv' := [(5, .int r157), (4, .int 0), (3, .ref q37), (2, .ref q6), (1, .ref q1), (0, .ref b)]) hx hb dL_law_393 hl (by decide) rfl (fun ls hl => ?_)
        refine lv_aload_n hx hb dL_law_395 rfl (lv_at hl 3 rfl) ?_
        refine lv_aload_n hx hb dL_law_396 rfl (lv_at hl 5 rfl) ?_
        refine lv_iload hx hb dL_law_397 (lv_at hl 1 rfl) ?_
        refine lv_iconst (v := 1) hx hb dL_law_399 (by decide) ?_
        refine lv_iadd hx hb dL_law_400 ?_
        refine va_sld hx hb hX0 hbl hbA hS (i := (0 + 1)) (vp_in_lt (m := 5) (by decide) (by decide) rfl) dL_law_401 ?_
        refine lv_topi (fun x160 ex160 => ?_)
        refine va_calli (va_runV (As := [.int x160]) (rest := []) ⟨hx, hb, hml, hown, (fun _ h9 => absurd h9 List.not_mem_nil : ∀ w ∈ ([] : List Cond), w.before _ s = true)⟩ (c_X14_out_0 l D cy A X hst hXT G38 q6 Ar mI0 (fun _ _ => 0) (fun _ _ => 0) x160 hM rfl) (tb_cw (C := RX14) 1 hT tw_1865 tw_109 tw_1862 tw_1863 tw_1864 rfl rfl (by decide +kernel) ⟨Nat.le_of_ble_eq_true rfl, Nat.le_of_ble_eq_true rfl⟩) (mk_preV hst hG hK hA hX hS (ci := 15) rfl hM.1) rfl rfl hl.1 rfl (lv_room (Nat.le_of_ble_eq_true rfl)) dL_law_402 ⟨Nat.le_of_ble_eq_true rfl, Nat.le_of_ble_eq_true rfl⟩) hS (fun q _ h => h) (fun q h => h) (fun r161 G162 t H1 locs ht hvm hw hB hz1 hk1 hS => ?_)
        have hG : mm D vwCl A G162 H1 := by rw [← ht]; exact hB
        clear hB hz1 hk1 hvm ht
        generalize H1 = H at hG hS ⊢
        obtain ⟨er161, hM, -⟩ := hw
        refine lv_istore (lv' := [(6, .int r161), (5, .int r157), (4, .int 0), (3, .ref q37), (2, .ref q6), (1, .ref q1), (0, .ref b)]) hx hb dL_law_405 hl (by decide) rfl (fun ls hl => ?_)
        refine lv_aload_n hx hb dL_law_407 rfl (lv_at hl 4 rfl) ?_
        refine va_calli (va_runV (As := []) (rest := []) ⟨hx, hb, hml, hown, (fun _ h9 => absurd h9 List.not_mem_nil : ∀ w ∈ ([] : List Cond), w.before _ s = true)⟩ (c_X14_thrown l D cy A X hst hXT G162 q6 Ar (upd mI0 38 1) (fun _ _ => 0) (fun _ _ => 0) hM) (tb_cw (C := RX14) 0 hT tw_1624 tw_109 tw_1621 tw_1622 tw_1623 rfl rfl (by decide +kernel) ⟨Nat.le_of_ble_eq_true rfl, Nat.le_of_ble_eq_true rfl⟩) (mk_preV hst hG hK hA hX hS (ci := 15) rfl hM.1) rfl rfl hl.1 rfl (lv_room (Nat.le_of_ble_eq_true rfl)) dL_law_408 ⟨Nat.le_of_ble_eq_true rfl, Nat.le_of_ble_eq_true rfl⟩) hS (fun q _ h => h) (fun q h => h) (fun r163 G164 t H1 locs ht hvm hw hB hz1 hk1 hS => ?_)
        have hG : mm D vwCl A G164 H1 := by rw [← ht]; exact hB
        clear hB hz1 hk1 hvm ht
        generalize H1 = H at hG hS ⊢
        obtain ⟨er163, -⟩ := hw
        refine lv_iload hx hb dL_law_411 (lv_at hl 1 rfl) ?_
        refine lv_icmp_eq (tgt := 418) hx hb dL_law_413 (by decide) (fun c_413 => ?_) (fun c_413 => ?_)
        · skip
          refine lv_iload hx hb dL_law_418 (lv_at hl 1 rfl) ?_
          refine lv_if_ne (tgt := 435) hx hb dL_law_420 (by decide) (fun c_420 => ?_) (fun c_420 => ?_)
          · skip
            refine lv_goto (tgt := 607) hx hb dL_law_435 (by decide) ?_
            obtain ⟨x165, ex165⟩ : ∃ y : Int32, y = 0 + 5 := ⟨_, rfl⟩
            refine lv_iinc (v := x165) (lv' := [(4, .int x165), (6, .int r161), (5, .int r157), (3, .ref q37), (2, .ref q6), (1, .ref q1), (0, .ref b)]) hx hb dL_law_607 hl (k := 2) rfl (by rw [ex165]; rfl) (by decide) rfl (fun ls hl => ?_)
            refine lv_goto (tgt := 23) hx hb dL_law_610 (by decide) ?_
            refine lv_iload hx hb dL_law_23 (lv_at hl 0 rfl) ?_
            refine lv_aload_n hx hb dL_law_25 rfl (lv_at hl 6 rfl) ?_
            refine va_slen hx hb hX0 hbl hbA hS dL_law_26 ?_
            refine lv_iconst (v := 5) hx hb dL_law_27 (by decide) ?_
            refine lv_isub hx hb dL_law_28 ?_
            refine lv_icmp_gt (tgt := 613) hx hb dL_law_29 (by decide) (fun c_29 => ?_) (fun c_29 => ?_)
            · skip
              refine lv_iconst (v := 1) hx hb dL_law_613 (by decide) ?_
              refine va_forget (fun q hq => by have hz := hS.2.2 q hq; rw [eA] at hz; exact hz) ?_
              refine W.widen (k := 600002) (n := 7302232) (by omega) (by omega) ?_
              exact lw_ret hx hb hr hlocks dL_law_614
            · skip
              exact absurd (by rw [ex165]; decide) c_29
          · skip
            rw [er157] at c_420; exact absurd c_420 (by decide)
        · skip
          exact absurd (by rw [er163, er157]; rfl) c_413
      · skip
        refine lv_tableIn (tgt := 438) hx hb dL_law_39 hlo hhi (off := 399) (by rw [sw_39]; rfl) (by decide) ?_
        refine lv_aload_n hx hb dL_law_438 rfl (lv_at hl 3 rfl) ?_
        refine lv_aload_n hx hb dL_law_439 rfl (lv_at hl 4 rfl) ?_
        refine lv_iload hx hb dL_law_440 (lv_at hl 0 rfl) ?_
        refine lv_iconst (v := 1) hx hb dL_law_442 (by decide) ?_
        refine lv_iadd hx hb dL_law_443 ?_
        refine va_sld hx hb hX0 hbl hbA hS (i := (0 + 1)) (vp_in_lt (m := 5) (by decide) (by decide) rfl) dL_law_444 ?_
        refine lv_topi (fun x167 ex167 => ?_)
        refine va_calli (va_runV (As := [.int x167]) (rest := []) ⟨hx, hb, hml, hown, (fun _ h9 => absurd h9 List.not_mem_nil : ∀ w ∈ ([] : List Cond), w.before _ s = true)⟩ (c_X13_variant_0 l D cy A X hst hXT G38 q1 tx rd to se kp 0 0 x167 k39) (tb_cw (C := RX13) 1 hT tw_1213 tw_105 tw_1210 tw_1211 tw_1212 rfl rfl (by decide +kernel) ⟨Nat.le_of_ble_eq_true rfl, Nat.le_of_ble_eq_true rfl⟩) (mk_preV hst hG hK hA hX hS (ci := 14) rfl k39) rfl rfl hl.1 rfl (lv_room (Nat.le_of_ble_eq_true rfl)) dL_law_445 ⟨Nat.le_of_ble_eq_true rfl, Nat.le_of_ble_eq_true rfl⟩) hS (fun q _ h => h) (fun q h => h) (fun r168 G169 t H1 locs ht hvm hw hB hz1 hk1 hS => ?_)
        have hG : mm D vwCl A G169 H1 := by rw [← ht]; exact hB
        clear hB hz1 hk1 hvm ht
        generalize H1 = H at hG hS ⊢
        obtain ⟨er168, hw⟩ := hw
        rw [hw] at hG
        refine lv_aload_n hx hb dL_law_448 rfl (lv_at hl 2 rfl) ?_
        refine lv_aload_n hx hb dL_law_449 rfl (lv_at hl 4 rfl) ?_
        refine lv_iload hx hb dL_law_450 (lv_at hl 0 rfl) ?_
        refine lv_iconst (v := 1) hx hb dL_law_452 (by decide) ?_
        refine lv_iadd hx hb dL_law_453 ?_
        refine va_sld hx hb hX0 hbl hbA hS (i := (0 + 1)) (vp_in_lt (m := 5) (by decide) (by decide) rfl) dL_law_454 ?_
        refine lv_topi (fun x171 ex171 => ?_)
        refine va_calli (va_runV (As := [.int x171]) (rest := [.int r168]) ⟨hx, hb, hml, hown, (fun _ h9 => absurd h9 List.not_mem_nil : ∀ w ∈ ([] : List Cond), w.before _ s = true)⟩ (c_X14_variant_0 l D cy A X hst hXT G38 q6 Ar mI0 (fun _ _ => 0) (fun _ _ => 0) x171 hM rfl ) (tb_cw (C := RX14) 1 hT tw_1869 tw_109 tw_1866 tw_1867 tw_1868 rfl rfl (by decide +kernel) ⟨Nat.le_of_ble_eq_true rfl, Nat.le_of_ble_eq_true rfl⟩) (mk_preV hst hG hK hA hX hS (ci := 15) rfl hM.1) rfl rfl hl.1 rfl (lv_room (Nat.le_of_ble_eq_true rfl)) dL_law_455 ⟨Nat.le_of_ble_eq_true rfl, Nat.le_of_ble_eq_true rfl⟩) hS (fun q _ h => h) (fun q h => h) (fun r172 G173 t H1 locs ht hvm hw hB hz1 hk1 hS => ?_)
        have hG : mm D vwCl A G173 H1 := by rw [← ht]; exact hB
        clear hB hz1 hk1 hvm ht
        generalize H1 = H at hG hS ⊢
        obtain ⟨er172, hM2, -⟩ := hw
        refine lv_icmp_eq (tgt := 607) hx hb dL_law_458 (by decide) (fun c_458 => ?_) (fun c_458 => ?_)
        · skip
          obtain ⟨x174, ex174⟩ : ∃ y : Int32, y = 0 + 5 := ⟨_, rfl⟩
          refine lv_iinc (v := x174) (lv' := [(4, .int x174), (3, .ref q37), (2, .ref q6), (1, .ref q1), (0, .ref b)]) hx hb dL_law_607 hl (k := 0) rfl (by rw [ex174]; rfl) (by decide) rfl (fun ls hl => ?_)
          refine lv_goto (tgt := 23) hx hb dL_law_610 (by decide) ?_
          refine lv_iload hx hb dL_law_23 (lv_at hl 0 rfl) ?_
          refine lv_aload_n hx hb dL_law_25 rfl (lv_at hl 4 rfl) ?_
          refine va_slen hx hb hX0 hbl hbA hS dL_law_26 ?_
          refine lv_iconst (v := 5) hx hb dL_law_27 (by decide) ?_
          refine lv_isub hx hb dL_law_28 ?_
          refine lv_icmp_gt (tgt := 613) hx hb dL_law_29 (by decide) (fun c_29 => ?_) (fun c_29 => ?_)
          · skip
            refine lv_iconst (v := 1) hx hb dL_law_613 (by decide) ?_
            refine va_forget (fun q hq => by have hz := hS.2.2 q hq; rw [eA] at hz; exact hz) ?_
            refine W.widen (k := 600002) (n := 7302232) (by omega) (by omega) ?_
            exact lw_ret hx hb hr hlocks dL_law_614
          · skip
            exact absurd (by rw [ex174]; decide) c_29
        · skip
          exact absurd (by rw [er168, er172]) c_458
      · skip
        refine lv_tableIn (tgt := 463) hx hb dL_law_39 hlo hhi (off := 424) (by rw [sw_39]; rfl) (by decide) ?_
        refine lv_aload_n hx hb dL_law_463 rfl (lv_at hl 3 rfl) ?_
        refine lv_aload_n hx hb dL_law_464 rfl (lv_at hl 4 rfl) ?_
        refine lv_iload hx hb dL_law_465 (lv_at hl 0 rfl) ?_
        refine lv_iconst (v := 1) hx hb dL_law_467 (by decide) ?_
        refine lv_iadd hx hb dL_law_468 ?_
        refine va_sld hx hb hX0 hbl hbA hS (i := (0 + 1)) (vp_in_lt (m := 5) (by decide) (by decide) rfl) dL_law_469 ?_
        refine lv_topi (fun x176 ex176 => ?_)
        refine lv_aload_n hx hb dL_law_470 rfl (lv_at hl 4 rfl) ?_
        refine lv_iload hx hb dL_law_471 (lv_at hl 0 rfl) ?_
        refine lv_iconst (v := 2) hx hb dL_law_473 (by decide) ?_
        refine lv_iadd hx hb dL_law_474 ?_
        refine va_sld hx hb hX0 hbl hbA hS (i := (0 + 2)) (vp_in_lt (m := 5) (by decide) (by decide) rfl) dL_law_475 ?_
        refine lv_topi (fun x178 ex178 => ?_)
        obtain ⟨x179, ex179⟩ : ∃ y, y = (x178 : Int32).toInt64 := ⟨_, rfl⟩
        refine lv_i2l (v := x179) hx hb dL_law_476 ex179.symm ?_
        refine lv_bipush (v := 32) hx hb dL_law_477 (by decide) ?_
        obtain ⟨x180, ex180⟩ : ∃ y, y = (x179 : Int64) <<< ((32 : Int32).toInt64 &&& 63) := ⟨_, rfl⟩
        refine lv_lshl (v := x180) hx hb dL_law_479 ex180.symm ?_
        refine lv_aload_n hx hb dL_law_480 rfl (lv_at hl 4 rfl) ?_
        refine lv_iload hx hb dL_law_481 (lv_at hl 0 rfl) ?_
        refine lv_iconst (v := 3) hx hb dL_law_483 (by decide) ?_
        refine lv_iadd hx hb dL_law_484 ?_
        refine va_sld hx hb hX0 hbl hbA hS (i := (0 + 3)) (vp_in_lt (m := 5) (by decide) (by decide) rfl) dL_law_485 ?_
        refine lv_topi (fun x182 ex182 => ?_)
        obtain ⟨x183, ex183⟩ : ∃ y, y = (x182 : Int32).toInt64 := ⟨_, rfl⟩
        refine lv_i2l (v := x183) hx hb dL_law_486 ex183.symm ?_
        refine lv_ldc2 hx hb hown (tb_use hT tw_1899) dL_law_487 ?_
        refine lv_land hx hb dL_law_490 ?_
        refine lv_lor hx hb dL_law_491 ?_
        refine va_calli (va_runV (As := [.int x176, .long (x180 ||| (x183 &&& 4294967295))]) (rest := []) ⟨hx, hb, hml, hown, (fun _ h9 => absurd h9 List.not_mem_nil : ∀ w ∈ ([] : List Cond), w.before _ s = true)⟩ (c_X13_job_0 l D cy A X hst hXT G38 q1 tx rd to se kp 0 0 x176 (x180 ||| (x183 &&& 4294967295)) k39) (tb_cw (C := RX13) 2 hT tw_1225 tw_105 tw_1222 tw_1223 tw_1224 rfl rfl (by decide +kernel) ⟨Nat.le_of_ble_eq_true rfl, Nat.le_of_ble_eq_true rfl⟩) (mk_preV hst hG hK hA hX hS (ci := 14) rfl k39) rfl rfl hl.1 rfl (lv_room (Nat.le_of_ble_eq_true rfl)) dL_law_492 ⟨Nat.le_of_ble_eq_true rfl, Nat.le_of_ble_eq_true rfl⟩) hS (fun q _ h => h) (fun q h => h) (fun r184 G185 t H1 locs ht hvm hw hB hz1 hk1 hS => ?_)
        have hG : mm D vwCl A G185 H1 := by rw [← ht]; exact hB
        clear hB hz1 hk1 hvm ht
        generalize H1 = H at hG hS ⊢
        obtain ⟨er184, hw⟩ := hw
        rw [hw] at hG
        refine lv_aload_n hx hb dL_law_495 rfl (lv_at hl 2 rfl) ?_
        refine lv_aload_n hx hb dL_law_496 rfl (lv_at hl 4 rfl) ?_
        refine lv_iload hx hb dL_law_497 (lv_at hl 0 rfl) ?_
        refine lv_iconst (v := 1) hx hb dL_law_499 (by decide) ?_
        refine lv_iadd hx hb dL_law_500 ?_
        refine va_sld hx hb hX0 hbl hbA hS (i := (0 + 1)) (vp_in_lt (m := 5) (by decide) (by decide) rfl) dL_law_501 ?_
        refine lv_topi (fun x187 ex187 => ?_)
        refine lv_aload_n hx hb dL_law_502 rfl (lv_at hl 4 rfl) ?_
        refine lv_iload hx hb dL_law_503 (lv_at hl 0 rfl) ?_
        refine lv_iconst (v := 2) hx hb dL_law_505 (by decide) ?_
        refine lv_iadd hx hb dL_law_506 ?_
        refine va_sld hx hb hX0 hbl hbA hS (i := (0 + 2)) (vp_in_lt (m := 5) (by decide) (by decide) rfl) dL_law_507 ?_
        refine lv_topi (fun x189 ex189 => ?_)
        obtain ⟨x190, ex190⟩ : ∃ y, y = (x189 : Int32).toInt64 := ⟨_, rfl⟩
        refine lv_i2l (v := x190) hx hb dL_law_508 ex190.symm ?_
        refine lv_bipush (v := 32) hx hb dL_law_509 (by decide) ?_
        obtain ⟨x191, ex191⟩ : ∃ y, y = (x190 : Int64) <<< ((32 : Int32).toInt64 &&& 63) := ⟨_, rfl⟩
        refine lv_lshl (v := x191) hx hb dL_law_511 ex191.symm ?_
        refine lv_aload_n hx hb dL_law_512 rfl (lv_at hl 4 rfl) ?_
        refine lv_iload hx hb dL_law_513 (lv_at hl 0 rfl) ?_
        refine lv_iconst (v := 3) hx hb dL_law_515 (by decide) ?_
        refine lv_iadd hx hb dL_law_516 ?_
        refine va_sld hx hb hX0 hbl hbA hS (i := (0 + 3)) (vp_in_lt (m := 5) (by decide) (by decide) rfl) dL_law_517 ?_
        refine lv_topi (fun x193 ex193 => ?_)
        obtain ⟨x194, ex194⟩ : ∃ y, y = (x193 : Int32).toInt64 := ⟨_, rfl⟩
        refine lv_i2l (v := x194) hx hb dL_law_518 ex194.symm ?_
        refine lv_ldc2 hx hb hown (tb_use hT tw_1899) dL_law_519 ?_
        refine lv_land hx hb dL_law_522 ?_
        refine lv_lor hx hb dL_law_523 ?_
        refine va_calli (va_runV (As := [.int x187, .long (x191 ||| (x194 &&& 4294967295))]) (rest := [.int r184]) ⟨hx, hb, hml, hown, (fun _ h9 => absurd h9 List.not_mem_nil : ∀ w ∈ ([] : List Cond), w.before _ s = true)⟩ (c_X14_job_0 l D cy A X hst hXT G38 q6 Ar mI0 (fun _ _ => 0) (fun _ _ => 0) x187 (x191 ||| (x194 &&& 4294967295)) hM rfl ) (tb_cw (C := RX14) 2 hT tw_1873 tw_109 tw_1870 tw_1871 tw_1872 rfl rfl (by decide +kernel) ⟨Nat.le_of_ble_eq_true rfl, Nat.le_of_ble_eq_true rfl⟩) (mk_preV hst hG hK hA hX hS (ci := 15) rfl hM.1) rfl rfl hl.1 rfl (lv_room (Nat.le_of_ble_eq_true rfl)) dL_law_524 ⟨Nat.le_of_ble_eq_true rfl, Nat.le_of_ble_eq_true rfl⟩) hS (fun q _ h => h) (fun q h => h) (fun r195 G196 t H1 locs ht hvm hw hB hz1 hk1 hS => ?_)
        have hG : mm D vwCl A G196 H1 := by rw [← ht]; exact hB
        clear hB hz1 hk1 hvm ht
        generalize H1 = H at hG hS ⊢
        obtain ⟨er195, hM2, -⟩ := hw
        refine lv_icmp_eq (tgt := 607) hx hb dL_law_527 (by decide) (fun c_527 => ?_) (fun c_527 => ?_)
        · skip
          obtain ⟨x197, ex197⟩ : ∃ y : Int32, y = 0 + 5 := ⟨_, rfl⟩
          refine lv_iinc (v := x197) (lv' := [(4, .int x197), (3, .ref q37), (2, .ref q6), (1, .ref q1), (0, .ref b)]) hx hb dL_law_607 hl (k := 0) rfl (by rw [ex197]; rfl) (by decide) rfl (fun ls hl => ?_)
          refine lv_goto (tgt := 23) hx hb dL_law_610 (by decide) ?_
          refine lv_iload hx hb dL_law_23 (lv_at hl 0 rfl) ?_
          refine lv_aload_n hx hb dL_law_25 rfl (lv_at hl 4 rfl) ?_
          refine va_slen hx hb hX0 hbl hbA hS dL_law_26 ?_
          refine lv_iconst (v := 5) hx hb dL_law_27 (by decide) ?_
          refine lv_isub hx hb dL_law_28 ?_
          refine lv_icmp_gt (tgt := 613) hx hb dL_law_29 (by decide) (fun c_29 => ?_) (fun c_29 => ?_)
          · skip
            refine lv_iconst (v := 1) hx hb dL_law_613 (by decide) ?_
            refine va_forget (fun q hq => by have hz := hS.2.2 q hq; rw [eA] at hz; exact hz) ?_
            refine W.widen (k := 600002) (n := 7302232) (by omega) (by omega) ?_
            exact lw_ret hx hb hr hlocks dL_law_614
          · skip
            exact absurd (by rw [ex197]; decide) c_29
        · skip
          exact absurd (by rw [er184, er195]) c_527
      · skip
        refine lv_tableIn (tgt := 532) hx hb dL_law_39 hlo hhi (off := 493) (by rw [sw_39]; rfl) (by decide) ?_
        refine lv_aload_n hx hb dL_law_532 rfl (lv_at hl 3 rfl) ?_
        refine lv_aload_n hx hb dL_law_533 rfl (lv_at hl 4 rfl) ?_
        refine lv_iload hx hb dL_law_534 (lv_at hl 0 rfl) ?_
        refine lv_iconst (v := 1) hx hb dL_law_536 (by decide) ?_
        refine lv_iadd hx hb dL_law_537 ?_
        refine va_sld hx hb hX0 hbl hbA hS (i := (0 + 1)) (vp_in_lt (m := 5) (by decide) (by decide) rfl) dL_law_538 ?_
        refine lv_topi (fun x199 ex199 => ?_)
        refine va_calli (va_runV (As := [.int x199]) (rest := []) ⟨hx, hb, hml, hown, (fun _ h9 => absurd h9 List.not_mem_nil : ∀ w ∈ ([] : List Cond), w.before _ s = true)⟩ (c_X13_ring_0 l D cy A X hst hXT G38 q1 tx rd to se kp 0 0 x199 k39) (tb_cw (C := RX13) 1 hT tw_1277 tw_105 tw_1274 tw_1275 tw_1276 rfl rfl (by decide +kernel) ⟨Nat.le_of_ble_eq_true rfl, Nat.le_of_ble_eq_true rfl⟩) (mk_preV hst hG hK hA hX hS (ci := 14) rfl k39) rfl rfl hl.1 rfl (lv_room (Nat.le_of_ble_eq_true rfl)) dL_law_539 ⟨Nat.le_of_ble_eq_true rfl, Nat.le_of_ble_eq_true rfl⟩) hS (fun q _ h => h) (fun q h => h) (fun r200 G201 t H1 locs ht hvm hw hB hz1 hk1 hS => ?_)
        have hG : mm D vwCl A G201 H1 := by rw [← ht]; exact hB
        clear hB hz1 hk1 hvm ht
        generalize H1 = H at hG hS ⊢
        obtain ⟨er200, hw⟩ := hw
        rw [hw] at hG
        refine lv_aload_n hx hb dL_law_542 rfl (lv_at hl 2 rfl) ?_
        refine lv_aload_n hx hb dL_law_543 rfl (lv_at hl 4 rfl) ?_
        refine lv_iload hx hb dL_law_544 (lv_at hl 0 rfl) ?_
        refine lv_iconst (v := 1) hx hb dL_law_546 (by decide) ?_
        refine lv_iadd hx hb dL_law_547 ?_
        refine va_sld hx hb hX0 hbl hbA hS (i := (0 + 1)) (vp_in_lt (m := 5) (by decide) (by decide) rfl) dL_law_548 ?_
        refine lv_topi (fun x203 ex203 => ?_)
        refine va_calli (va_runV (As := [.int x203]) (rest := [.int r200]) ⟨hx, hb, hml, hown, (fun _ h9 => absurd h9 List.not_mem_nil : ∀ w ∈ ([] : List Cond), w.before _ s = true)⟩ (c_X14_ring_0 l D cy A X hst hXT G38 q6 Ar mI0 (fun _ _ => 0) (fun _ _ => 0) x203 hM rfl rfl) (tb_cw (C := RX14) 1 hT tw_1806 tw_109 tw_1803 tw_1804 tw_1805 rfl rfl (by decide +kernel) ⟨Nat.le_of_ble_eq_true rfl, Nat.le_of_ble_eq_true rfl⟩) (mk_preV hst hG hK hA hX hS (ci := 15) rfl hM.1) rfl rfl hl.1 rfl (lv_room (Nat.le_of_ble_eq_true rfl)) dL_law_549 ⟨Nat.le_of_ble_eq_true rfl, Nat.le_of_ble_eq_true rfl⟩) hS (fun q _ h => h) (fun q h => h) (fun r204 G205 t H1 locs ht hvm hw hB hz1 hk1 hS => ?_)
        have hG : mm D vwCl A G205 H1 := by rw [← ht]; exact hB
        clear hB hz1 hk1 hvm ht
        generalize H1 = H at hG hS ⊢
        obtain ⟨er204, hM2, -⟩ := hw
        refine lv_icmp_eq (tgt := 607) hx hb dL_law_552 (by decide) (fun c_552 => ?_) (fun c_552 => ?_)
        · skip
          obtain ⟨x206, ex206⟩ : ∃ y : Int32, y = 0 + 5 := ⟨_, rfl⟩
          refine lv_iinc (v := x206) (lv' := [(4, .int x206), (3, .ref q37), (2, .ref q6), (1, .ref q1), (0, .ref b)]) hx hb dL_law_607 hl (k := 0) rfl (by rw [ex206]; rfl) (by decide) rfl (fun ls hl => ?_)
          refine lv_goto (tgt := 23) hx hb dL_law_610 (by decide) ?_
          refine lv_iload hx hb dL_law_23 (lv_at hl 0 rfl) ?_
          refine lv_aload_n hx hb dL_law_25 rfl (lv_at hl 4 rfl) ?_
          refine va_slen hx hb hX0 hbl hbA hS dL_law_26 ?_
          refine lv_iconst (v := 5) hx hb dL_law_27 (by decide) ?_
          refine lv_isub hx hb dL_law_28 ?_
          refine lv_icmp_gt (tgt := 613) hx hb dL_law_29 (by decide) (fun c_29 => ?_) (fun c_29 => ?_)
          · skip
            refine lv_iconst (v := 1) hx hb dL_law_613 (by decide) ?_
            refine va_forget (fun q hq => by have hz := hS.2.2 q hq; rw [eA] at hz; exact hz) ?_
            refine W.widen (k := 600002) (n := 7302232) (by omega) (by omega) ?_
            exact lw_ret hx hb hr hlocks dL_law_614
          · skip
            exact absurd (by rw [ex206]; decide) c_29
        · skip
          exact absurd (by rw [er200, er204]) c_552
      · skip
        refine lv_tableIn (tgt := 557) hx hb dL_law_39 hlo hhi (off := 518) (by rw [sw_39]; rfl) (by decide) ?_
        refine lv_aload_n hx hb dL_law_557 rfl (lv_at hl 3 rfl) ?_
        refine lv_aload_n hx hb dL_law_558 rfl (lv_at hl 4 rfl) ?_
        refine lv_iload hx hb dL_law_559 (lv_at hl 0 rfl) ?_
        refine lv_iconst (v := 1) hx hb dL_law_561 (by decide) ?_
        refine lv_iadd hx hb dL_law_562 ?_
        refine va_sld hx hb hX0 hbl hbA hS (i := (0 + 1)) (vp_in_lt (m := 5) (by decide) (by decide) rfl) dL_law_563 ?_
        refine lv_topi (fun x208 ex208 => ?_)
        refine va_calli (va_runV (As := [.int x208]) (rest := []) ⟨hx, hb, hml, hown, (fun _ h9 => absurd h9 List.not_mem_nil : ∀ w ∈ ([] : List Cond), w.before _ s = true)⟩ (c_X13_compare_0 l D cy A X hst hXT G38 q1 tx rd to se kp 0 0 x208 k39) (tb_cw (C := RX13) 1 hT tw_1281 tw_105 tw_1278 tw_1279 tw_1280 rfl rfl (by decide +kernel) ⟨Nat.le_of_ble_eq_true rfl, Nat.le_of_ble_eq_true rfl⟩) (mk_preV hst hG hK hA hX hS (ci := 14) rfl k39) rfl rfl hl.1 rfl (lv_room (Nat.le_of_ble_eq_true rfl)) dL_law_564 ⟨Nat.le_of_ble_eq_true rfl, Nat.le_of_ble_eq_true rfl⟩) hS (fun q _ h => h) (fun q h => h) (fun r209 G210 t H1 locs ht hvm hw hB hz1 hk1 hS => ?_)
        have hG : mm D vwCl A G210 H1 := by rw [← ht]; exact hB
        clear hB hz1 hk1 hvm ht
        generalize H1 = H at hG hS ⊢
        obtain ⟨er209, hw⟩ := hw
        rw [hw] at hG
        refine lv_aload_n hx hb dL_law_567 rfl (lv_at hl 2 rfl) ?_
        refine lv_aload_n hx hb dL_law_568 rfl (lv_at hl 4 rfl) ?_
        refine lv_iload hx hb dL_law_569 (lv_at hl 0 rfl) ?_
        refine lv_iconst (v := 1) hx hb dL_law_571 (by decide) ?_
        refine lv_iadd hx hb dL_law_572 ?_
        refine va_sld hx hb hX0 hbl hbA hS (i := (0 + 1)) (vp_in_lt (m := 5) (by decide) (by decide) rfl) dL_law_573 ?_
        refine lv_topi (fun x212 ex212 => ?_)
        refine va_calli (va_runV (As := [.int x212]) (rest := [.int r209]) ⟨hx, hb, hml, hown, (fun _ h9 => absurd h9 List.not_mem_nil : ∀ w ∈ ([] : List Cond), w.before _ s = true)⟩ (c_X14_compare_0 l D cy A X hst hXT G38 q6 Ar mI0 (fun _ _ => 0) (fun _ _ => 0) x212 hM rfl rfl) (tb_cw (C := RX14) 1 hT tw_1882 tw_109 tw_1879 tw_1880 tw_1881 rfl rfl (by decide +kernel) ⟨Nat.le_of_ble_eq_true rfl, Nat.le_of_ble_eq_true rfl⟩) (mk_preV hst hG hK hA hX hS (ci := 15) rfl hM.1) rfl rfl hl.1 rfl (lv_room (Nat.le_of_ble_eq_true rfl)) dL_law_574 ⟨Nat.le_of_ble_eq_true rfl, Nat.le_of_ble_eq_true rfl⟩) hS (fun q _ h => h) (fun q h => h) (fun r213 G214 t H1 locs ht hvm hw hB hz1 hk1 hS => ?_)
        have hG : mm D vwCl A G214 H1 := by rw [← ht]; exact hB
        clear hB hz1 hk1 hvm ht
        generalize H1 = H at hG hS ⊢
        obtain ⟨er213, hM2, -⟩ := hw
        refine lv_icmp_eq (tgt := 607) hx hb dL_law_577 (by decide) (fun c_577 => ?_) (fun c_577 => ?_)
        · skip
          obtain ⟨x215, ex215⟩ : ∃ y : Int32, y = 0 + 5 := ⟨_, rfl⟩
          refine lv_iinc (v := x215) (lv' := [(4, .int x215), (3, .ref q37), (2, .ref q6), (1, .ref q1), (0, .ref b)]) hx hb dL_law_607 hl (k := 0) rfl (by rw [ex215]; rfl) (by decide) rfl (fun ls hl => ?_)
          refine lv_goto (tgt := 23) hx hb dL_law_610 (by decide) ?_
          refine lv_iload hx hb dL_law_23 (lv_at hl 0 rfl) ?_
          refine lv_aload_n hx hb dL_law_25 rfl (lv_at hl 4 rfl) ?_
          refine va_slen hx hb hX0 hbl hbA hS dL_law_26 ?_
          refine lv_iconst (v := 5) hx hb dL_law_27 (by decide) ?_
          refine lv_isub hx hb dL_law_28 ?_
          refine lv_icmp_gt (tgt := 613) hx hb dL_law_29 (by decide) (fun c_29 => ?_) (fun c_29 => ?_)
          · skip
            refine lv_iconst (v := 1) hx hb dL_law_613 (by decide) ?_
            refine va_forget (fun q hq => by have hz := hS.2.2 q hq; rw [eA] at hz; exact hz) ?_
            refine W.widen (k := 600002) (n := 7302232) (by omega) (by omega) ?_
            exact lw_ret hx hb hr hlocks dL_law_614
          · skip
            exact absurd (by rw [ex215]; decide) c_29
        · skip
          exact absurd (by rw [er209, er213]) c_577
      · skip
        refine lv_tableIn (tgt := 582) hx hb dL_law_39 hlo hhi (off := 543) (by rw [sw_39]; rfl) (by decide) ?_
        refine lv_aload_n hx hb dL_law_582 rfl (lv_at hl 3 rfl) ?_
        refine lv_aload_n hx hb dL_law_583 rfl (lv_at hl 4 rfl) ?_
        refine lv_iload hx hb dL_law_584 (lv_at hl 0 rfl) ?_
        refine lv_iconst (v := 1) hx hb dL_law_586 (by decide) ?_
        refine lv_iadd hx hb dL_law_587 ?_
        refine va_sld hx hb hX0 hbl hbA hS (i := (0 + 1)) (vp_in_lt (m := 5) (by decide) (by decide) rfl) dL_law_588 ?_
        refine lv_topi (fun x217 ex217 => ?_)
        refine va_calli (va_runV (As := [.int x217]) (rest := []) ⟨hx, hb, hml, hown, (fun _ h9 => absurd h9 List.not_mem_nil : ∀ w ∈ ([] : List Cond), w.before _ s = true)⟩ (c_X13_code_0 l D cy A X hst hXT G38 q1 tx rd to se kp 0 0 x217 k39) (tb_cw (C := RX13) 1 hT tw_1308 tw_105 tw_1305 tw_1306 tw_1307 rfl rfl (by decide +kernel) ⟨Nat.le_of_ble_eq_true rfl, Nat.le_of_ble_eq_true rfl⟩) (mk_preV hst hG hK hA hX hS (ci := 14) rfl k39) rfl rfl hl.1 rfl (lv_room (Nat.le_of_ble_eq_true rfl)) dL_law_589 ⟨Nat.le_of_ble_eq_true rfl, Nat.le_of_ble_eq_true rfl⟩) hS (fun q _ h => h) (fun q h => h) (fun r218 G219 t H1 locs ht hvm hw hB hz1 hk1 hS => ?_)
        have hG : mm D vwCl A G219 H1 := by rw [← ht]; exact hB
        clear hB hz1 hk1 hvm ht
        generalize H1 = H at hG hS ⊢
        obtain ⟨er218, hw⟩ := hw
        rw [hw] at hG
        refine lv_aload_n hx hb dL_law_592 rfl (lv_at hl 2 rfl) ?_
        refine lv_aload_n hx hb dL_law_593 rfl (lv_at hl 4 rfl) ?_
        refine lv_iload hx hb dL_law_594 (lv_at hl 0 rfl) ?_
        refine lv_iconst (v := 1) hx hb dL_law_596 (by decide) ?_
        refine lv_iadd hx hb dL_law_597 ?_
        refine va_sld hx hb hX0 hbl hbA hS (i := (0 + 1)) (vp_in_lt (m := 5) (by decide) (by decide) rfl) dL_law_598 ?_
        refine lv_topi (fun x221 ex221 => ?_)
        refine va_calli (va_runV (As := [.int x221]) (rest := [.int r218]) ⟨hx, hb, hml, hown, (fun _ h9 => absurd h9 List.not_mem_nil : ∀ w ∈ ([] : List Cond), w.before _ s = true)⟩ (c_X14_code_0 l D cy A X hst hXT G38 q6 Ar mI0 (fun _ _ => 0) (fun _ _ => 0) x221 hM rfl rfl rfl) (tb_cw (C := RX14) 1 hT tw_1898 tw_109 tw_1895 tw_1896 tw_1897 rfl rfl (by decide +kernel) ⟨Nat.le_of_ble_eq_true rfl, Nat.le_of_ble_eq_true rfl⟩) (mk_preV hst hG hK hA hX hS (ci := 15) rfl hM.1) rfl rfl hl.1 rfl (lv_room (Nat.le_of_ble_eq_true rfl)) dL_law_599 ⟨Nat.le_of_ble_eq_true rfl, Nat.le_of_ble_eq_true rfl⟩) hS (fun q _ h => h) (fun q h => h) (fun r222 G223 t H1 locs ht hvm hw hB hz1 hk1 hS => ?_)
        have hG : mm D vwCl A G223 H1 := by rw [← ht]; exact hB
        clear hB hz1 hk1 hvm ht
        generalize H1 = H at hG hS ⊢
        obtain ⟨er222, hM2, -⟩ := hw
        refine lv_icmp_eq (tgt := 607) hx hb dL_law_602 (by decide) (fun c_602 => ?_) (fun c_602 => ?_)
        · skip
          obtain ⟨x224, ex224⟩ : ∃ y : Int32, y = 0 + 5 := ⟨_, rfl⟩
          refine lv_iinc (v := x224) (lv' := [(4, .int x224), (3, .ref q37), (2, .ref q6), (1, .ref q1), (0, .ref b)]) hx hb dL_law_607 hl (k := 0) rfl (by rw [ex224]; rfl) (by decide) rfl (fun ls hl => ?_)
          refine lv_goto (tgt := 23) hx hb dL_law_610 (by decide) ?_
          refine lv_iload hx hb dL_law_23 (lv_at hl 0 rfl) ?_
          refine lv_aload_n hx hb dL_law_25 rfl (lv_at hl 4 rfl) ?_
          refine va_slen hx hb hX0 hbl hbA hS dL_law_26 ?_
          refine lv_iconst (v := 5) hx hb dL_law_27 (by decide) ?_
          refine lv_isub hx hb dL_law_28 ?_
          refine lv_icmp_gt (tgt := 613) hx hb dL_law_29 (by decide) (fun c_29 => ?_) (fun c_29 => ?_)
          · skip
            refine lv_iconst (v := 1) hx hb dL_law_613 (by decide) ?_
            refine va_forget (fun q hq => by have hz := hS.2.2 q hq; rw [eA] at hz; exact hz) ?_
            refine W.widen (k := 600002) (n := 7302232) (by omega) (by omega) ?_
            exact lw_ret hx hb hr hlocks dL_law_614
          · skip
            exact absurd (by rw [ex224]; decide) c_29
        · skip
          exact absurd (by rw [er218, er222]) c_602
set_option maxHeartbeats 40000000 in
set_option maxRecDepth 100000 in
theorem law_0 {p : Program} {e : Env} {s : State} {m : MethodId} {below : List Frame} {meth : Method} {c : Code} (l : Launch) (hpl : ∀ e : Env, l.admits e → e.platform.stackTraces = false) {b : Nat} {L : Nat} (hL5 : L < 5) {xs : Nat → Int32} (C0 : lw_At p s m meth c b L xs) : W p l e room_1 s m #[Value.ref b] below meth c s.heap [] 0 0 (lw_Z below #[Value.ref b] s) (entryFrame m ([Value.ref b] : List Value).toArray 7) := by
  have hTH := TH_of C0.2.2.2.2.2.1 C0.2.2.2.2.2.2.2.2.2
  obtain ⟨hx, hb, hr, hml, hown, hts, hX0, hbl, hlocks, hgv⟩ := C0
  have hT := TB_of hts
  obtain ⟨D, cy, hK⟩ := K_of hts
  obtain ⟨e0, tk, hE⟩ := ES_of hts hgv
  obtain ⟨A, eA⟩ : ∃ A : Nat → Prop, A = fun q : Nat => s.heap.size ≤ q := ⟨_, rfl⟩
  rw [← eA] at hE hTH
  have hA : ∀ q : Nat, s.heap.size ≤ q → A q := fun q h => by rw [eA]; exact h
  have hbA : ¬ A b := by rw [eA]; exact Nat.not_le.mpr hbl
  obtain ⟨X, eX⟩ : ∃ X : State → Prop, X = fun U => TB U ∧ ES e0 tk A U ∧ TH A U := ⟨_, rfl⟩
  have hst : mk_St A X := by rw [eX]; exact fun s U hW hk h => ⟨TB_warm hW h.1, ES_st s U hW hk h.2.1, TH_st s U hW hk h.2.2⟩
  have hXT : ∀ U : State, X U → TB U := by rw [eX]; exact fun U h => h.1
  have hXE : ∀ U : State, X U → ES e0 tk A U := by rw [eX]; exact fun U h => h.2.1
  have hXH : ∀ U : State, X U → TH A U := by rw [eX]; exact fun U h => h.2.2
  have hX : X s := by rw [eX]; exact ⟨hT, hE, hTH⟩
  have hS : va_S A s.heap s.heap [] := va_S.rf
  obtain ⟨G, eG⟩ : ∃ G : Nat → Option va_E, G = fun _ => none := ⟨_, rfl⟩
  have hG : mm D vwCl A G s.heap := by rw [eG]; exact mm.empty
  have hf_X14 : ∀ w ∈ u_ws RX14 TX14 76, w.before #[Value.ref b] s = true := tb_list hT fX14
  have hf_X13 : ∀ w ∈ u_ws RX13 TX13 9, w.before #[Value.ref b] s = true := tb_list hT fX13
  have hl := lv_entry ([.ref b]) (n := 7) (Nat.le_of_ble_eq_true rfl)
  rw [lg_entry_eq]
  generalize (lg_sl ([.ref b]) ++ List.replicate (7 - (lg_sl ([.ref b])).length) Slot.unset).toArray = ls at hl ⊢
  have hl : lv_has ls 7 [(0, .ref b)] := hl
  refine mm_new (ci := 14) (fs := [.null, .null, .null, .null, .null, .int 0, .int 0, .null, .null]) hx hb hf_X13 (fun _ h9 => h9) tyX13 tyX13_ok hown (tb_use hT tw_138) (tb_use hT tw_139) (tb_use hT tw_105) hK hG hS hA rfl (fun j hj => by rcases (show j = 0 ∨ j = 1 ∨ j = 2 ∨ j = 3 ∨ j = 4 ∨ j = 5 ∨ j = 6 ∨ j = 7 ∨ j = 8 by omega) with rfl | rfl | rfl | rfl | rfl | rfl | rfl | rfl | rfl <;> rfl) (by exact Nat.le_of_ble_eq_true rfl) (by exact Nat.le_of_ble_eq_true rfl) dL_law_0 (fun q1 H hn_q1 hG hS => ?_)
  obtain ⟨G2, eG2⟩ : ∃ g, g = mm_set G q1 (.inr (14, [.null, .null, .null, .null, .null, .int 0, .int 0, .null, .null])) := ⟨_, rfl⟩
  have hG : mm D vwCl A G2 H := by rw [eG2]; exact hG
  have k3 : G2 q1 = some (.inr (14, [.null, .null, .null, .null, .null, .int 0, .int 0, .null, .null])) := by rw [eG2]; exact mm_set_self
  refine lv_dup hx hb dL_law_3 rfl ?_
  refine va_callv (va_runI (As := []) (rest := [.ref q1]) ⟨hx, hb, hml, hown, (fun _ h9 => absurd h9 List.not_mem_nil : ∀ w ∈ ([] : List Cond), w.before _ s = true)⟩ (c_X13_init l D cy A X hst hXT G2 q1 k3) (tb_ci 0 hT tw_142 tw_105 tw_140 tw_141 rfl rfl rfl (by decide +kernel) ⟨Nat.le_of_ble_eq_true rfl, Nat.le_of_ble_eq_true rfl⟩) (mk_preS hst hG hK hA hX hS) rfl rfl hl.1 rfl (lv_room (Nat.le_of_ble_eq_true rfl)) dL_law_4 ⟨Nat.le_of_ble_eq_true rfl, Nat.le_of_ble_eq_true rfl⟩) hS (fun q _ h => h) (fun q h => h) (fun  G4 t H1 locs ht hvm hw hB hz1 hk1 hS => ?_)
  have hG : mm D vwCl A G4 H1 := by rw [← ht]; exact hB
  clear hB hz1 hk1 hvm ht
  generalize H1 = H at hG hS ⊢
  obtain ⟨tx, rd, to, se, kp, tk_, ow, ks, ss, vs, ro, rs, h5_0, h5_1, h5_2, h5_3, h5_4, h5_5, h5_6, h5_7, h5_8, h5_9, h5_10, h5_11, h5_12, hne1, hne2, h5_f⟩ := hw
  refine lv_astore_n (lv' := [(1, .ref q1), (0, .ref b)]) hx hb dL_law_7 rfl hl (by decide) rfl (fun ls hl => ?_)
  refine mm_new (ci := 15) (fs := [.null, .null, .null, .null, .null, .null, .null, .null, .null, .null, .null, .null, .null, .null, .null, .null, .null, .null, .null, .null, .null, .null, .null, .null, .null, .null, .null, .null, .null, .null, .null, .null, .null, .null, .null, .null, .null, .null, .int 0, .int 0, .null, .int 0, .int 0, .int 0, .int 0, .null, .null, .null, .int 0, .int 0, .int 0, .int 0, .int 0, .int 0, .int 0, .int 0, .int 0, .int 0, .int 0, .null, .null, .null, .null, .int 0, .null, .null, .int 0, .null, .int 0, .int 0, .null, .null, .null, .null, .null, .null]) hx hb hf_X14 (fun _ h9 => h9) tyX14 tyX14_ok hown (tb_use hT tw_1385) (tb_use hT tw_1386) (tb_use hT tw_109) hK hG hS hA rfl (fun j hj => by rcases (show j = 0 ∨ j = 1 ∨ j = 2 ∨ j = 3 ∨ j = 4 ∨ j = 5 ∨ j = 6 ∨ j = 7 ∨ j = 8 ∨ j = 9 ∨ j = 10 ∨ j = 11 ∨ j = 12 ∨ j = 13 ∨ j = 14 ∨ j = 15 ∨ j = 16 ∨ j = 17 ∨ j = 18 ∨ j = 19 ∨ j = 20 ∨ j = 21 ∨ j = 22 ∨ j = 23 ∨ j = 24 ∨ j = 25 ∨ j = 26 ∨ j = 27 ∨ j = 28 ∨ j = 29 ∨ j = 30 ∨ j = 31 ∨ j = 32 ∨ j = 33 ∨ j = 34 ∨ j = 35 ∨ j = 36 ∨ j = 37 ∨ j = 38 ∨ j = 39 ∨ j = 40 ∨ j = 41 ∨ j = 42 ∨ j = 43 ∨ j = 44 ∨ j = 45 ∨ j = 46 ∨ j = 47 ∨ j = 48 ∨ j = 49 ∨ j = 50 ∨ j = 51 ∨ j = 52 ∨ j = 53 ∨ j = 54 ∨ j = 55 ∨ j = 56 ∨ j = 57 ∨ j = 58 ∨ j = 59 ∨ j = 60 ∨ j = 61 ∨ j = 62 ∨ j = 63 ∨ j = 64 ∨ j = 65 ∨ j = 66 ∨ j = 67 ∨ j = 68 ∨ j = 69 ∨ j = 70 ∨ j = 71 ∨ j = 72 ∨ j = 73 ∨ j = 74 ∨ j = 75 by omega) with rfl | rfl | rfl | rfl | rfl | rfl | rfl | rfl | rfl | rfl | rfl | rfl | rfl | rfl | rfl | rfl | rfl | rfl | rfl | rfl | rfl | rfl | rfl | rfl | rfl | rfl | rfl | rfl | rfl | rfl | rfl | rfl | rfl | rfl | rfl | rfl | rfl | rfl | rfl | rfl | rfl | rfl | rfl | rfl | rfl | rfl | rfl | rfl | rfl | rfl | rfl | rfl | rfl | rfl | rfl | rfl | rfl | rfl | rfl | rfl | rfl | rfl | rfl | rfl | rfl | rfl | rfl | rfl | rfl | rfl | rfl | rfl | rfl | rfl | rfl | rfl <;> rfl) (by exact Nat.le_of_ble_eq_true rfl) (by exact Nat.le_of_ble_eq_true rfl) dL_law_8 (fun q6 H hn_q6 hG hS => ?_)
  obtain ⟨G7, eG7⟩ : ∃ g, g = mm_set G4 q6 (.inr (15, [.null, .null, .null, .null, .null, .null, .null, .null, .null, .null, .null, .null, .null, .null, .null, .null, .null, .null, .null, .null, .null, .null, .null, .null, .null, .null, .null, .null, .null, .null, .null, .null, .null, .null, .null, .null, .null, .null, .int 0, .int 0, .null, .int 0, .int 0, .int 0, .int 0, .null, .null, .null, .int 0, .int 0, .int 0, .int 0, .int 0, .int 0, .int 0, .int 0, .int 0, .int 0, .int 0, .null, .null, .null, .null, .int 0, .null, .null, .int 0, .null, .int 0, .int 0, .null, .null, .null, .null, .null, .null])) := ⟨_, rfl⟩
  have hG : mm D vwCl A G7 H := by rw [eG7]; exact hG
  have k8 : G7 q1 = some (.inr (14, [.ref tx, .ref rd, .ref to, .ref se, .ref kp, .int 0, .int 0, .null, .null])) := by rw [eG7]; exact mm_set_new h5_0 hn_q6
  have k9 : G7 tx = some (.inl (cy 0, 2000, .inl (fun _ => 0))) := by rw [eG7]; exact mm_set_new h5_1 hn_q6
  have k10 : G7 rd = some (.inr (10, [.ref tk_, .ref ow, .null, .int 0, .int 0])) := by rw [eG7]; exact mm_set_new h5_2 hn_q6
  have k11 : G7 to = some (.inr (7, [.ref ro, .int 0])) := by rw [eG7]; exact mm_set_new h5_3 hn_q6
  have k12 : G7 se = some (.inr (7, [.ref rs, .int 0])) := by rw [eG7]; exact mm_set_new h5_4 hn_q6
  have k13 : G7 kp = some (.inl (cy 6, 4, .inr (.inr (.inr (.inr (fun _ => none)))))) := by rw [eG7]; exact mm_set_new h5_5 hn_q6
  have k14 : G7 tk_ = some (.inr (13, [.ref ks, .ref ss, .ref vs, .int 0])) := by rw [eG7]; exact mm_set_new h5_6 hn_q6
  have k15 : G7 ow = some (.inl (cy 1, 3, .inl (fun _ => 0))) := by rw [eG7]; exact mm_set_new h5_7 hn_q6
  have k16 : G7 ks = some (.inl (cy 5, 2001, .inr (.inr (.inr (.inr (fun _ => none)))))) := by rw [eG7]; exact mm_set_new h5_8 hn_q6
  have k17 : G7 ss = some (.inl (cy 1, 2001, .inl (fun _ => 0))) := by rw [eG7]; exact mm_set_new h5_9 hn_q6
  have k18 : G7 vs = some (.inl (cy 2, 2001, .inr (.inl (fun _ => 0)))) := by rw [eG7]; exact mm_set_new h5_10 hn_q6
  have k19 : G7 ro = some (.inl (cy 0, 64, .inl (fun _ => 0))) := by rw [eG7]; exact mm_set_new h5_11 hn_q6
  have k20 : G7 rs = some (.inl (cy 0, 64, .inl (fun _ => 0))) := by rw [eG7]; exact mm_set_new h5_12 hn_q6
  have k21 : G7 q6 = some (.inr (15, [.null, .null, .null, .null, .null, .null, .null, .null, .null, .null, .null, .null, .null, .null, .null, .null, .null, .null, .null, .null, .null, .null, .null, .null, .null, .null, .null, .null, .null, .null, .null, .null, .null, .null, .null, .null, .null, .null, .int 0, .int 0, .null, .int 0, .int 0, .int 0, .int 0, .null, .null, .null, .int 0, .int 0, .int 0, .int 0, .int 0, .int 0, .int 0, .int 0, .int 0, .int 0, .int 0, .null, .null, .null, .null, .int 0, .null, .null, .int 0, .null, .int 0, .int 0, .null, .null, .null, .null, .null, .null])) := by rw [eG7]; exact mm_set_self
  refine lv_dup hx hb dL_law_11 rfl ?_
  refine va_callv (va_runI (As := []) (rest := [.ref q6]) ⟨hx, hb, hml, hown, (fun _ h9 => absurd h9 List.not_mem_nil : ∀ w ∈ ([] : List Cond), w.before _ s = true)⟩ (c_X14_init l D cy A X hst hXT G7 q6 k21) (tb_ci 0 hT tw_1389 tw_109 tw_1387 tw_1388 rfl rfl rfl (by decide +kernel) ⟨Nat.le_of_ble_eq_true rfl, Nat.le_of_ble_eq_true rfl⟩) (mk_preS hst hG hK hA hX hS) rfl rfl hl.1 rfl (lv_room (Nat.le_of_ble_eq_true rfl)) dL_law_12 ⟨Nat.le_of_ble_eq_true rfl, Nat.le_of_ble_eq_true rfl⟩) hS (fun q _ h => h) (fun q h => h) (fun  G22 t H1 locs ht hvm hw hB hz1 hk1 hS => ?_)
  have hG : mm D vwCl A G22 H1 := by rw [← ht]; exact hB
  clear hB hz1 hk1 hvm ht
  generalize H1 = H at hG hS ⊢
  obtain ⟨Ar, hM, h47, hz, h23_f⟩ := hw
  have mz_q1 : q1 ≠ q6 := (mm_ne_oo k8 k21 (by decide))
  have az_q1 : ∀ k, mdR k = true → Ar k ≠ q1 := fun k hk z => by have z1 := hz k hk; rw [z, k8] at z1; cases z1
  have k24 : G22 q1 = some (.inr (14, [.ref tx, .ref rd, .ref to, .ref se, .ref kp, .int 0, .int 0, .null, .null])) := h23_f _ _ k8 mz_q1
  have mz_tx : tx ≠ q6 := (mm_ne_ao k9 k21)
  have az_tx : ∀ k, mdR k = true → Ar k ≠ tx := fun k hk z => by have z1 := hz k hk; rw [z, k9] at z1; cases z1
  have k25 : G22 tx = some (.inl (cy 0, 2000, .inl (fun _ => 0))) := h23_f _ _ k9 mz_tx
  have mz_rd : rd ≠ q6 := (mm_ne_oo k10 k21 (by decide))
  have az_rd : ∀ k, mdR k = true → Ar k ≠ rd := fun k hk z => by have z1 := hz k hk; rw [z, k10] at z1; cases z1
  have k26 : G22 rd = some (.inr (10, [.ref tk_, .ref ow, .null, .int 0, .int 0])) := h23_f _ _ k10 mz_rd
  have mz_to : to ≠ q6 := (mm_ne_oo k11 k21 (by decide))
  have az_to : ∀ k, mdR k = true → Ar k ≠ to := fun k hk z => by have z1 := hz k hk; rw [z, k11] at z1; cases z1
  have k27 : G22 to = some (.inr (7, [.ref ro, .int 0])) := h23_f _ _ k11 mz_to
  have mz_se : se ≠ q6 := (mm_ne_oo k12 k21 (by decide))
  have az_se : ∀ k, mdR k = true → Ar k ≠ se := fun k hk z => by have z1 := hz k hk; rw [z, k12] at z1; cases z1
  have k28 : G22 se = some (.inr (7, [.ref rs, .int 0])) := h23_f _ _ k12 mz_se
  have mz_kp : kp ≠ q6 := (mm_ne_ao k13 k21)
  have az_kp : ∀ k, mdR k = true → Ar k ≠ kp := fun k hk z => by have z1 := hz k hk; rw [z, k13] at z1; cases z1
  have k29 : G22 kp = some (.inl (cy 6, 4, .inr (.inr (.inr (.inr (fun _ => none)))))) := h23_f _ _ k13 mz_kp
  have mz_tk_ : tk_ ≠ q6 := (mm_ne_oo k14 k21 (by decide))
  have az_tk_ : ∀ k, mdR k = true → Ar k ≠ tk_ := fun k hk z => by have z1 := hz k hk; rw [z, k14] at z1; cases z1
  have k30 : G22 tk_ = some (.inr (13, [.ref ks, .ref ss, .ref vs, .int 0])) := h23_f _ _ k14 mz_tk_
  have mz_ow : ow ≠ q6 := (mm_ne_ao k15 k21)
  have az_ow : ∀ k, mdR k = true → Ar k ≠ ow := fun k hk z => by have z1 := hz k hk; rw [z, k15] at z1; cases z1
  have k31 : G22 ow = some (.inl (cy 1, 3, .inl (fun _ => 0))) := h23_f _ _ k15 mz_ow
  have mz_ks : ks ≠ q6 := (mm_ne_ao k16 k21)
  have az_ks : ∀ k, mdR k = true → Ar k ≠ ks := fun k hk z => by have z1 := hz k hk; rw [z, k16] at z1; cases z1
  have k32 : G22 ks = some (.inl (cy 5, 2001, .inr (.inr (.inr (.inr (fun _ => none)))))) := h23_f _ _ k16 mz_ks
  have mz_ss : ss ≠ q6 := (mm_ne_ao k17 k21)
  have az_ss : ∀ k, mdR k = true → Ar k ≠ ss := fun k hk z => by have z1 := hz k hk; rw [z, k17] at z1; cases z1
  have k33 : G22 ss = some (.inl (cy 1, 2001, .inl (fun _ => 0))) := h23_f _ _ k17 mz_ss
  have mz_vs : vs ≠ q6 := (mm_ne_ao k18 k21)
  have az_vs : ∀ k, mdR k = true → Ar k ≠ vs := fun k hk z => by have z1 := hz k hk; rw [z, k18] at z1; cases z1
  have k34 : G22 vs = some (.inl (cy 2, 2001, .inr (.inl (fun _ => 0)))) := h23_f _ _ k18 mz_vs
  have mz_ro : ro ≠ q6 := (mm_ne_ao k19 k21)
  have az_ro : ∀ k, mdR k = true → Ar k ≠ ro := fun k hk z => by have z1 := hz k hk; rw [z, k19] at z1; cases z1
  have k35 : G22 ro = some (.inl (cy 0, 64, .inl (fun _ => 0))) := h23_f _ _ k19 mz_ro
  have mz_rs : rs ≠ q6 := (mm_ne_ao k20 k21)
  have az_rs : ∀ k, mdR k = true → Ar k ≠ rs := fun k hk z => by have z1 := hz k hk; rw [z, k20] at z1; cases z1
  have k36 : G22 rs = some (.inl (cy 0, 64, .inl (fun _ => 0))) := h23_f _ _ k20 mz_rs
  clear hz
  refine lv_astore_n (lv' := [(2, .ref q6), (1, .ref q1), (0, .ref b)]) hx hb dL_law_15 rfl hl (by decide) rfl (fun ls hl => ?_)
  refine lv_iconst (v := 1) hx hb dL_law_16 (by decide) ?_
  refine mm_newa (n := 1) (atype := .long) (ty := .long) (N' := 1) (a0 := (1, .inr (.inl (fun _ => 0)))) hx hb (tb_arr hT tw_176) rfl hK hG hS hA 2 rfl (fun cA => rfl) (by decide) (by decide) (by decide) (by exact Nat.le_of_ble_eq_true rfl) (by exact Nat.le_of_ble_eq_true rfl) dL_law_17 (fun q37 H hn_q37 hG hS => ?_)
  obtain ⟨G38, eG38⟩ : ∃ g, g = mm_set G22 q37 (.inl (cy 2, 1, .inr (.inl (fun _ => 0)))) := ⟨_, rfl⟩
  have hG : mm D vwCl A G38 H := by rw [eG38]; exact hG
  have k39 : G38 q1 = some (.inr (14, [.ref tx, .ref rd, .ref to, .ref se, .ref kp, .int 0, .int 0, .null, .null])) := by rw [eG38]; exact mm_set_new k24 hn_q37
  have k40 : G38 tx = some (.inl (cy 0, 2000, .inl (fun _ => 0))) := by rw [eG38]; exact mm_set_new k25 hn_q37
  have k41 : G38 rd = some (.inr (10, [.ref tk_, .ref ow, .null, .int 0, .int 0])) := by rw [eG38]; exact mm_set_new k26 hn_q37
  have k42 : G38 to = some (.inr (7, [.ref ro, .int 0])) := by rw [eG38]; exact mm_set_new k27 hn_q37
  have k43 : G38 se = some (.inr (7, [.ref rs, .int 0])) := by rw [eG38]; exact mm_set_new k28 hn_q37
  have k44 : G38 kp = some (.inl (cy 6, 4, .inr (.inr (.inr (.inr (fun _ => none)))))) := by rw [eG38]; exact mm_set_new k29 hn_q37
  have k45 : G38 tk_ = some (.inr (13, [.ref ks, .ref ss, .ref vs, .int 0])) := by rw [eG38]; exact mm_set_new k30 hn_q37
  have k46 : G38 ow = some (.inl (cy 1, 3, .inl (fun _ => 0))) := by rw [eG38]; exact mm_set_new k31 hn_q37
  have k47 : G38 ks = some (.inl (cy 5, 2001, .inr (.inr (.inr (.inr (fun _ => none)))))) := by rw [eG38]; exact mm_set_new k32 hn_q37
  have k48 : G38 ss = some (.inl (cy 1, 2001, .inl (fun _ => 0))) := by rw [eG38]; exact mm_set_new k33 hn_q37
  have k49 : G38 vs = some (.inl (cy 2, 2001, .inr (.inl (fun _ => 0)))) := by rw [eG38]; exact mm_set_new k34 hn_q37
  have k50 : G38 ro = some (.inl (cy 0, 64, .inl (fun _ => 0))) := by rw [eG38]; exact mm_set_new k35 hn_q37
  have k51 : G38 rs = some (.inl (cy 0, 64, .inl (fun _ => 0))) := by rw [eG38]; exact mm_set_new k36 hn_q37
  have k52 : G38 q37 = some (.inl (cy 2, 1, .inr (.inl (fun _ => 0)))) := by rw [eG38]; exact mm_set_self
  replace hM := MD.fr (G2 := G38) (fun _ => True) hM (fun x e h0 _ => by rw [eG38]; exact mm_set_new h0 hn_q37) trivial (fun _ _ => trivial)
  refine lv_astore_n (lv' := [(3, .ref q37), (2, .ref q6), (1, .ref q1), (0, .ref b)]) hx hb dL_law_19 rfl hl (by decide) rfl (fun ls hl => ?_)
  refine lv_iconst (v := 0) hx hb dL_law_20 (by decide) ?_
  refine lv_istore (lv' := [(4, .int 0), (3, .ref q37), (2, .ref q6), (1, .ref q1), (0, .ref b)]) hx hb dL_law_21 hl (by decide) rfl (fun ls hl => ?_)
  refine lv_iload hx hb dL_law_23 (lv_at hl 0 rfl) ?_
  refine lv_aload_n hx hb dL_law_25 rfl (lv_at hl 4 rfl) ?_
  refine va_slen hx hb hX0 hbl hbA hS dL_law_26 ?_
  refine lv_iconst (v := 5) hx hb dL_law_27 (by decide) ?_
  refine lv_isub hx hb dL_law_28 ?_
  refine lv_icmp_gt (tgt := 613) hx hb dL_law_29 (by decide) (fun c_29 => ?_) (fun c_29 => ?_)
  · skip
    refine lv_iconst (v := 1) hx hb dL_law_613 (by decide) ?_
    refine va_forget (fun q hq => by have hz := hS.2.2 q hq; rw [eA] at hz; exact hz) ?_
    refine W.widen (k := 600002) (n := 7302232) (by omega) (by omega) ?_
    exact lw_ret hx hb hr hlocks dL_law_614
  · skip
    exact absurd (by rcases (show L = 0 ∨ L = 1 ∨ L = 2 ∨ L = 3 ∨ L = 4 by omega) with rfl | rfl | rfl | rfl | rfl <;> decide) c_29
