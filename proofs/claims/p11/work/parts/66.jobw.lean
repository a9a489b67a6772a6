theorem g_dec {n : Nat} (h : 0 < n) : nI n + -1 = nI (n - 1) := by
  rw [← g_pred h, Int32.sub_eq_add_neg]
set_option maxHeartbeats 4000000 in
set_option maxRecDepth 100000 in
theorem c_X9_takeJob (l : Launch) (D : va_G) (cy : Nat → ClassId) (A : Nat → Prop) (X : State → Prop) (hst : mk_St A X) (hXT : ∀ U : State, X U → TB U) (e0 : Nat) (tk : Nat → Nat) (hXE : ∀ U : State, X U → ES e0 tk A U) (mi : Nat) (hXL : ∀ U : State, X U → EL e0 mi A U) (G : Nat → Option va_E) (o ow ed : Nat) (q : Nat × Int32) (k ks ss vs tn : Nat) (K : Nat → Nat) (S : Nat → Int32) (V : Nat → Int64) (f1 : Nat → Option Nat) (f2 : Nat → Int32) (f3 : Nat → Int64) (lc ly lsv lco lva ljo na : Nat) (nc wa : Int32) (iu rs : Option Nat) (wf0 : Nat → Int32) (ec nC : Nat) (fC : Nat → Nat) (h0 : G o = some (.inr (10, [.ref k, .ref ow, .ref ed, .int (nI q.1), .int q.2]))) (q1 : G k = some (.inr (13, [.ref ks, .ref ss, .ref vs, .int (nI tn)]))) (q2 : G ks = some (.inl (cy 5, 2001, .inr (.inr (.inr (.inr f1)))))) (q3 : G ss = some (.inl (cy 1, 2001, .inl f2))) (q4 : G vs = some (.inl (cy 2, 2001, .inr (.inl f3)))) (hTP : TKP tk tn K S V f1 f2 f3) (hp : q.1 < 2 ^ 25) (hed : G ed = some (.inr (3, [.ref lc, .ref ly, .ref lsv, .ref lco, .ref lva, .ref ljo, .ref na, .int nc, va_rf iu, .int wa, va_rf rs]))) (hwf : G ow = some (.inl (cy 1, 3, .inl wf0))) (hlc : LiS cy e0 G ljo ec nC fC) (hLT : LT G 5 nC fC) (hnC : nC < 100) : Met l yX9_takeJob [.code yX9_takeJob cX9_takeJob 5 none] ({ frames := 9, cells := 166, slots := (1064 + gco nC), locals := 270 }) (mk_Pre D vwCl (tyL cy) A X G [.ref o]) (va_Qv (fun (G2 : Nat → Option va_E) => ∃ (ja ol oe pi : Nat) (fO : Nat → Nat) (ec2 : Nat) (wf2 : Nat → Int32), G ja = none ∧ G ol = none ∧ G pi = none ∧ (1 ≤ (q_job K S V nC q wf0).2.2.1 → G oe = none) ∧ G2 o = some (.inr (10, [.ref k, .ref ow, .ref ed, .int (nI ((q_job K S V nC q wf0).1).1), .int (((q_job K S V nC q wf0).1).2)])) ∧ G2 ow = some (.inl (cy 1, 3, .inl wf2)) ∧ LiS cy e0 G2 ljo ec2 (nC + 1) (fup fC nC ja) ∧ ((1 ≤ nC ∧ ec2 = ec) ∨ G ec2 = none) ∧ G2 ja = some (.inr (5, [.int ((q_job K S V nC q wf0).2.1.1), .long ((q_job K S V nC q wf0).2.1.2), .ref ol, .ref pi, .int 0])) ∧ G2 pi = some (.inl (cy 2, 16, .inr (.inl (fun _ => 0)))) ∧ LiS cy e0 G2 ol oe (q_job K S V nC q wf0).2.2.1 fO ∧ OPS tk G2 (q_job K S V nC q wf0).2.2.1 fO (q_job K S V nC q wf0).2.2.2 ∧ NW G (q_job K S V nC q wf0).2.2.1 fO ∧ (1 ≤ (q_job K S V nC q wf0).2.2.1 → oe ≠ ec2) ∧ ∀ (x : Nat) (e : va_E), G x = some e → x ≠ o → x ≠ ow → x ≠ ljo → (1 ≤ nC → x ≠ ec) → G2 x = some e) (mk_B D vwCl A) A) 166 (1064 + gco nC) A := by
  refine Met.ofW (cc := cX9_takeJob) (maxL := 5) (ret := none) (by decide) rfl ?_
  intro p e s m args below meth c s₁ B hml hv
  obtain ⟨rfl, hG, hK, hA, hX⟩ := hv
  have hx := B.exec
  have hb := B.bytes
  have hr := B.returns
  have hlocks := B.notSynchronized
  have hT := hXT s hX
  have hown : s.vm.findClass RX9 = some m.cls := findClass_of_methodNamed B.named
  have hf_X9 : ∀ w ∈ u_ws RX9 TX9 5, w.before ([.ref o] : List Value).toArray s = true := tb_list hT fX9
  have hf_X2 : ∀ w ∈ u_ws RX2 TX2 11, w.before ([.ref o] : List Value).toArray s = true := tb_list hT fX2
  have hf_X4 : ∀ w ∈ u_ws RX4 TX4 5, w.before ([.ref o] : List Value).toArray s = true := tb_list hT fX4
  have hS : va_S A s.heap s.heap [] := va_S.rf
  have hE := hXE s hX
  have hl := lv_entry ([.ref o]) (n := 5) (Nat.le_of_ble_eq_true rfl)
  rw [lg_entry_eq]
  generalize (lg_sl ([.ref o]) ++ List.replicate (5 - (lg_sl ([.ref o])).length) Slot.unset).toArray = ls at hl ⊢
  have hl : lv_has ls 5 [(0, .ref o)] := hl
  have hloop : ∀ (n : Nat) (kk ta on nF : Nat) (qv qF : Nat × Int32) (ja ol oe pi : Nat) (jat : Int32) (jn : Int64) (wf : Nat → Int32) (fv : Nat → Nat) (dv dF : Nat → OpD), (n + kk = 81) → (q_ops K S V n kk ta on wf dv qv = (nF, dF, qF)) → (q_job K S V nC q wf0 = (q_take K S 5 qF, (jat, jn), (nF, dF))) → (qv.1 ≤ q.1 + 3 + 5 * kk) → (G ja = none) → (G ol = none) → (G pi = none) → (ta ≤ kk) → (on ≤ 3) → (∀ a, a < on → ∃ sx, sx < kk ∧ wf a = nI sx) → ∀ (Gv : Nat → Option va_E), (Gv o = some (.inr (10, [.ref k, .ref ow, .ref ed, .int (nI qv.1), .int qv.2]))) → (Gv k = some (.inr (13, [.ref ks, .ref ss, .ref vs, .int (nI tn)]))) → (Gv ks = some (.inl (cy 5, 2001, .inr (.inr (.inr (.inr f1)))))) → (Gv ss = some (.inl (cy 1, 2001, .inl f2))) → (Gv vs = some (.inl (cy 2, 2001, .inr (.inl f3)))) → (Gv ed = some (.inr (3, [.ref lc, .ref ly, .ref lsv, .ref lco, .ref lva, .ref ljo, .ref na, .int nc, va_rf iu, .int wa, va_rf rs]))) → (Gv ja = some (.inr (5, [.int jat, .long jn, .ref ol, .ref pi, .int 0]))) → (Gv ow = some (.inl (cy 1, 3, .inl wf))) → (Gv pi = some (.inl (cy 2, 16, .inr (.inl (fun _ => 0))))) → (LiS cy e0 Gv ol oe kk fv) → (OPS tk Gv kk fv dv) → (∀ (x : Nat) (e : va_E), G x = some e → x ≠ o → x ≠ ow → Gv x = some e) → (1 ≤ kk → G oe = none) → (NW G kk fv) → ∀ (H : Heap) (locs : List Loc), mm D vwCl A Gv H → va_S A s.heap H locs → ∀ ls : Array Slot, lv_has ls 5 [(0, .ref o), (1, .ref ja), (2, .int (nI ta)), (3, .int (nI on)), (4, .int (nI kk))] → W p l e (headSpec [.code yX9_takeJob cX9_takeJob 5 none] ({ frames := 9, cells := 166, slots := (1064 + gco nC), locals := 270 })).room s m ([.ref o] : List Value).toArray below meth c H locs (3 + 2 * kk) (24 + slj kk) (MQ below (va_Qv (fun (G2 : Nat → Option va_E) => ∃ (ja ol oe pi : Nat) (fO : Nat → Nat) (ec2 : Nat) (wf2 : Nat → Int32), G ja = none ∧ G ol = none ∧ G pi = none ∧ (1 ≤ (q_job K S V nC q wf0).2.2.1 → G oe = none) ∧ G2 o = some (.inr (10, [.ref k, .ref ow, .ref ed, .int (nI ((q_job K S V nC q wf0).1).1), .int (((q_job K S V nC q wf0).1).2)])) ∧ G2 ow = some (.inl (cy 1, 3, .inl wf2)) ∧ LiS cy e0 G2 ljo ec2 (nC + 1) (fup fC nC ja) ∧ ((1 ≤ nC ∧ ec2 = ec) ∨ G ec2 = none) ∧ G2 ja = some (.inr (5, [.int ((q_job K S V nC q wf0).2.1.1), .long ((q_job K S V nC q wf0).2.1.2), .ref ol, .ref pi, .int 0])) ∧ G2 pi = some (.inl (cy 2, 16, .inr (.inl (fun _ => 0)))) ∧ LiS cy e0 G2 ol oe (q_job K S V nC q wf0).2.2.1 fO ∧ OPS tk G2 (q_job K S V nC q wf0).2.2.1 fO (q_job K S V nC q wf0).2.2.2 ∧ NW G (q_job K S V nC q wf0).2.2.1 fO ∧ (1 ≤ (q_job K S V nC q wf0).2.2.1 → oe ≠ ec2) ∧ ∀ (x : Nat) (e : va_E), G x = some e → x ≠ o → x ≠ ow → x ≠ ljo → (1 ≤ nC → x ≠ ec) → G2 x = some e) (mk_B D vwCl A) A) ([.ref o] : List Value).toArray s 166 (1064 + gco nC) A) (F0 m 45 ls []) := by
    intro n
    induction n with
    | zero =>
      intro kk ta on nF qv qF ja ol oe pi jat jn wf fv dv dF hjn hq hZ hpv hjaN holN hpiN hta hon hwi Gv v_o v_k v_ks v_ss v_vs v_ed v_ja v_ow v_pi hls hops hfr hoe hnw H locs hG hS ls hl
      refine lv_iload hx hb dX9_takeJob_45 (lv_at hl 4 rfl) ?_
      refine lv_bipush (v := 80) hx hb dX9_takeJob_47 (by decide) ?_
      refine lv_icmp_gt (tgt := 119) hx hb dX9_takeJob_49 (by decide) (fun c_49 => ?_) (fun c_49 => ?_)
      · skip
        refine lv_aload_n hx hb dX9_takeJob_119 rfl (lv_at hl 0 rfl) ?_
        refine va_gets (v := .ref (tk 5)) hx hb (show va_Z "DescribeText$Token" "CLOSE" "LDescribeText$Token;" (.ref (tk 5)) A s s.heap from (hE.2.1 5 (by decide)).1) hS hown (tb_use hT tw_655) (fun _ h9 => h9) dX9_takeJob_120 ?_
        refine va_callv (va_runV (As := [.ref (tk 5)]) (rest := []) ⟨hx, hb, hml, hown, (fun _ h9 => absurd h9 List.not_mem_nil : ∀ w ∈ ([] : List Cond), w.before _ s = true)⟩ (c_X9_take l D cy A X hst hXT e0 tk hXE Gv o ow ed qv k ks ss vs tn K S V f1 f2 f3 5 v_o v_k v_ks v_ss v_vs hTP (by first | omega | (simp only []; omega)) (by decide)) (tb_cw (C := RX9) 1 hT tw_539 tw_106 tw_536 tw_538 tw_12 rfl rfl hq_X9_take ⟨Nat.le_of_ble_eq_true rfl, Nat.le_of_ble_eq_true rfl⟩) (mk_preC hst hG hK hA hX hS vc_10 v_o) rfl rfl hl.1 rfl (lv_room (Nat.le_of_ble_eq_true rfl)) dX9_takeJob_123 ⟨(by show _ ≤ 166; omega), (by show _ ≤ 1064 + gco nC; first | omega | (have h1 := slj_mono kk (by omega); have h2 := slj_81; omega))⟩) hS (fun q _ h => h) (fun q h => h) (fun  G21 t H locs ht hvm hw hB hz1 hk1 hS => ?_)
        have hG : mm D vwCl A G21 H := by rw [← ht]; exact hB
        clear hB hz1 hk1 hvm ht
        obtain ⟨y22, ey22⟩ : ∃ y, y = q_take K S 5 qv := ⟨_, rfl⟩
        rw [← ey22] at hw
        have ly22 : y22.1 ≤ qv.1 + 1 := by rw [ey22]; exact q_take_le
        have eG21 := hw
        clear hw
        have k23 : G21 o = some (.inr (10, [.ref k, .ref ow, .ref ed, .int (nI y22.1), .int y22.2])) := by rw [eG21]; exact mm_set_self
        have k24 : G21 k = some (.inr (13, [.ref ks, .ref ss, .ref vs, .int (nI tn)])) := by rw [eG21]; exact mm_set_of v_k (mm_ne_oo v_k v_o (by decide))
        have k25 : G21 ks = some (.inl (cy 5, 2001, .inr (.inr (.inr (.inr f1))))) := by rw [eG21]; exact mm_set_of v_ks (mm_ne_ao v_ks v_o)
        have k26 : G21 ss = some (.inl (cy 1, 2001, .inl f2)) := by rw [eG21]; exact mm_set_of v_ss (mm_ne_ao v_ss v_o)
        have k27 : G21 vs = some (.inl (cy 2, 2001, .inr (.inl f3))) := by rw [eG21]; exact mm_set_of v_vs (mm_ne_ao v_vs v_o)
        have k28 : G21 ed = some (.inr (3, [.ref lc, .ref ly, .ref lsv, .ref lco, .ref lva, .ref ljo, .ref na, .int nc, va_rf iu, .int wa, va_rf rs])) := by rw [eG21]; exact mm_set_of v_ed (mm_ne_oo v_ed v_o (by decide))
        have k29 : G21 ja = some (.inr (5, [.int jat, .long jn, .ref ol, .ref pi, .int 0])) := by rw [eG21]; exact mm_set_of v_ja (mm_ne_oo v_ja v_o (by decide))
        have k30 : G21 ow = some (.inl (cy 1, 3, .inl wf)) := by rw [eG21]; exact mm_set_of v_ow (mm_ne_ao v_ow v_o)
        have k31 : G21 pi = some (.inl (cy 2, 16, .inr (.inl (fun _ => 0)))) := by rw [eG21]; exact mm_set_of v_pi (mm_ne_ao v_pi v_o)
        refine lv_aload_n hx hb dX9_takeJob_126 rfl (lv_at hl 0 rfl) ?_
        refine mm_get (v := .ref ed) hx hb hf_X9 (fun _ h9 => h9) hown hK hG k23 rfl 2 (by decide) (tb_use hT tw_179) (fun _ h9 => h9) rfl dX9_takeJob_127 ?_
        refine mm_getN (v := .ref ljo) hx hb hf_X2 (fun _ h9 => h9) hown hK hG k28 rfl 5 (by decide) (tb_use hT tw_293) (fun _ h9 => h9) rfl dX9_takeJob_130 ?_
        refine lv_aload_n hx hb dX9_takeJob_133 rfl (lv_at hl 1 rfl) ?_
        have hfV : ∀ (x : Nat) (e : va_E), Gv x = some e → x ≠ o → G21 x = some e := by
          intro x e z0 n_o
          have z1 : G21 x = some e := by rw [eG21]; exact mm_set_of z0 n_o
          exact z1
        have hLp : LiS cy e0 G21 ol oe kk fv := LiS.fr2 (fun x => x ≠ o) hls hfV (hls.ne v_o (by decide)) (fun v _ hv => mm_ne_ao hv v_o)
        have hPp : OPS tk G21 kk fv dv := fun i hi => hfV _ _ (hops i hi) (mm_ne_oo (hops i hi) v_o (by decide))
        have hB33 : ∀ (x : Nat) (e : va_E), G x = some e → x ≠ o → x ≠ ow → G21 x = some e := fun x e h0 n1 n2 => hfV x e (hfr x e h0 n1 n2) n1
        have hL32 : LiS cy e0 G21 ljo ec nC fC := LiS.fr2 (fun x => x ≠ o ∧ x ≠ ow) hlc (fun x e h0 hp => hB33 x e h0 hp.1 hp.2) ⟨hlc.ne h0 (by decide), LiS.nal hlc hwf⟩ (fun v h1 hv => ⟨mm_ne_ao hv h0, Ne.symm (LiS.nar hlc h1 hwf (by intro gv9 z; have z2 := (Prod.mk.inj (Prod.mk.inj (Sum.inl.inj z)).2); first | (exact absurd z2.1 (cpf_ne _)) | (cases z2.2)))⟩)
        have hLO2 : LO G21 nC fC := fun j hj => by obtain ⟨fs, z⟩ := hLT j hj; exact ⟨5, fs, _, hB33 _ _ z (mm_ne_oo z h0 (by decide)) (mm_ne_oa z hwf), rfl, tw_1918, by decide⟩
        obtain ⟨mo36, h_mo36, -⟩ := id hL32
        refine va_calli (va_runV (As := [.ref ja]) (rest := []) ⟨hx, hb, hml, hown, (fun _ h9 => absurd h9 List.not_mem_nil : ∀ w ∈ ([] : List Cond), w.before _ s = true)⟩ (c_LS_add l D cy A X hst hXT e0 tk hXE mi hXL G21 ljo ec nC fC ja 5 _ _ hL32 hLO2 (by omega) k29 rfl (by decide) tw_1918) (tb_cw (C := RJx4a65c) 1 hT tw_597 tw_113 tw_594 tw_595 tw_596 rfl rfl hq_Jx4a65c_add_9ea2d ⟨Nat.le_of_ble_eq_true rfl, Nat.le_of_ble_eq_true rfl⟩) (mk_preC hst hG hK hA hX hS vc_1 h_mo36) rfl rfl hl.1 rfl (lv_room (Nat.le_of_ble_eq_true rfl)) dX9_takeJob_134 ⟨(by show _ ≤ 166; omega), (by show _ ≤ 1064 + gco nC; first | omega | (have h1 := slj_mono kk (by omega); have h2 := slj_81; omega))⟩) hS (fun q _ h => h) (fun q h => h) (fun r35 G34 t H locs ht hvm hw hB hz1 hk1 hS => ?_)
        have hG : mm D vwCl A G34 H := by rw [← ht]; exact hB
        clear hB hz1 hk1 hvm ht
        obtain ⟨ec2, hlc2, hec2, hf2⟩ := hw
        have hf3 : ∀ (x ci : Nat) (fs : List Value), G21 x = some (.inr (ci, fs)) → ci ≠ 1 → G34 x = some (.inr (ci, fs)) := fun x ci fs h0 hc => hf2 x _ h0 (Ne.symm (hL32.ne h0 hc)) (fun h1 => LiS.nea hL32 h1 h0)
        have k37 : G34 o = some (.inr (10, [.ref k, .ref ow, .ref ed, .int (nI y22.1), .int y22.2])) := hf3 _ _ _ k23 (by decide)
        have k38 : G34 ow = some (.inl (cy 1, 3, .inl wf)) := hf2 _ _ k30 (Ne.symm (LiS.nal hL32 k30)) (fun h1 => LiS.nar hL32 h1 k30 (by intro gv9 z; have z2 := (Prod.mk.inj (Prod.mk.inj (Sum.inl.inj z)).2); first | (exact absurd z2.1 (cpf_ne _)) | (cases z2.2)))
        have k39 : G34 ja = some (.inr (5, [.int jat, .long jn, .ref ol, .ref pi, .int 0])) := hf3 _ _ _ k29 (by decide)
        have k40 : G34 pi = some (.inl (cy 2, 16, .inr (.inl (fun _ => 0)))) := hf2 _ _ k31 (Ne.symm (LiS.nal hL32 k31)) (fun h1 => LiS.nar hL32 h1 k31 (by intro gv9 z; have z2 := (Prod.mk.inj (Prod.mk.inj (Sum.inl.inj z)).2); first | (exact absurd z2.1 (cpf_ne _)) | (cases z2.2)))
        have hec3 : (1 ≤ nC ∧ ec2 = ec) ∨ G ec2 = none := by
          rcases hec2 with h1 | h1
          · exact Or.inl h1
          · refine Or.inr ?_
            cases hz : G ec2 with
            | none => rfl
            | some e9 => rw [hB33 ec2 e9 hz (fun z => by rw [z, k23] at h1; cases h1) (fun z => by rw [z, k30] at h1; cases h1)] at h1; cases h1
        have hfr9 : ∀ (x : Nat) (e : va_E), G x = some e → x ≠ o → x ≠ ow → x ≠ ljo → (1 ≤ nC → x ≠ ec) → G34 x = some e := fun x e h0 n1 n0 n2 n3 => hf2 x e (hB33 x e h0 n1 n0) n2 n3
        have npl : ol ≠ ljo := fun z => by obtain ⟨_, z2, -⟩ := hlc; rw [← z, holN] at z2; cases z2
        have npe : 1 ≤ kk → oe ≠ ec2 := by
          intro h1 z
          obtain ⟨v, hv⟩ := hLp.arr h1
          rcases hec2 with ⟨h2, h3⟩ | h2
          · obtain ⟨v2, hv2⟩ := hlc.arr h2
            rw [← h3, ← z, hoe h1] at hv2; cases hv2
          · rw [← z, hv] at h2; cases h2
        have hLp2 : LiS cy e0 G34 ol oe kk fv := LiS.fr2 (fun x => x ≠ ljo ∧ (1 ≤ nC → x ≠ ec)) hLp (fun x e h0 hp => hf2 x e h0 hp.1 hp.2) ⟨npl, fun h1 z => (by obtain ⟨v2, hv2⟩ := hlc.arr h1; rw [← z, holN] at hv2; cases hv2)⟩ (fun v h1 hv => ⟨(fun z => (by obtain ⟨_, z2, -⟩ := hlc; rw [← z, hoe h1] at z2; cases z2)), (fun h2 z => (by obtain ⟨v2, hv2⟩ := hlc.arr h2; rw [← z, hoe h1] at hv2; cases hv2))⟩)
        have hPp2 : OPS tk G34 kk fv dv := fun i hi => hf3 _ _ _ (hPp i hi) (by decide)
        refine lv_pop hx hb dX9_takeJob_137 rfl ?_
        have hqq : (kk, dv, qv) = (nF, dF, qF) := by rw [← hq]; rfl
        have e1 : nF = kk := (congrArg (fun z => z.1) hqq).symm
        have e2 : dF = dv := (congrArg (fun z => z.2.1) hqq).symm
        have e3 : qF = qv := (congrArg (fun z => z.2.2) hqq).symm
        refine W.widen (k := 166) (n := (1064 + gco nC)) (by omega) (by have h1 := slj_mono kk (by omega); have h2 := slj_81; omega) ?_
        exact W.vret hx hb hr (fun t ht hW => ⟨⟨_, rfl, (by rw [hZ, e1, e2, e3, ← ey22]; exact ⟨ja, ol, oe, pi, fv, ec2, wf, hjaN, holN, hpiN, hoe, k37, k38, hlc2, hec3, k39, k40, hLp2, hPp2, hnw, npe, hfr9⟩), mk_end hG ht⟩, hS.F ht⟩) hS.2.2 dX9_takeJob_138
      · skip
        exact absurd (show (80 : Int32) < nI kk by rw [show (80 : Int32) = nI 80 from rfl]; exact nI_lt (by omega) (by omega)) c_49
    | succ n ih =>
      intro kk ta on nF qv qF ja ol oe pi jat jn wf fv dv dF hjn hq hZ hpv hjaN holN hpiN hta hon hwi Gv v_o v_k v_ks v_ss v_vs v_ed v_ja v_ow v_pi hls hops hfr hoe hnw H locs hG hS ls hl
      refine lv_iload hx hb dX9_takeJob_45 (lv_at hl 4 rfl) ?_
      refine lv_bipush (v := 80) hx hb dX9_takeJob_47 (by decide) ?_
      refine lv_icmp_gt (tgt := 119) hx hb dX9_takeJob_49 (by decide) (fun c_49 => ?_) (fun c_49 => ?_)
      · skip
        exact absurd c_49 (by rw [show (80 : Int32) = nI 80 from rfl]; exact Int32.not_lt.mpr (nI_le (by omega) (by decide)))
      · skip
        refine lv_iload_n hx hb dX9_takeJob_52 rfl (lv_at hl 3 rfl) ?_
        refine lv_if_le (tgt := 78) hx hb dX9_takeJob_53 (by decide) (fun c_53 => ?_) (fun c_53 => ?_)
        · skip
          refine lv_aload_n hx hb dX9_takeJob_78 rfl (lv_at hl 0 rfl) ?_
          refine mm_get (v := .ref k) hx hb hf_X9 (fun _ h9 => h9) hown hK hG v_o rfl 0 (by decide) (tb_use hT tw_177) (fun _ h9 => h9) rfl dX9_takeJob_79 ?_
          refine lv_aload_n hx hb dX9_takeJob_82 rfl (lv_at hl 0 rfl) ?_
          refine mm_get (v := .int (nI qv.1)) hx hb hf_X9 (fun _ h9 => h9) hown hK hG v_o rfl 3 (by decide) (tb_use hT tw_180) (fun _ h9 => h9) rfl dX9_takeJob_83 ?_
          refine va_callq (va_runV (As := [.int (nI qv.1)]) (rest := []) ⟨hx, hb, hml, hown, (fun _ h9 => absurd h9 List.not_mem_nil : ∀ w ∈ ([] : List Cond), w.before _ s = true)⟩ (c_X12_kind l D cy A X hst hXT e0 tk hXE Gv k ks ss vs tn K S V f1 f2 f3 qv.1 v_k v_ks v_ss v_vs hTP (by first | omega | (simp only []; omega))) (tb_cw (C := RX12) 1 hT tw_441 tw_107 tw_438 tw_439 tw_440 rfl rfl hq_X12_kind ⟨Nat.le_of_ble_eq_true rfl, Nat.le_of_ble_eq_true rfl⟩) (mk_preC hst hG hK hA hX hS vc_13 v_k) rfl rfl hl.1 rfl (lv_room (Nat.le_of_ble_eq_true rfl)) dX9_takeJob_86 ⟨(by show _ ≤ 166; omega), (by show _ ≤ 1064 + gco nC; first | omega | (have h1 := slj_mono kk (by omega); have h2 := slj_81; omega))⟩) hS (fun q _ h => h) (fun q h => h) (fun r41 G42 t H locs ht hvm hw hB hz1 hk1 hS => ?_)
          have hG : mm D vwCl A G42 H := by rw [← ht]; exact hB
          clear hB hz1 hk1 hvm ht
          obtain ⟨rfl, hw⟩ := hw
          rw [hw] at hG
          refine va_calli (va_runV (As := []) (rest := []) ⟨hx, hb, hml, hown, (fun _ h9 => absurd h9 List.not_mem_nil : ∀ w ∈ ([] : List Cond), w.before _ s = true)⟩ (c_X11_isOp l D cy A X hst hXT e0 tk hXE Gv (K qv.1) ((hTP.2.1 _).1)) (tb_cw (C := RX11) 0 hT tw_954 tw_116 tw_951 tw_952 tw_953 rfl rfl hq_X11_isOp ⟨Nat.le_of_ble_eq_true rfl, Nat.le_of_ble_eq_true rfl⟩) (mk_preT hst hG hK hA hX hS hE ((hTP.2.1 _).1)) rfl rfl hl.1 rfl (lv_room (Nat.le_of_ble_eq_true rfl)) dX9_takeJob_89 ⟨(by show _ ≤ 166; omega), (by show _ ≤ 1064 + gco nC; first | omega | (have h1 := slj_mono kk (by omega); have h2 := slj_81; omega))⟩) hS (fun q _ h => h) (fun q h => h) (fun r43 G44 t H locs ht hvm hw hB hz1 hk1 hS => ?_)
          have hG : mm D vwCl A G44 H := by rw [← ht]; exact hB
          clear hB hz1 hk1 hvm ht
          obtain ⟨er43, hw⟩ := hw
          rw [hw] at hG
          refine lv_if_eq (tgt := 119) hx hb dX9_takeJob_92 (by decide) (fun c_92 => ?_) (fun c_92 => ?_)
          · skip
            refine lv_aload_n hx hb dX9_takeJob_119 rfl (lv_at hl 0 rfl) ?_
            refine va_gets (v := .ref (tk 5)) hx hb (show va_Z "DescribeText$Token" "CLOSE" "LDescribeText$Token;" (.ref (tk 5)) A s s.heap from (hE.2.1 5 (by decide)).1) hS hown (tb_use hT tw_655) (fun _ h9 => h9) dX9_takeJob_120 ?_
            refine va_callv (va_runV (As := [.ref (tk 5)]) (rest := []) ⟨hx, hb, hml, hown, (fun _ h9 => absurd h9 List.not_mem_nil : ∀ w ∈ ([] : List Cond), w.before _ s = true)⟩ (c_X9_take l D cy A X hst hXT e0 tk hXE Gv o ow ed qv k ks ss vs tn K S V f1 f2 f3 5 v_o v_k v_ks v_ss v_vs hTP (by first | omega | (simp only []; omega)) (by decide)) (tb_cw (C := RX9) 1 hT tw_539 tw_106 tw_536 tw_538 tw_12 rfl rfl hq_X9_take ⟨Nat.le_of_ble_eq_true rfl, Nat.le_of_ble_eq_true rfl⟩) (mk_preC hst hG hK hA hX hS vc_10 v_o) rfl rfl hl.1 rfl (lv_room (Nat.le_of_ble_eq_true rfl)) dX9_takeJob_123 ⟨(by show _ ≤ 166; omega), (by show _ ≤ 1064 + gco nC; first | omega | (have h1 := slj_mono kk (by omega); have h2 := slj_81; omega))⟩) hS (fun q _ h => h) (fun q h => h) (fun  G45 t H locs ht hvm hw hB hz1 hk1 hS => ?_)
            have hG : mm D vwCl A G45 H := by rw [← ht]; exact hB
            clear hB hz1 hk1 hvm ht
            obtain ⟨y46, ey46⟩ : ∃ y, y = q_take K S 5 qv := ⟨_, rfl⟩
            rw [← ey46] at hw
            have ly46 : y46.1 ≤ qv.1 + 1 := by rw [ey46]; exact q_take_le
            have eG45 := hw
            clear hw
            have k47 : G45 o = some (.inr (10, [.ref k, .ref ow, .ref ed, .int (nI y46.1), .int y46.2])) := by rw [eG45]; exact mm_set_self
            have k48 : G45 k = some (.inr (13, [.ref ks, .ref ss, .ref vs, .int (nI tn)])) := by rw [eG45]; exact mm_set_of v_k (mm_ne_oo v_k v_o (by decide))
            have k49 : G45 ks = some (.inl (cy 5, 2001, .inr (.inr (.inr (.inr f1))))) := by rw [eG45]; exact mm_set_of v_ks (mm_ne_ao v_ks v_o)
            have k50 : G45 ss = some (.inl (cy 1, 2001, .inl f2)) := by rw [eG45]; exact mm_set_of v_ss (mm_ne_ao v_ss v_o)
            have k51 : G45 vs = some (.inl (cy 2, 2001, .inr (.inl f3))) := by rw [eG45]; exact mm_set_of v_vs (mm_ne_ao v_vs v_o)
            have k52 : G45 ed = some (.inr (3, [.ref lc, .ref ly, .ref lsv, .ref lco, .ref lva, .ref ljo, .ref na, .int nc, va_rf iu, .int wa, va_rf rs])) := by rw [eG45]; exact mm_set_of v_ed (mm_ne_oo v_ed v_o (by decide))
            have k53 : G45 ja = some (.inr (5, [.int jat, .long jn, .ref ol, .ref pi, .int 0])) := by rw [eG45]; exact mm_set_of v_ja (mm_ne_oo v_ja v_o (by decide))
            have k54 : G45 ow = some (.inl (cy 1, 3, .inl wf)) := by rw [eG45]; exact mm_set_of v_ow (mm_ne_ao v_ow v_o)
            have k55 : G45 pi = some (.inl (cy 2, 16, .inr (.inl (fun _ => 0)))) := by rw [eG45]; exact mm_set_of v_pi (mm_ne_ao v_pi v_o)
            refine lv_aload_n hx hb dX9_takeJob_126 rfl (lv_at hl 0 rfl) ?_
            refine mm_get (v := .ref ed) hx hb hf_X9 (fun _ h9 => h9) hown hK hG k47 rfl 2 (by decide) (tb_use hT tw_179) (fun _ h9 => h9) rfl dX9_takeJob_127 ?_
            refine mm_getN (v := .ref ljo) hx hb hf_X2 (fun _ h9 => h9) hown hK hG k52 rfl 5 (by decide) (tb_use hT tw_293) (fun _ h9 => h9) rfl dX9_takeJob_130 ?_
            refine lv_aload_n hx hb dX9_takeJob_133 rfl (lv_at hl 1 rfl) ?_
            have hfV : ∀ (x : Nat) (e : va_E), Gv x = some e → x ≠ o → G45 x = some e := by
              intro x e z0 n_o
              have z1 : G45 x = some e := by rw [eG45]; exact mm_set_of z0 n_o
              exact z1
            have hLp : LiS cy e0 G45 ol oe kk fv := LiS.fr2 (fun x => x ≠ o) hls hfV (hls.ne v_o (by decide)) (fun v _ hv => mm_ne_ao hv v_o)
            have hPp : OPS tk G45 kk fv dv := fun i hi => hfV _ _ (hops i hi) (mm_ne_oo (hops i hi) v_o (by decide))
            have hB57 : ∀ (x : Nat) (e : va_E), G x = some e → x ≠ o → x ≠ ow → G45 x = some e := fun x e h0 n1 n2 => hfV x e (hfr x e h0 n1 n2) n1
            have hL56 : LiS cy e0 G45 ljo ec nC fC := LiS.fr2 (fun x => x ≠ o ∧ x ≠ ow) hlc (fun x e h0 hp => hB57 x e h0 hp.1 hp.2) ⟨hlc.ne h0 (by decide), LiS.nal hlc hwf⟩ (fun v h1 hv => ⟨mm_ne_ao hv h0, Ne.symm (LiS.nar hlc h1 hwf (by intro gv9 z; have z2 := (Prod.mk.inj (Prod.mk.inj (Sum.inl.inj z)).2); first | (exact absurd z2.1 (cpf_ne _)) | (cases z2.2)))⟩)
            have hLO2 : LO G45 nC fC := fun j hj => by obtain ⟨fs, z⟩ := hLT j hj; exact ⟨5, fs, _, hB57 _ _ z (mm_ne_oo z h0 (by decide)) (mm_ne_oa z hwf), rfl, tw_1918, by decide⟩
            obtain ⟨mo60, h_mo60, -⟩ := id hL56
            refine va_calli (va_runV (As := [.ref ja]) (rest := []) ⟨hx, hb, hml, hown, (fun _ h9 => absurd h9 List.not_mem_nil : ∀ w ∈ ([] : List Cond), w.before _ s = true)⟩ (c_LS_add l D cy A X hst hXT e0 tk hXE mi hXL G45 ljo ec nC fC ja 5 _ _ hL56 hLO2 (by omega) k53 rfl (by decide) tw_1918) (tb_cw (C := RJx4a65c) 1 hT tw_597 tw_113 tw_594 tw_595 tw_596 rfl rfl hq_Jx4a65c_add_9ea2d ⟨Nat.le_of_ble_eq_true rfl, Nat.le_of_ble_eq_true rfl⟩) (mk_preC hst hG hK hA hX hS vc_1 h_mo60) rfl rfl hl.1 rfl (lv_room (Nat.le_of_ble_eq_true rfl)) dX9_takeJob_134 ⟨(by show _ ≤ 166; omega), (by show _ ≤ 1064 + gco nC; first | omega | (have h1 := slj_mono kk (by omega); have h2 := slj_81; omega))⟩) hS (fun q _ h => h) (fun q h => h) (fun r59 G58 t H locs ht hvm hw hB hz1 hk1 hS => ?_)
            have hG : mm D vwCl A G58 H := by rw [← ht]; exact hB
            clear hB hz1 hk1 hvm ht
            obtain ⟨ec2, hlc2, hec2, hf2⟩ := hw
            have hf3 : ∀ (x ci : Nat) (fs : List Value), G45 x = some (.inr (ci, fs)) → ci ≠ 1 → G58 x = some (.inr (ci, fs)) := fun x ci fs h0 hc => hf2 x _ h0 (Ne.symm (hL56.ne h0 hc)) (fun h1 => LiS.nea hL56 h1 h0)
            have k61 : G58 o = some (.inr (10, [.ref k, .ref ow, .ref ed, .int (nI y46.1), .int y46.2])) := hf3 _ _ _ k47 (by decide)
            have k62 : G58 ow = some (.inl (cy 1, 3, .inl wf)) := hf2 _ _ k54 (Ne.symm (LiS.nal hL56 k54)) (fun h1 => LiS.nar hL56 h1 k54 (by intro gv9 z; have z2 := (Prod.mk.inj (Prod.mk.inj (Sum.inl.inj z)).2); first | (exact absurd z2.1 (cpf_ne _)) | (cases z2.2)))
            have k63 : G58 ja = some (.inr (5, [.int jat, .long jn, .ref ol, .ref pi, .int 0])) := hf3 _ _ _ k53 (by decide)
            have k64 : G58 pi = some (.inl (cy 2, 16, .inr (.inl (fun _ => 0)))) := hf2 _ _ k55 (Ne.symm (LiS.nal hL56 k55)) (fun h1 => LiS.nar hL56 h1 k55 (by intro gv9 z; have z2 := (Prod.mk.inj (Prod.mk.inj (Sum.inl.inj z)).2); first | (exact absurd z2.1 (cpf_ne _)) | (cases z2.2)))
            have hec3 : (1 ≤ nC ∧ ec2 = ec) ∨ G ec2 = none := by
              rcases hec2 with h1 | h1
              · exact Or.inl h1
              · refine Or.inr ?_
                cases hz : G ec2 with
                | none => rfl
                | some e9 => rw [hB57 ec2 e9 hz (fun z => by rw [z, k47] at h1; cases h1) (fun z => by rw [z, k54] at h1; cases h1)] at h1; cases h1
            have hfr9 : ∀ (x : Nat) (e : va_E), G x = some e → x ≠ o → x ≠ ow → x ≠ ljo → (1 ≤ nC → x ≠ ec) → G58 x = some e := fun x e h0 n1 n0 n2 n3 => hf2 x e (hB57 x e h0 n1 n0) n2 n3
            have npl : ol ≠ ljo := fun z => by obtain ⟨_, z2, -⟩ := hlc; rw [← z, holN] at z2; cases z2
            have npe : 1 ≤ kk → oe ≠ ec2 := by
              intro h1 z
              obtain ⟨v, hv⟩ := hLp.arr h1
              rcases hec2 with ⟨h2, h3⟩ | h2
              · obtain ⟨v2, hv2⟩ := hlc.arr h2
                rw [← h3, ← z, hoe h1] at hv2; cases hv2
              · rw [← z, hv] at h2; cases h2
            have hLp2 : LiS cy e0 G58 ol oe kk fv := LiS.fr2 (fun x => x ≠ ljo ∧ (1 ≤ nC → x ≠ ec)) hLp (fun x e h0 hp => hf2 x e h0 hp.1 hp.2) ⟨npl, fun h1 z => (by obtain ⟨v2, hv2⟩ := hlc.arr h1; rw [← z, holN] at hv2; cases hv2)⟩ (fun v h1 hv => ⟨(fun z => (by obtain ⟨_, z2, -⟩ := hlc; rw [← z, hoe h1] at z2; cases z2)), (fun h2 z => (by obtain ⟨v2, hv2⟩ := hlc.arr h2; rw [← z, hoe h1] at hv2; cases hv2))⟩)
            have hPp2 : OPS tk G58 kk fv dv := fun i hi => hf3 _ _ _ (hPp i hi) (by decide)
            refine lv_pop hx hb dX9_takeJob_137 rfl ?_
            have hon0 : ¬ 0 < on := fun z => absurd c_53 (nI_nle z (by omega))
            have hA1 : ¬ (0 < on ∧ se K qv.1 qv.2 5 = true) := fun z => hon0 z.1
            have hs2 : isO (K qv.1) = false := by rw [er43] at c_92; revert c_92; cases isO (K qv.1) <;> simp [b2i]
            have hA2 : ¬ (isO (K qv.1) = true ∧ qv.2 < 0) := fun z => by rw [hs2] at z; cases z.1
            have hqq : (kk, dv, qv) = (nF, dF, qF) := by rw [← hq, q_ops, if_neg hA1, if_neg hA2]
            have e1 : nF = kk := (congrArg (fun z => z.1) hqq).symm
            have e2 : dF = dv := (congrArg (fun z => z.2.1) hqq).symm
            have e3 : qF = qv := (congrArg (fun z => z.2.2) hqq).symm
            refine W.widen (k := 166) (n := (1064 + gco nC)) (by omega) (by have h1 := slj_mono kk (by omega); have h2 := slj_81; omega) ?_
            exact W.vret hx hb hr (fun t ht hW => ⟨⟨_, rfl, (by rw [hZ, e1, e2, e3, ← ey46]; exact ⟨ja, ol, oe, pi, fv, ec2, wf, hjaN, holN, hpiN, hoe, k61, k62, hlc2, hec3, k63, k64, hLp2, hPp2, hnw, npe, hfr9⟩), mk_end hG ht⟩, hS.F ht⟩) hS.2.2 dX9_takeJob_138
          · skip
            refine lv_aload_n hx hb dX9_takeJob_95 rfl (lv_at hl 0 rfl) ?_
            refine mm_get (v := .int qv.2) hx hb hf_X9 (fun _ h9 => h9) hown hK hG v_o rfl 4 (by decide) (tb_use hT tw_181) (fun _ h9 => h9) rfl dX9_takeJob_96 ?_
            refine lv_if_ge (tgt := 119) hx hb dX9_takeJob_99 (by decide) (fun c_99 => ?_) (fun c_99 => ?_)
            · skip
              refine lv_aload_n hx hb dX9_takeJob_119 rfl (lv_at hl 0 rfl) ?_
              refine va_gets (v := .ref (tk 5)) hx hb (show va_Z "DescribeText$Token" "CLOSE" "LDescribeText$Token;" (.ref (tk 5)) A s s.heap from (hE.2.1 5 (by decide)).1) hS hown (tb_use hT tw_655) (fun _ h9 => h9) dX9_takeJob_120 ?_
              refine va_callv (va_runV (As := [.ref (tk 5)]) (rest := []) ⟨hx, hb, hml, hown, (fun _ h9 => absurd h9 List.not_mem_nil : ∀ w ∈ ([] : List Cond), w.before _ s = true)⟩ (c_X9_take l D cy A X hst hXT e0 tk hXE Gv o ow ed qv k ks ss vs tn K S V f1 f2 f3 5 v_o v_k v_ks v_ss v_vs hTP (by first | omega | (simp only []; omega)) (by decide)) (tb_cw (C := RX9) 1 hT tw_539 tw_106 tw_536 tw_538 tw_12 rfl rfl hq_X9_take ⟨Nat.le_of_ble_eq_true rfl, Nat.le_of_ble_eq_true rfl⟩) (mk_preC hst hG hK hA hX hS vc_10 v_o) rfl rfl hl.1 rfl (lv_room (Nat.le_of_ble_eq_true rfl)) dX9_takeJob_123 ⟨(by show _ ≤ 166; omega), (by show _ ≤ 1064 + gco nC; first | omega | (have h1 := slj_mono kk (by omega); have h2 := slj_81; omega))⟩) hS (fun q _ h => h) (fun q h => h) (fun  G65 t H locs ht hvm hw hB hz1 hk1 hS => ?_)
              have hG : mm D vwCl A G65 H := by rw [← ht]; exact hB
              clear hB hz1 hk1 hvm ht
              obtain ⟨y66, ey66⟩ : ∃ y, y = q_take K S 5 qv := ⟨_, rfl⟩
              rw [← ey66] at hw
              have ly66 : y66.1 ≤ qv.1 + 1 := by rw [ey66]; exact q_take_le
              have eG65 := hw
              clear hw
              have k67 : G65 o = some (.inr (10, [.ref k, .ref ow, .ref ed, .int (nI y66.1), .int y66.2])) := by rw [eG65]; exact mm_set_self
              have k68 : G65 k = some (.inr (13, [.ref ks, .ref ss, .ref vs, .int (nI tn)])) := by rw [eG65]; exact mm_set_of v_k (mm_ne_oo v_k v_o (by decide))
              have k69 : G65 ks = some (.inl (cy 5, 2001, .inr (.inr (.inr (.inr f1))))) := by rw [eG65]; exact mm_set_of v_ks (mm_ne_ao v_ks v_o)
              have k70 : G65 ss = some (.inl (cy 1, 2001, .inl f2)) := by rw [eG65]; exact mm_set_of v_ss (mm_ne_ao v_ss v_o)
              have k71 : G65 vs = some (.inl (cy 2, 2001, .inr (.inl f3))) := by rw [eG65]; exact mm_set_of v_vs (mm_ne_ao v_vs v_o)
              have k72 : G65 ed = some (.inr (3, [.ref lc, .ref ly, .ref lsv, .ref lco, .ref lva, .ref ljo, .ref na, .int nc, va_rf iu, .int wa, va_rf rs])) := by rw [eG65]; exact mm_set_of v_ed (mm_ne_oo v_ed v_o (by decide))
              have k73 : G65 ja = some (.inr (5, [.int jat, .long jn, .ref ol, .ref pi, .int 0])) := by rw [eG65]; exact mm_set_of v_ja (mm_ne_oo v_ja v_o (by decide))
              have k74 : G65 ow = some (.inl (cy 1, 3, .inl wf)) := by rw [eG65]; exact mm_set_of v_ow (mm_ne_ao v_ow v_o)
              have k75 : G65 pi = some (.inl (cy 2, 16, .inr (.inl (fun _ => 0)))) := by rw [eG65]; exact mm_set_of v_pi (mm_ne_ao v_pi v_o)
              refine lv_aload_n hx hb dX9_takeJob_126 rfl (lv_at hl 0 rfl) ?_
              refine mm_get (v := .ref ed) hx hb hf_X9 (fun _ h9 => h9) hown hK hG k67 rfl 2 (by decide) (tb_use hT tw_179) (fun _ h9 => h9) rfl dX9_takeJob_127 ?_
              refine mm_getN (v := .ref ljo) hx hb hf_X2 (fun _ h9 => h9) hown hK hG k72 rfl 5 (by decide) (tb_use hT tw_293) (fun _ h9 => h9) rfl dX9_takeJob_130 ?_
              refine lv_aload_n hx hb dX9_takeJob_133 rfl (lv_at hl 1 rfl) ?_
              have hfV : ∀ (x : Nat) (e : va_E), Gv x = some e → x ≠ o → G65 x = some e := by
                intro x e z0 n_o
                have z1 : G65 x = some e := by rw [eG65]; exact mm_set_of z0 n_o
                exact z1
              have hLp : LiS cy e0 G65 ol oe kk fv := LiS.fr2 (fun x => x ≠ o) hls hfV (hls.ne v_o (by decide)) (fun v _ hv => mm_ne_ao hv v_o)
              have hPp : OPS tk G65 kk fv dv := fun i hi => hfV _ _ (hops i hi) (mm_ne_oo (hops i hi) v_o (by decide))
              have hB77 : ∀ (x : Nat) (e : va_E), G x = some e → x ≠ o → x ≠ ow → G65 x = some e := fun x e h0 n1 n2 => hfV x e (hfr x e h0 n1 n2) n1
              have hL76 : LiS cy e0 G65 ljo ec nC fC := LiS.fr2 (fun x => x ≠ o ∧ x ≠ ow) hlc (fun x e h0 hp => hB77 x e h0 hp.1 hp.2) ⟨hlc.ne h0 (by decide), LiS.nal hlc hwf⟩ (fun v h1 hv => ⟨mm_ne_ao hv h0, Ne.symm (LiS.nar hlc h1 hwf (by intro gv9 z; have z2 := (Prod.mk.inj (Prod.mk.inj (Sum.inl.inj z)).2); first | (exact absurd z2.1 (cpf_ne _)) | (cases z2.2)))⟩)
              have hLO2 : LO G65 nC fC := fun j hj => by obtain ⟨fs, z⟩ := hLT j hj; exact ⟨5, fs, _, hB77 _ _ z (mm_ne_oo z h0 (by decide)) (mm_ne_oa z hwf), rfl, tw_1918, by decide⟩
              obtain ⟨mo80, h_mo80, -⟩ := id hL76
              refine va_calli (va_runV (As := [.ref ja]) (rest := []) ⟨hx, hb, hml, hown, (fun _ h9 => absurd h9 List.not_mem_nil : ∀ w ∈ ([] : List Cond), w.before _ s = true)⟩ (c_LS_add l D cy A X hst hXT e0 tk hXE mi hXL G65 ljo ec nC fC ja 5 _ _ hL76 hLO2 (by omega) k73 rfl (by decide) tw_1918) (tb_cw (C := RJx4a65c) 1 hT tw_597 tw_113 tw_594 tw_595 tw_596 rfl rfl hq_Jx4a65c_add_9ea2d ⟨Nat.le_of_ble_eq_true rfl, Nat.le_of_ble_eq_true rfl⟩) (mk_preC hst hG hK hA hX hS vc_1 h_mo80) rfl rfl hl.1 rfl (lv_room (Nat.le_of_ble_eq_true rfl)) dX9_takeJob_134 ⟨(by show _ ≤ 166; omega), (by show _ ≤ 1064 + gco nC; first | omega | (have h1 := slj_mono kk (by omega); have h2 := slj_81; omega))⟩) hS (fun q _ h => h) (fun q h => h) (fun r79 G78 t H locs ht hvm hw hB hz1 hk1 hS => ?_)
              have hG : mm D vwCl A G78 H := by rw [← ht]; exact hB
              clear hB hz1 hk1 hvm ht
              obtain ⟨ec2, hlc2, hec2, hf2⟩ := hw
              have hf3 : ∀ (x ci : Nat) (fs : List Value), G65 x = some (.inr (ci, fs)) → ci ≠ 1 → G78 x = some (.inr (ci, fs)) := fun x ci fs h0 hc => hf2 x _ h0 (Ne.symm (hL76.ne h0 hc)) (fun h1 => LiS.nea hL76 h1 h0)
              have k81 : G78 o = some (.inr (10, [.ref k, .ref ow, .ref ed, .int (nI y66.1), .int y66.2])) := hf3 _ _ _ k67 (by decide)
              have k82 : G78 ow = some (.inl (cy 1, 3, .inl wf)) := hf2 _ _ k74 (Ne.symm (LiS.nal hL76 k74)) (fun h1 => LiS.nar hL76 h1 k74 (by intro gv9 z; have z2 := (Prod.mk.inj (Prod.mk.inj (Sum.inl.inj z)).2); first | (exact absurd z2.1 (cpf_ne _)) | (cases z2.2)))
              have k83 : G78 ja = some (.inr (5, [.int jat, .long jn, .ref ol, .ref pi, .int 0])) := hf3 _ _ _ k73 (by decide)
              have k84 : G78 pi = some (.inl (cy 2, 16, .inr (.inl (fun _ => 0)))) := hf2 _ _ k75 (Ne.symm (LiS.nal hL76 k75)) (fun h1 => LiS.nar hL76 h1 k75 (by intro gv9 z; have z2 := (Prod.mk.inj (Prod.mk.inj (Sum.inl.inj z)).2); first | (exact absurd z2.1 (cpf_ne _)) | (cases z2.2)))
              have hec3 : (1 ≤ nC ∧ ec2 = ec) ∨ G ec2 = none := by
                rcases hec2 with h1 | h1
                · exact Or.inl h1
                · refine Or.inr ?_
                  cases hz : G ec2 with
                  | none => rfl
                  | some e9 => rw [hB77 ec2 e9 hz (fun z => by rw [z, k67] at h1; cases h1) (fun z => by rw [z, k74] at h1; cases h1)] at h1; cases h1
              have hfr9 : ∀ (x : Nat) (e : va_E), G x = some e → x ≠ o → x ≠ ow → x ≠ ljo → (1 ≤ nC → x ≠ ec) → G78 x = some e := fun x e h0 n1 n0 n2 n3 => hf2 x e (hB77 x e h0 n1 n0) n2 n3
              have npl : ol ≠ ljo := fun z => by obtain ⟨_, z2, -⟩ := hlc; rw [← z, holN] at z2; cases z2
              have npe : 1 ≤ kk → oe ≠ ec2 := by
                intro h1 z
                obtain ⟨v, hv⟩ := hLp.arr h1
                rcases hec2 with ⟨h2, h3⟩ | h2
                · obtain ⟨v2, hv2⟩ := hlc.arr h2
                  rw [← h3, ← z, hoe h1] at hv2; cases hv2
                · rw [← z, hv] at h2; cases h2
              have hLp2 : LiS cy e0 G78 ol oe kk fv := LiS.fr2 (fun x => x ≠ ljo ∧ (1 ≤ nC → x ≠ ec)) hLp (fun x e h0 hp => hf2 x e h0 hp.1 hp.2) ⟨npl, fun h1 z => (by obtain ⟨v2, hv2⟩ := hlc.arr h1; rw [← z, holN] at hv2; cases hv2)⟩ (fun v h1 hv => ⟨(fun z => (by obtain ⟨_, z2, -⟩ := hlc; rw [← z, hoe h1] at z2; cases z2)), (fun h2 z => (by obtain ⟨v2, hv2⟩ := hlc.arr h2; rw [← z, hoe h1] at hv2; cases hv2))⟩)
              have hPp2 : OPS tk G78 kk fv dv := fun i hi => hf3 _ _ _ (hPp i hi) (by decide)
              refine lv_pop hx hb dX9_takeJob_137 rfl ?_
              have hon0 : ¬ 0 < on := fun z => absurd c_53 (nI_nle z (by omega))
              have hA1 : ¬ (0 < on ∧ se K qv.1 qv.2 5 = true) := fun z => hon0 z.1
              have hs2 : isO (K qv.1) = true := by rw [er43] at c_92; revert c_92; cases isO (K qv.1) <;> simp [b2i]
              have hA2 : ¬ (isO (K qv.1) = true ∧ qv.2 < 0) := fun z => absurd z.2 (Int32.not_lt.mpr c_99)
              have hqq : (kk, dv, qv) = (nF, dF, qF) := by rw [← hq, q_ops, if_neg hA1, if_neg hA2]
              have e1 : nF = kk := (congrArg (fun z => z.1) hqq).symm
              have e2 : dF = dv := (congrArg (fun z => z.2.1) hqq).symm
              have e3 : qF = qv := (congrArg (fun z => z.2.2) hqq).symm
              refine W.widen (k := 166) (n := (1064 + gco nC)) (by omega) (by have h1 := slj_mono kk (by omega); have h2 := slj_81; omega) ?_
              exact W.vret hx hb hr (fun t ht hW => ⟨⟨_, rfl, (by rw [hZ, e1, e2, e3, ← ey66]; exact ⟨ja, ol, oe, pi, fv, ec2, wf, hjaN, holN, hpiN, hoe, k81, k82, hlc2, hec3, k83, k84, hLp2, hPp2, hnw, npe, hfr9⟩), mk_end hG ht⟩, hS.F ht⟩) hS.2.2 dX9_takeJob_138
            · skip
              refine lv_aload_n hx hb dX9_takeJob_102 rfl (lv_at hl 0 rfl) ?_
              refine lv_aload_n hx hb dX9_takeJob_103 rfl (lv_at hl 1 rfl) ?_
              refine lv_iload_n hx hb dX9_takeJob_104 rfl (lv_at hl 2 rfl) ?_
              refine lv_iload_n hx hb dX9_takeJob_105 rfl (lv_at hl 3 rfl) ?_
              refine va_calli (va_runV (As := [.ref ja, .int (nI ta), .int (nI on)]) (rest := []) ⟨hx, hb, hml, hown, (fun _ h9 => absurd h9 List.not_mem_nil : ∀ w ∈ ([] : List Cond), w.before _ s = true)⟩ (c_X9_takeOp l D cy A X hst hXT e0 tk hXE mi hXL Gv o ow ed qv k ks ss vs tn K S V f1 f2 f3 ja ol pi jat jn wf ta on oe kk fv dv v_o v_k v_ks v_ss v_vs hTP (by first | omega | (simp only []; omega)) v_ja v_ow hls (by omega) hops hnw.2 (by omega)) (tb_cw (C := RX9) 3 hT tw_958 tw_106 tw_955 tw_957 tw_29 rfl rfl hq_X9_takeOp ⟨Nat.le_of_ble_eq_true rfl, Nat.le_of_ble_eq_true rfl⟩) (mk_preC hst hG hK hA hX hS vc_10 v_o) rfl rfl hl.1 rfl (lv_room (Nat.le_of_ble_eq_true rfl)) dX9_takeJob_106 ⟨(by show _ ≤ 166; omega), (by show _ ≤ 1064 + gco nC; have h1 := slj_mono (kk + 1) (by omega); have h2 := slj_81; have h3 : slj (kk + 1) = slj kk + 9 + gco kk := rfl; omega)⟩) hS (fun q _ h => h) (fun q h => h) (fun r85 G86 t H locs ht hvm hw hB hz1 hk1 hS => ?_)
              have hG : mm D vwCl A G86 H := by rw [← ht]; exact hB
              clear hB hz1 hk1 hvm ht
              obtain ⟨y88, ey88⟩ : ∃ y, y = q_op K S V ta on kk qv wf := ⟨_, rfl⟩
              rw [← ey88] at hw
              have ly88 : y88.1.1 ≤ qv.1 + 5 := by rw [ey88]; exact q_op_le
              obtain ⟨er85, oa, oe2, hoaN, h87_1, h87_2, hls2, hoe2, hops2, hf9⟩ := hw
              have k89 : G86 k = some (.inr (13, [.ref ks, .ref ss, .ref vs, .int (nI tn)])) := hf9 _ _ v_k (mm_ne_oo v_k v_o (by decide)) (mm_ne_oa v_k v_ow) (Ne.symm (hls.ne v_k (by decide))) (fun h1 => LiS.nea hls h1 v_k)
              have k90 : G86 ks = some (.inl (cy 5, 2001, .inr (.inr (.inr (.inr f1))))) := hf9 _ _ v_ks (mm_ne_ao v_ks v_o) (mm_ne_e v_ks v_ow (fun z => by have z2 := (Prod.mk.inj (Prod.mk.inj (Sum.inl.inj z)).2).2; cases z2)) (Ne.symm (LiS.nal hls v_ks)) (fun h1 => LiS.nar hls h1 v_ks (by intro gv9 z; have z2 := (Prod.mk.inj (Prod.mk.inj (Sum.inl.inj z)).2); first | (exact absurd z2.1 (cpf_ne _)) | (cases z2.2)))
              have k91 : G86 ss = some (.inl (cy 1, 2001, .inl f2)) := hf9 _ _ v_ss (mm_ne_ao v_ss v_o) (mm_ne_n v_ss v_ow (by decide)) (Ne.symm (LiS.nal hls v_ss)) (fun h1 => LiS.nar hls h1 v_ss (by intro gv9 z; have z2 := (Prod.mk.inj (Prod.mk.inj (Sum.inl.inj z)).2); first | (exact absurd z2.1 (cpf_ne _)) | (cases z2.2)))
              have k92 : G86 vs = some (.inl (cy 2, 2001, .inr (.inl f3))) := hf9 _ _ v_vs (mm_ne_ao v_vs v_o) (mm_ne_e v_vs v_ow (fun z => by have z2 := (Prod.mk.inj (Prod.mk.inj (Sum.inl.inj z)).2).2; cases z2)) (Ne.symm (LiS.nal hls v_vs)) (fun h1 => LiS.nar hls h1 v_vs (by intro gv9 z; have z2 := (Prod.mk.inj (Prod.mk.inj (Sum.inl.inj z)).2); first | (exact absurd z2.1 (cpf_ne _)) | (cases z2.2)))
              have k93 : G86 ed = some (.inr (3, [.ref lc, .ref ly, .ref lsv, .ref lco, .ref lva, .ref ljo, .ref na, .int nc, va_rf iu, .int wa, va_rf rs])) := hf9 _ _ v_ed (mm_ne_oo v_ed v_o (by decide)) (mm_ne_oa v_ed v_ow) (Ne.symm (hls.ne v_ed (by decide))) (fun h1 => LiS.nea hls h1 v_ed)
              have k94 : G86 ja = some (.inr (5, [.int jat, .long jn, .ref ol, .ref pi, .int 0])) := hf9 _ _ v_ja (mm_ne_oo v_ja v_o (by decide)) (mm_ne_oa v_ja v_ow) (Ne.symm (hls.ne v_ja (by decide))) (fun h1 => LiS.nea hls h1 v_ja)
              have k96 : G86 pi = some (.inl (cy 2, 16, .inr (.inl (fun _ => 0)))) := hf9 _ _ v_pi (mm_ne_ao v_pi v_o) (mm_ne_e v_pi v_ow (fun z => by have z2 := (Prod.mk.inj (Prod.mk.inj (Sum.inl.inj z)).2).2; cases z2)) (Ne.symm (LiS.nal hls v_pi)) (fun h1 => LiS.nar hls h1 v_pi (by intro gv9 z; have z2 := (Prod.mk.inj (Prod.mk.inj (Sum.inl.inj z)).2); first | (exact absurd z2.1 (cpf_ne _)) | (cases z2.2)))
              rw [er85]
              refine lv_istore_n (lv' := [(3, .int (nI y88.2.1)), (0, .ref o), (1, .ref ja), (2, .int (nI ta)), (4, .int (nI kk))]) hx hb dX9_takeJob_109 rfl hl (by decide) rfl (fun ls hl => ?_)
              obtain ⟨x97, ex97⟩ : ∃ y : Int32, y = (nI ta) + 1 := ⟨_, rfl⟩
              refine lv_iinc (v := x97) (lv' := [(2, .int x97), (3, .int (nI y88.2.1)), (0, .ref o), (1, .ref ja), (4, .int (nI kk))]) hx hb dX9_takeJob_110 hl (k := 3) rfl (by rw [ex97]; rfl) (by decide) rfl (fun ls hl => ?_)
              obtain ⟨x98, ex98⟩ : ∃ y : Int32, y = (nI kk) + 1 := ⟨_, rfl⟩
              refine lv_iinc (v := x98) (lv' := [(4, .int x98), (2, .int x97), (3, .int (nI y88.2.1)), (0, .ref o), (1, .ref ja)]) hx hb dX9_takeJob_113 hl (k := 4) rfl (by rw [ex98]; rfl) (by decide) rfl (fun ls hl => ?_)
              refine lv_goto (tgt := 45) hx hb dX9_takeJob_116 (by decide) ?_
              have hon0 : ¬ 0 < on := fun z => absurd c_53 (nI_nle z (by omega))
              have hA1 : ¬ (0 < on ∧ se K qv.1 qv.2 5 = true) := fun z => hon0 z.1
              have hs2 : isO (K qv.1) = true := by rw [er43] at c_92; revert c_92; cases isO (K qv.1) <;> simp [b2i]
              have hA2 : isO (K qv.1) = true ∧ qv.2 < 0 := ⟨hs2, Int32.not_le.mp c_99⟩
              rw [show x98 = nI (kk + 1) by rw [ex98]; exact (nI_succ kk).symm] at hl
              rw [show x97 = nI (ta + 1) by rw [ex97]; exact (nI_succ ta).symm] at hl
              have hq2 : q_ops K S V n (kk + 1) (ta + 1) y88.2.1 y88.2.2.1 (upO dv kk y88.2.2.2) y88.1 = (nF, dF, qF) := by
                rw [← hq]
                show _ = q_ops K S V (n + 1) kk ta on wf dv qv
                rw [q_ops, if_neg hA1, if_pos hA2, ← ey88]
              have hon3 := q_op_on (K := K) (S := S) (V := V) (ta := ta) (nC := kk) (q := qv) (wf := wf) hon hwi
              rw [← ey88] at hon3
              have hfr2 : ∀ (x : Nat) (e : va_E), G x = some e → x ≠ o → x ≠ ow → G86 x = some e := fun x e h0 n1 n2 => hf9 x e (hfr x e h0 n1 n2) n1 n2 (fun z => by rw [z, holN] at h0; cases h0) (fun h1 z => by rw [z, hoe h1] at h0; cases h0)
              have hnb : ∀ q9, Gv q9 = none → G q9 = none := by
                intro q9 h9
                cases hz : G q9 with
                | none => rfl
                | some e9 => rw [hfr q9 e9 hz (fun z => by rw [z, v_o] at h9; cases h9) (fun z => by rw [z, v_ow] at h9; cases h9)] at h9; cases h9
              have hoe3 : 1 ≤ kk + 1 → G oe2 = none := by
                intro _
                rcases hoe2 with ⟨h1, h2⟩ | h2
                · rw [h2]; exact hoe h1
                · exact hnb _ h2
              have hne : ∀ i, i < kk → fv i ≠ oa := fun i hi z => by have z2 := hops i hi; rw [z, hoaN] at z2; cases z2
              have hnw2 : NW G (kk + 1) (fup fv kk oa) := NW.up (Gv := Gv) hnw (hnb _ hoaN) hne
              refine W.widen (k := 3 + 2 * (kk + 1)) (n := 24 + slj (kk + 1)) (by omega) (by show _ ≤ 24 + (slj kk + 9 + gco kk); omega) ?_
              exact ih (kk + 1) (ta + 1) y88.2.1 nF y88.1 qF ja ol oe2 pi jat jn y88.2.2.1 (fup fv kk oa) (upO dv kk y88.2.2.2) dF (by omega) hq2 hZ (by omega) hjaN holN hpiN (by omega) hon3.1 hon3.2 G86 h87_1 k89 k90 k91 k92 k93 k94 h87_2 k96 hls2 hops2 hfr2 hoe3 hnw2 _ _ hG hS ls (lv_sub hl [3, 4, 1, 2, 0] rfl)
        · skip
          refine lv_aload_n hx hb dX9_takeJob_56 rfl (lv_at hl 0 rfl) ?_
          refine va_gets (v := .ref (tk 5)) hx hb (show va_Z "DescribeText$Token" "CLOSE" "LDescribeText$Token;" (.ref (tk 5)) A s s.heap from (hE.2.1 5 (by decide)).1) hS hown (tb_use hT tw_655) (fun _ h9 => h9) dX9_takeJob_57 ?_
          refine va_calli (va_runV (As := [.ref (tk 5)]) (rest := []) ⟨hx, hb, hml, hown, (fun _ h9 => absurd h9 List.not_mem_nil : ∀ w ∈ ([] : List Cond), w.before _ s = true)⟩ (c_X9_sees l D cy A X hst hXT e0 tk hXE Gv o ow ed qv k ks ss vs tn K S V f1 f2 f3 5 v_o v_k v_ks v_ss v_vs hTP (by first | omega | (simp only []; omega)) (by decide)) (tb_cw (C := RX9) 1 hT tw_437 tw_106 tw_434 tw_436 tw_6 rfl rfl hq_X9_sees ⟨Nat.le_of_ble_eq_true rfl, Nat.le_of_ble_eq_true rfl⟩) (mk_preC hst hG hK hA hX hS vc_10 v_o) rfl rfl hl.1 rfl (lv_room (Nat.le_of_ble_eq_true rfl)) dX9_takeJob_60 ⟨(by show _ ≤ 166; omega), (by show _ ≤ 1064 + gco nC; first | omega | (have h1 := slj_mono kk (by omega); have h2 := slj_81; omega))⟩) hS (fun q _ h => h) (fun q h => h) (fun r99 G100 t H locs ht hvm hw hB hz1 hk1 hS => ?_)
          have hG : mm D vwCl A G100 H := by rw [← ht]; exact hB
          clear hB hz1 hk1 hvm ht
          obtain ⟨er99, hw⟩ := hw
          rw [hw] at hG
          refine lv_if_eq (tgt := 78) hx hb dX9_takeJob_63 (by decide) (fun c_63 => ?_) (fun c_63 => ?_)
          · skip
            refine lv_aload_n hx hb dX9_takeJob_78 rfl (lv_at hl 0 rfl) ?_
            refine mm_get (v := .ref k) hx hb hf_X9 (fun _ h9 => h9) hown hK hG v_o rfl 0 (by decide) (tb_use hT tw_177) (fun _ h9 => h9) rfl dX9_takeJob_79 ?_
            refine lv_aload_n hx hb dX9_takeJob_82 rfl (lv_at hl 0 rfl) ?_
            refine mm_get (v := .int (nI qv.1)) hx hb hf_X9 (fun _ h9 => h9) hown hK hG v_o rfl 3 (by decide) (tb_use hT tw_180) (fun _ h9 => h9) rfl dX9_takeJob_83 ?_
            refine va_callq (va_runV (As := [.int (nI qv.1)]) (rest := []) ⟨hx, hb, hml, hown, (fun _ h9 => absurd h9 List.not_mem_nil : ∀ w ∈ ([] : List Cond), w.before _ s = true)⟩ (c_X12_kind l D cy A X hst hXT e0 tk hXE Gv k ks ss vs tn K S V f1 f2 f3 qv.1 v_k v_ks v_ss v_vs hTP (by first | omega | (simp only []; omega))) (tb_cw (C := RX12) 1 hT tw_441 tw_107 tw_438 tw_439 tw_440 rfl rfl hq_X12_kind ⟨Nat.le_of_ble_eq_true rfl, Nat.le_of_ble_eq_true rfl⟩) (mk_preC hst hG hK hA hX hS vc_13 v_k) rfl rfl hl.1 rfl (lv_room (Nat.le_of_ble_eq_true rfl)) dX9_takeJob_86 ⟨(by show _ ≤ 166; omega), (by show _ ≤ 1064 + gco nC; first | omega | (have h1 := slj_mono kk (by omega); have h2 := slj_81; omega))⟩) hS (fun q _ h => h) (fun q h => h) (fun r101 G102 t H locs ht hvm hw hB hz1 hk1 hS => ?_)
            have hG : mm D vwCl A G102 H := by rw [← ht]; exact hB
            clear hB hz1 hk1 hvm ht
            obtain ⟨rfl, hw⟩ := hw
            rw [hw] at hG
            refine va_calli (va_runV (As := []) (rest := []) ⟨hx, hb, hml, hown, (fun _ h9 => absurd h9 List.not_mem_nil : ∀ w ∈ ([] : List Cond), w.before _ s = true)⟩ (c_X11_isOp l D cy A X hst hXT e0 tk hXE Gv (K qv.1) ((hTP.2.1 _).1)) (tb_cw (C := RX11) 0 hT tw_954 tw_116 tw_951 tw_952 tw_953 rfl rfl hq_X11_isOp ⟨Nat.le_of_ble_eq_true rfl, Nat.le_of_ble_eq_true rfl⟩) (mk_preT hst hG hK hA hX hS hE ((hTP.2.1 _).1)) rfl rfl hl.1 rfl (lv_room (Nat.le_of_ble_eq_true rfl)) dX9_takeJob_89 ⟨(by show _ ≤ 166; omega), (by show _ ≤ 1064 + gco nC; first | omega | (have h1 := slj_mono kk (by omega); have h2 := slj_81; omega))⟩) hS (fun q _ h => h) (fun q h => h) (fun r103 G104 t H locs ht hvm hw hB hz1 hk1 hS => ?_)
            have hG : mm D vwCl A G104 H := by rw [← ht]; exact hB
            clear hB hz1 hk1 hvm ht
            obtain ⟨er103, hw⟩ := hw
            rw [hw] at hG
            refine lv_if_eq (tgt := 119) hx hb dX9_takeJob_92 (by decide) (fun c_92 => ?_) (fun c_92 => ?_)
            · skip
              refine lv_aload_n hx hb dX9_takeJob_119 rfl (lv_at hl 0 rfl) ?_
              refine va_gets (v := .ref (tk 5)) hx hb (show va_Z "DescribeText$Token" "CLOSE" "LDescribeText$Token;" (.ref (tk 5)) A s s.heap from (hE.2.1 5 (by decide)).1) hS hown (tb_use hT tw_655) (fun _ h9 => h9) dX9_takeJob_120 ?_
              refine va_callv (va_runV (As := [.ref (tk 5)]) (rest := []) ⟨hx, hb, hml, hown, (fun _ h9 => absurd h9 List.not_mem_nil : ∀ w ∈ ([] : List Cond), w.before _ s = true)⟩ (c_X9_take l D cy A X hst hXT e0 tk hXE Gv o ow ed qv k ks ss vs tn K S V f1 f2 f3 5 v_o v_k v_ks v_ss v_vs hTP (by first | omega | (simp only []; omega)) (by decide)) (tb_cw (C := RX9) 1 hT tw_539 tw_106 tw_536 tw_538 tw_12 rfl rfl hq_X9_take ⟨Nat.le_of_ble_eq_true rfl, Nat.le_of_ble_eq_true rfl⟩) (mk_preC hst hG hK hA hX hS vc_10 v_o) rfl rfl hl.1 rfl (lv_room (Nat.le_of_ble_eq_true rfl)) dX9_takeJob_123 ⟨(by show _ ≤ 166; omega), (by show _ ≤ 1064 + gco nC; first | omega | (have h1 := slj_mono kk (by omega); have h2 := slj_81; omega))⟩) hS (fun q _ h => h) (fun q h => h) (fun  G105 t H locs ht hvm hw hB hz1 hk1 hS => ?_)
              have hG : mm D vwCl A G105 H := by rw [← ht]; exact hB
              clear hB hz1 hk1 hvm ht
              obtain ⟨y106, ey106⟩ : ∃ y, y = q_take K S 5 qv := ⟨_, rfl⟩
              rw [← ey106] at hw
              have ly106 : y106.1 ≤ qv.1 + 1 := by rw [ey106]; exact q_take_le
              have eG105 := hw
              clear hw
              have k107 : G105 o = some (.inr (10, [.ref k, .ref ow, .ref ed, .int (nI y106.1), .int y106.2])) := by rw [eG105]; exact mm_set_self
              have k108 : G105 k = some (.inr (13, [.ref ks, .ref ss, .ref vs, .int (nI tn)])) := by rw [eG105]; exact mm_set_of v_k (mm_ne_oo v_k v_o (by decide))
              have k109 : G105 ks = some (.inl (cy 5, 2001, .inr (.inr (.inr (.inr f1))))) := by rw [eG105]; exact mm_set_of v_ks (mm_ne_ao v_ks v_o)
              have k110 : G105 ss = some (.inl (cy 1, 2001, .inl f2)) := by rw [eG105]; exact mm_set_of v_ss (mm_ne_ao v_ss v_o)
              have k111 : G105 vs = some (.inl (cy 2, 2001, .inr (.inl f3))) := by rw [eG105]; exact mm_set_of v_vs (mm_ne_ao v_vs v_o)
              have k112 : G105 ed = some (.inr (3, [.ref lc, .ref ly, .ref lsv, .ref lco, .ref lva, .ref ljo, .ref na, .int nc, va_rf iu, .int wa, va_rf rs])) := by rw [eG105]; exact mm_set_of v_ed (mm_ne_oo v_ed v_o (by decide))
              have k113 : G105 ja = some (.inr (5, [.int jat, .long jn, .ref ol, .ref pi, .int 0])) := by rw [eG105]; exact mm_set_of v_ja (mm_ne_oo v_ja v_o (by decide))
              have k114 : G105 ow = some (.inl (cy 1, 3, .inl wf)) := by rw [eG105]; exact mm_set_of v_ow (mm_ne_ao v_ow v_o)
              have k115 : G105 pi = some (.inl (cy 2, 16, .inr (.inl (fun _ => 0)))) := by rw [eG105]; exact mm_set_of v_pi (mm_ne_ao v_pi v_o)
              refine lv_aload_n hx hb dX9_takeJob_126 rfl (lv_at hl 0 rfl) ?_
              refine mm_get (v := .ref ed) hx hb hf_X9 (fun _ h9 => h9) hown hK hG k107 rfl 2 (by decide) (tb_use hT tw_179) (fun _ h9 => h9) rfl dX9_takeJob_127 ?_
              refine mm_getN (v := .ref ljo) hx hb hf_X2 (fun _ h9 => h9) hown hK hG k112 rfl 5 (by decide) (tb_use hT tw_293) (fun _ h9 => h9) rfl dX9_takeJob_130 ?_
              refine lv_aload_n hx hb dX9_takeJob_133 rfl (lv_at hl 1 rfl) ?_
              have hfV : ∀ (x : Nat) (e : va_E), Gv x = some e → x ≠ o → G105 x = some e := by
                intro x e z0 n_o
                have z1 : G105 x = some e := by rw [eG105]; exact mm_set_of z0 n_o
                exact z1
              have hLp : LiS cy e0 G105 ol oe kk fv := LiS.fr2 (fun x => x ≠ o) hls hfV (hls.ne v_o (by decide)) (fun v _ hv => mm_ne_ao hv v_o)
              have hPp : OPS tk G105 kk fv dv := fun i hi => hfV _ _ (hops i hi) (mm_ne_oo (hops i hi) v_o (by decide))
              have hB117 : ∀ (x : Nat) (e : va_E), G x = some e → x ≠ o → x ≠ ow → G105 x = some e := fun x e h0 n1 n2 => hfV x e (hfr x e h0 n1 n2) n1
              have hL116 : LiS cy e0 G105 ljo ec nC fC := LiS.fr2 (fun x => x ≠ o ∧ x ≠ ow) hlc (fun x e h0 hp => hB117 x e h0 hp.1 hp.2) ⟨hlc.ne h0 (by decide), LiS.nal hlc hwf⟩ (fun v h1 hv => ⟨mm_ne_ao hv h0, Ne.symm (LiS.nar hlc h1 hwf (by intro gv9 z; have z2 := (Prod.mk.inj (Prod.mk.inj (Sum.inl.inj z)).2); first | (exact absurd z2.1 (cpf_ne _)) | (cases z2.2)))⟩)
              have hLO2 : LO G105 nC fC := fun j hj => by obtain ⟨fs, z⟩ := hLT j hj; exact ⟨5, fs, _, hB117 _ _ z (mm_ne_oo z h0 (by decide)) (mm_ne_oa z hwf), rfl, tw_1918, by decide⟩
              obtain ⟨mo120, h_mo120, -⟩ := id hL116
              refine va_calli (va_runV (As := [.ref ja]) (rest := []) ⟨hx, hb, hml, hown, (fun _ h9 => absurd h9 List.not_mem_nil : ∀ w ∈ ([] : List Cond), w.before _ s = true)⟩ (c_LS_add l D cy A X hst hXT e0 tk hXE mi hXL G105 ljo ec nC fC ja 5 _ _ hL116 hLO2 (by omega) k113 rfl (by decide) tw_1918) (tb_cw (C := RJx4a65c) 1 hT tw_597 tw_113 tw_594 tw_595 tw_596 rfl rfl hq_Jx4a65c_add_9ea2d ⟨Nat.le_of_ble_eq_true rfl, Nat.le_of_ble_eq_true rfl⟩) (mk_preC hst hG hK hA hX hS vc_1 h_mo120) rfl rfl hl.1 rfl (lv_room (Nat.le_of_ble_eq_true rfl)) dX9_takeJob_134 ⟨(by show _ ≤ 166; omega), (by show _ ≤ 1064 + gco nC; first | omega | (have h1 := slj_mono kk (by omega); have h2 := slj_81; omega))⟩) hS (fun q _ h => h) (fun q h => h) (fun r119 G118 t H locs ht hvm hw hB hz1 hk1 hS => ?_)
              have hG : mm D vwCl A G118 H := by rw [← ht]; exact hB
              clear hB hz1 hk1 hvm ht
              obtain ⟨ec2, hlc2, hec2, hf2⟩ := hw
              have hf3 : ∀ (x ci : Nat) (fs : List Value), G105 x = some (.inr (ci, fs)) → ci ≠ 1 → G118 x = some (.inr (ci, fs)) := fun x ci fs h0 hc => hf2 x _ h0 (Ne.symm (hL116.ne h0 hc)) (fun h1 => LiS.nea hL116 h1 h0)
              have k121 : G118 o = some (.inr (10, [.ref k, .ref ow, .ref ed, .int (nI y106.1), .int y106.2])) := hf3 _ _ _ k107 (by decide)
              have k122 : G118 ow = some (.inl (cy 1, 3, .inl wf)) := hf2 _ _ k114 (Ne.symm (LiS.nal hL116 k114)) (fun h1 => LiS.nar hL116 h1 k114 (by intro gv9 z; have z2 := (Prod.mk.inj (Prod.mk.inj (Sum.inl.inj z)).2); first | (exact absurd z2.1 (cpf_ne _)) | (cases z2.2)))
              have k123 : G118 ja = some (.inr (5, [.int jat, .long jn, .ref ol, .ref pi, .int 0])) := hf3 _ _ _ k113 (by decide)
              have k124 : G118 pi = some (.inl (cy 2, 16, .inr (.inl (fun _ => 0)))) := hf2 _ _ k115 (Ne.symm (LiS.nal hL116 k115)) (fun h1 => LiS.nar hL116 h1 k115 (by intro gv9 z; have z2 := (Prod.mk.inj (Prod.mk.inj (Sum.inl.inj z)).2); first | (exact absurd z2.1 (cpf_ne _)) | (cases z2.2)))
              have hec3 : (1 ≤ nC ∧ ec2 = ec) ∨ G ec2 = none := by
                rcases hec2 with h1 | h1
                · exact Or.inl h1
                · refine Or.inr ?_
                  cases hz : G ec2 with
                  | none => rfl
                  | some e9 => rw [hB117 ec2 e9 hz (fun z => by rw [z, k107] at h1; cases h1) (fun z => by rw [z, k114] at h1; cases h1)] at h1; cases h1
              have hfr9 : ∀ (x : Nat) (e : va_E), G x = some e → x ≠ o → x ≠ ow → x ≠ ljo → (1 ≤ nC → x ≠ ec) → G118 x = some e := fun x e h0 n1 n0 n2 n3 => hf2 x e (hB117 x e h0 n1 n0) n2 n3
              have npl : ol ≠ ljo := fun z => by obtain ⟨_, z2, -⟩ := hlc; rw [← z, holN] at z2; cases z2
              have npe : 1 ≤ kk → oe ≠ ec2 := by
                intro h1 z
                obtain ⟨v, hv⟩ := hLp.arr h1
                rcases hec2 with ⟨h2, h3⟩ | h2
                · obtain ⟨v2, hv2⟩ := hlc.arr h2
                  rw [← h3, ← z, hoe h1] at hv2; cases hv2
                · rw [← z, hv] at h2; cases h2
              have hLp2 : LiS cy e0 G118 ol oe kk fv := LiS.fr2 (fun x => x ≠ ljo ∧ (1 ≤ nC → x ≠ ec)) hLp (fun x e h0 hp => hf2 x e h0 hp.1 hp.2) ⟨npl, fun h1 z => (by obtain ⟨v2, hv2⟩ := hlc.arr h1; rw [← z, holN] at hv2; cases hv2)⟩ (fun v h1 hv => ⟨(fun z => (by obtain ⟨_, z2, -⟩ := hlc; rw [← z, hoe h1] at z2; cases z2)), (fun h2 z => (by obtain ⟨v2, hv2⟩ := hlc.arr h2; rw [← z, hoe h1] at hv2; cases hv2))⟩)
              have hPp2 : OPS tk G118 kk fv dv := fun i hi => hf3 _ _ _ (hPp i hi) (by decide)
              refine lv_pop hx hb dX9_takeJob_137 rfl ?_
              have hon1 : 0 < on := Nat.pos_of_ne_zero (fun z => c_53 (by rw [z]; decide))
              have hs1 : se K qv.1 qv.2 5 = false := by rw [er99] at c_63; revert c_63; cases se K qv.1 qv.2 5 <;> simp [b2i]
              have hA1 : ¬ (0 < on ∧ se K qv.1 qv.2 5 = true) := fun z => by rw [hs1] at z; cases z.2
              have hs2 : isO (K qv.1) = false := by rw [er103] at c_92; revert c_92; cases isO (K qv.1) <;> simp [b2i]
              have hA2 : ¬ (isO (K qv.1) = true ∧ qv.2 < 0) := fun z => by rw [hs2] at z; cases z.1
              have hqq : (kk, dv, qv) = (nF, dF, qF) := by rw [← hq, q_ops, if_neg hA1, if_neg hA2]
              have e1 : nF = kk := (congrArg (fun z => z.1) hqq).symm
              have e2 : dF = dv := (congrArg (fun z => z.2.1) hqq).symm
              have e3 : qF = qv := (congrArg (fun z => z.2.2) hqq).symm
              refine W.widen (k := 166) (n := (1064 + gco nC)) (by omega) (by have h1 := slj_mono kk (by omega); have h2 := slj_81; omega) ?_
              exact W.vret hx hb hr (fun t ht hW => ⟨⟨_, rfl, (by rw [hZ, e1, e2, e3, ← ey106]; exact ⟨ja, ol, oe, pi, fv, ec2, wf, hjaN, holN, hpiN, hoe, k121, k122, hlc2, hec3, k123, k124, hLp2, hPp2, hnw, npe, hfr9⟩), mk_end hG ht⟩, hS.F ht⟩) hS.2.2 dX9_takeJob_138
            · skip
              refine lv_aload_n hx hb dX9_takeJob_95 rfl (lv_at hl 0 rfl) ?_
              refine mm_get (v := .int qv.2) hx hb hf_X9 (fun _ h9 => h9) hown hK hG v_o rfl 4 (by decide) (tb_use hT tw_181) (fun _ h9 => h9) rfl dX9_takeJob_96 ?_
              refine lv_if_ge (tgt := 119) hx hb dX9_takeJob_99 (by decide) (fun c_99 => ?_) (fun c_99 => ?_)
              · skip
                refine lv_aload_n hx hb dX9_takeJob_119 rfl (lv_at hl 0 rfl) ?_
                refine va_gets (v := .ref (tk 5)) hx hb (show va_Z "DescribeText$Token" "CLOSE" "LDescribeText$Token;" (.ref (tk 5)) A s s.heap from (hE.2.1 5 (by decide)).1) hS hown (tb_use hT tw_655) (fun _ h9 => h9) dX9_takeJob_120 ?_
                refine va_callv (va_runV (As := [.ref (tk 5)]) (rest := []) ⟨hx, hb, hml, hown, (fun _ h9 => absurd h9 List.not_mem_nil : ∀ w ∈ ([] : List Cond), w.before _ s = true)⟩ (c_X9_take l D cy A X hst hXT e0 tk hXE Gv o ow ed qv k ks ss vs tn K S V f1 f2 f3 5 v_o v_k v_ks v_ss v_vs hTP (by first | omega | (simp only []; omega)) (by decide)) (tb_cw (C := RX9) 1 hT tw_539 tw_106 tw_536 tw_538 tw_12 rfl rfl hq_X9_take ⟨Nat.le_of_ble_eq_true rfl, Nat.le_of_ble_eq_true rfl⟩) (mk_preC hst hG hK hA hX hS vc_10 v_o) rfl rfl hl.1 rfl (lv_room (Nat.le_of_ble_eq_true rfl)) dX9_takeJob_123 ⟨(by show _ ≤ 166; omega), (by show _ ≤ 1064 + gco nC; first | omega | (have h1 := slj_mono kk (by omega); have h2 := slj_81; omega))⟩) hS (fun q _ h => h) (fun q h => h) (fun  G125 t H locs ht hvm hw hB hz1 hk1 hS => ?_)
                have hG : mm D vwCl A G125 H := by rw [← ht]; exact hB
                clear hB hz1 hk1 hvm ht
                obtain ⟨y126, ey126⟩ : ∃ y, y = q_take K S 5 qv := ⟨_, rfl⟩
                rw [← ey126] at hw
                have ly126 : y126.1 ≤ qv.1 + 1 := by rw [ey126]; exact q_take_le
                have eG125 := hw
                clear hw
                have k127 : G125 o = some (.inr (10, [.ref k, .ref ow, .ref ed, .int (nI y126.1), .int y126.2])) := by rw [eG125]; exact mm_set_self
                have k128 : G125 k = some (.inr (13, [.ref ks, .ref ss, .ref vs, .int (nI tn)])) := by rw [eG125]; exact mm_set_of v_k (mm_ne_oo v_k v_o (by decide))
                have k129 : G125 ks = some (.inl (cy 5, 2001, .inr (.inr (.inr (.inr f1))))) := by rw [eG125]; exact mm_set_of v_ks (mm_ne_ao v_ks v_o)
                have k130 : G125 ss = some (.inl (cy 1, 2001, .inl f2)) := by rw [eG125]; exact mm_set_of v_ss (mm_ne_ao v_ss v_o)
                have k131 : G125 vs = some (.inl (cy 2, 2001, .inr (.inl f3))) := by rw [eG125]; exact mm_set_of v_vs (mm_ne_ao v_vs v_o)
                have k132 : G125 ed = some (.inr (3, [.ref lc, .ref ly, .ref lsv, .ref lco, .ref lva, .ref ljo, .ref na, .int nc, va_rf iu, .int wa, va_rf rs])) := by rw [eG125]; exact mm_set_of v_ed (mm_ne_oo v_ed v_o (by decide))
                have k133 : G125 ja = some (.inr (5, [.int jat, .long jn, .ref ol, .ref pi, .int 0])) := by rw [eG125]; exact mm_set_of v_ja (mm_ne_oo v_ja v_o (by decide))
                have k134 : G125 ow = some (.inl (cy 1, 3, .inl wf)) := by rw [eG125]; exact mm_set_of v_ow (mm_ne_ao v_ow v_o)
                have k135 : G125 pi = some (.inl (cy 2, 16, .inr (.inl (fun _ => 0)))) := by rw [eG125]; exact mm_set_of v_pi (mm_ne_ao v_pi v_o)
                refine lv_aload_n hx hb dX9_takeJob_126 rfl (lv_at hl 0 rfl) ?_
                refine mm_get (v := .ref ed) hx hb hf_X9 (fun _ h9 => h9) hown hK hG k127 rfl 2 (by decide) (tb_use hT tw_179) (fun _ h9 => h9) rfl dX9_takeJob_127 ?_
                refine mm_getN (v := .ref ljo) hx hb hf_X2 (fun _ h9 => h9) hown hK hG k132 rfl 5 (by decide) (tb_use hT tw_293) (fun _ h9 => h9) rfl dX9_takeJob_130 ?_
                refine lv_aload_n hx hb dX9_takeJob_133 rfl (lv_at hl 1 rfl) ?_
                have hfV : ∀ (x : Nat) (e : va_E), Gv x = some e → x ≠ o → G125 x = some e := by
                  intro x e z0 n_o
                  have z1 : G125 x = some e := by rw [eG125]; exact mm_set_of z0 n_o
                  exact z1
                have hLp : LiS cy e0 G125 ol oe kk fv := LiS.fr2 (fun x => x ≠ o) hls hfV (hls.ne v_o (by decide)) (fun v _ hv => mm_ne_ao hv v_o)
                have hPp : OPS tk G125 kk fv dv := fun i hi => hfV _ _ (hops i hi) (mm_ne_oo (hops i hi) v_o (by decide))
                have hB137 : ∀ (x : Nat) (e : va_E), G x = some e → x ≠ o → x ≠ ow → G125 x = some e := fun x e h0 n1 n2 => hfV x e (hfr x e h0 n1 n2) n1
                have hL136 : LiS cy e0 G125 ljo ec nC fC := LiS.fr2 (fun x => x ≠ o ∧ x ≠ ow) hlc (fun x e h0 hp => hB137 x e h0 hp.1 hp.2) ⟨hlc.ne h0 (by decide), LiS.nal hlc hwf⟩ (fun v h1 hv => ⟨mm_ne_ao hv h0, Ne.symm (LiS.nar hlc h1 hwf (by intro gv9 z; have z2 := (Prod.mk.inj (Prod.mk.inj (Sum.inl.inj z)).2); first | (exact absurd z2.1 (cpf_ne _)) | (cases z2.2)))⟩)
                have hLO2 : LO G125 nC fC := fun j hj => by obtain ⟨fs, z⟩ := hLT j hj; exact ⟨5, fs, _, hB137 _ _ z (mm_ne_oo z h0 (by decide)) (mm_ne_oa z hwf), rfl, tw_1918, by decide⟩
                obtain ⟨mo140, h_mo140, -⟩ := id hL136
                refine va_calli (va_runV (As := [.ref ja]) (rest := []) ⟨hx, hb, hml, hown, (fun _ h9 => absurd h9 List.not_mem_nil : ∀ w ∈ ([] : List Cond), w.before _ s = true)⟩ (c_LS_add l D cy A X hst hXT e0 tk hXE mi hXL G125 ljo ec nC fC ja 5 _ _ hL136 hLO2 (by omega) k133 rfl (by decide) tw_1918) (tb_cw (C := RJx4a65c) 1 hT tw_597 tw_113 tw_594 tw_595 tw_596 rfl rfl hq_Jx4a65c_add_9ea2d ⟨Nat.le_of_ble_eq_true rfl, Nat.le_of_ble_eq_true rfl⟩) (mk_preC hst hG hK hA hX hS vc_1 h_mo140) rfl rfl hl.1 rfl (lv_room (Nat.le_of_ble_eq_true rfl)) dX9_takeJob_134 ⟨(by show _ ≤ 166; omega), (by show _ ≤ 1064 + gco nC; first | omega | (have h1 := slj_mono kk (by omega); have h2 := slj_81; omega))⟩) hS (fun q _ h => h) (fun q h => h) (fun r139 G138 t H locs ht hvm hw hB hz1 hk1 hS => ?_)
                have hG : mm D vwCl A G138 H := by rw [← ht]; exact hB
                clear hB hz1 hk1 hvm ht
                obtain ⟨ec2, hlc2, hec2, hf2⟩ := hw
                have hf3 : ∀ (x ci : Nat) (fs : List Value), G125 x = some (.inr (ci, fs)) → ci ≠ 1 → G138 x = some (.inr (ci, fs)) := fun x ci fs h0 hc => hf2 x _ h0 (Ne.symm (hL136.ne h0 hc)) (fun h1 => LiS.nea hL136 h1 h0)
                have k141 : G138 o = some (.inr (10, [.ref k, .ref ow, .ref ed, .int (nI y126.1), .int y126.2])) := hf3 _ _ _ k127 (by decide)
                have k142 : G138 ow = some (.inl (cy 1, 3, .inl wf)) := hf2 _ _ k134 (Ne.symm (LiS.nal hL136 k134)) (fun h1 => LiS.nar hL136 h1 k134 (by intro gv9 z; have z2 := (Prod.mk.inj (Prod.mk.inj (Sum.inl.inj z)).2); first | (exact absurd z2.1 (cpf_ne _)) | (cases z2.2)))
                have k143 : G138 ja = some (.inr (5, [.int jat, .long jn, .ref ol, .ref pi, .int 0])) := hf3 _ _ _ k133 (by decide)
                have k144 : G138 pi = some (.inl (cy 2, 16, .inr (.inl (fun _ => 0)))) := hf2 _ _ k135 (Ne.symm (LiS.nal hL136 k135)) (fun h1 => LiS.nar hL136 h1 k135 (by intro gv9 z; have z2 := (Prod.mk.inj (Prod.mk.inj (Sum.inl.inj z)).2); first | (exact absurd z2.1 (cpf_ne _)) | (cases z2.2)))
                have hec3 : (1 ≤ nC ∧ ec2 = ec) ∨ G ec2 = none := by
                  rcases hec2 with h1 | h1
                  · exact Or.inl h1
                  · refine Or.inr ?_
                    cases hz : G ec2 with
                    | none => rfl
                    | some e9 => rw [hB137 ec2 e9 hz (fun z => by rw [z, k127] at h1; cases h1) (fun z => by rw [z, k134] at h1; cases h1)] at h1; cases h1
                have hfr9 : ∀ (x : Nat) (e : va_E), G x = some e → x ≠ o → x ≠ ow → x ≠ ljo → (1 ≤ nC → x ≠ ec) → G138 x = some e := fun x e h0 n1 n0 n2 n3 => hf2 x e (hB137 x e h0 n1 n0) n2 n3
                have npl : ol ≠ ljo := fun z => by obtain ⟨_, z2, -⟩ := hlc; rw [← z, holN] at z2; cases z2
                have npe : 1 ≤ kk → oe ≠ ec2 := by
                  intro h1 z
                  obtain ⟨v, hv⟩ := hLp.arr h1
                  rcases hec2 with ⟨h2, h3⟩ | h2
                  · obtain ⟨v2, hv2⟩ := hlc.arr h2
                    rw [← h3, ← z, hoe h1] at hv2; cases hv2
                  · rw [← z, hv] at h2; cases h2
                have hLp2 : LiS cy e0 G138 ol oe kk fv := LiS.fr2 (fun x => x ≠ ljo ∧ (1 ≤ nC → x ≠ ec)) hLp (fun x e h0 hp => hf2 x e h0 hp.1 hp.2) ⟨npl, fun h1 z => (by obtain ⟨v2, hv2⟩ := hlc.arr h1; rw [← z, holN] at hv2; cases hv2)⟩ (fun v h1 hv => ⟨(fun z => (by obtain ⟨_, z2, -⟩ := hlc; rw [← z, hoe h1] at z2; cases z2)), (fun h2 z => (by obtain ⟨v2, hv2⟩ := hlc.arr h2; rw [← z, hoe h1] at hv2; cases hv2))⟩)
                have hPp2 : OPS tk G138 kk fv dv := fun i hi => hf3 _ _ _ (hPp i hi) (by decide)
                refine lv_pop hx hb dX9_takeJob_137 rfl ?_
                have hon1 : 0 < on := Nat.pos_of_ne_zero (fun z => c_53 (by rw [z]; decide))
                have hs1 : se K qv.1 qv.2 5 = false := by rw [er99] at c_63; revert c_63; cases se K qv.1 qv.2 5 <;> simp [b2i]
                have hA1 : ¬ (0 < on ∧ se K qv.1 qv.2 5 = true) := fun z => by rw [hs1] at z; cases z.2
                have hs2 : isO (K qv.1) = true := by rw [er103] at c_92; revert c_92; cases isO (K qv.1) <;> simp [b2i]
                have hA2 : ¬ (isO (K qv.1) = true ∧ qv.2 < 0) := fun z => absurd z.2 (Int32.not_lt.mpr c_99)
                have hqq : (kk, dv, qv) = (nF, dF, qF) := by rw [← hq, q_ops, if_neg hA1, if_neg hA2]
                have e1 : nF = kk := (congrArg (fun z => z.1) hqq).symm
                have e2 : dF = dv := (congrArg (fun z => z.2.1) hqq).symm
                have e3 : qF = qv := (congrArg (fun z => z.2.2) hqq).symm
                refine W.widen (k := 166) (n := (1064 + gco nC)) (by omega) (by have h1 := slj_mono kk (by omega); have h2 := slj_81; omega) ?_
                exact W.vret hx hb hr (fun t ht hW => ⟨⟨_, rfl, (by rw [hZ, e1, e2, e3, ← ey126]; exact ⟨ja, ol, oe, pi, fv, ec2, wf, hjaN, holN, hpiN, hoe, k141, k142, hlc2, hec3, k143, k144, hLp2, hPp2, hnw, npe, hfr9⟩), mk_end hG ht⟩, hS.F ht⟩) hS.2.2 dX9_takeJob_138
              · skip
                refine lv_aload_n hx hb dX9_takeJob_102 rfl (lv_at hl 0 rfl) ?_
                refine lv_aload_n hx hb dX9_takeJob_103 rfl (lv_at hl 1 rfl) ?_
                refine lv_iload_n hx hb dX9_takeJob_104 rfl (lv_at hl 2 rfl) ?_
                refine lv_iload_n hx hb dX9_takeJob_105 rfl (lv_at hl 3 rfl) ?_
                refine va_calli (va_runV (As := [.ref ja, .int (nI ta), .int (nI on)]) (rest := []) ⟨hx, hb, hml, hown, (fun _ h9 => absurd h9 List.not_mem_nil : ∀ w ∈ ([] : List Cond), w.before _ s = true)⟩ (c_X9_takeOp l D cy A X hst hXT e0 tk hXE mi hXL Gv o ow ed qv k ks ss vs tn K S V f1 f2 f3 ja ol pi jat jn wf ta on oe kk fv dv v_o v_k v_ks v_ss v_vs hTP (by first | omega | (simp only []; omega)) v_ja v_ow hls (by omega) hops hnw.2 (by omega)) (tb_cw (C := RX9) 3 hT tw_958 tw_106 tw_955 tw_957 tw_29 rfl rfl hq_X9_takeOp ⟨Nat.le_of_ble_eq_true rfl, Nat.le_of_ble_eq_true rfl⟩) (mk_preC hst hG hK hA hX hS vc_10 v_o) rfl rfl hl.1 rfl (lv_room (Nat.le_of_ble_eq_true rfl)) dX9_takeJob_106 ⟨(by show _ ≤ 166; omega), (by show _ ≤ 1064 + gco nC; have h1 := slj_mono (kk + 1) (by omega); have h2 := slj_81; have h3 : slj (kk + 1) = slj kk + 9 + gco kk := rfl; omega)⟩) hS (fun q _ h => h) (fun q h => h) (fun r145 G146 t H locs ht hvm hw hB hz1 hk1 hS => ?_)
                have hG : mm D vwCl A G146 H := by rw [← ht]; exact hB
                clear hB hz1 hk1 hvm ht
                obtain ⟨y148, ey148⟩ : ∃ y, y = q_op K S V ta on kk qv wf := ⟨_, rfl⟩
                rw [← ey148] at hw
                have ly148 : y148.1.1 ≤ qv.1 + 5 := by rw [ey148]; exact q_op_le
                obtain ⟨er145, oa, oe2, hoaN, h147_1, h147_2, hls2, hoe2, hops2, hf9⟩ := hw
                have k149 : G146 k = some (.inr (13, [.ref ks, .ref ss, .ref vs, .int (nI tn)])) := hf9 _ _ v_k (mm_ne_oo v_k v_o (by decide)) (mm_ne_oa v_k v_ow) (Ne.symm (hls.ne v_k (by decide))) (fun h1 => LiS.nea hls h1 v_k)
                have k150 : G146 ks = some (.inl (cy 5, 2001, .inr (.inr (.inr (.inr f1))))) := hf9 _ _ v_ks (mm_ne_ao v_ks v_o) (mm_ne_e v_ks v_ow (fun z => by have z2 := (Prod.mk.inj (Prod.mk.inj (Sum.inl.inj z)).2).2; cases z2)) (Ne.symm (LiS.nal hls v_ks)) (fun h1 => LiS.nar hls h1 v_ks (by intro gv9 z; have z2 := (Prod.mk.inj (Prod.mk.inj (Sum.inl.inj z)).2); first | (exact absurd z2.1 (cpf_ne _)) | (cases z2.2)))
                have k151 : G146 ss = some (.inl (cy 1, 2001, .inl f2)) := hf9 _ _ v_ss (mm_ne_ao v_ss v_o) (mm_ne_n v_ss v_ow (by decide)) (Ne.symm (LiS.nal hls v_ss)) (fun h1 => LiS.nar hls h1 v_ss (by intro gv9 z; have z2 := (Prod.mk.inj (Prod.mk.inj (Sum.inl.inj z)).2); first | (exact absurd z2.1 (cpf_ne _)) | (cases z2.2)))
                have k152 : G146 vs = some (.inl (cy 2, 2001, .inr (.inl f3))) := hf9 _ _ v_vs (mm_ne_ao v_vs v_o) (mm_ne_e v_vs v_ow (fun z => by have z2 := (Prod.mk.inj (Prod.mk.inj (Sum.inl.inj z)).2).2; cases z2)) (Ne.symm (LiS.nal hls v_vs)) (fun h1 => LiS.nar hls h1 v_vs (by intro gv9 z; have z2 := (Prod.mk.inj (Prod.mk.inj (Sum.inl.inj z)).2); first | (exact absurd z2.1 (cpf_ne _)) | (cases z2.2)))
                have k153 : G146 ed = some (.inr (3, [.ref lc, .ref ly, .ref lsv, .ref lco, .ref lva, .ref ljo, .ref na, .int nc, va_rf iu, .int wa, va_rf rs])) := hf9 _ _ v_ed (mm_ne_oo v_ed v_o (by decide)) (mm_ne_oa v_ed v_ow) (Ne.symm (hls.ne v_ed (by decide))) (fun h1 => LiS.nea hls h1 v_ed)
                have k154 : G146 ja = some (.inr (5, [.int jat, .long jn, .ref ol, .ref pi, .int 0])) := hf9 _ _ v_ja (mm_ne_oo v_ja v_o (by decide)) (mm_ne_oa v_ja v_ow) (Ne.symm (hls.ne v_ja (by decide))) (fun h1 => LiS.nea hls h1 v_ja)
                have k156 : G146 pi = some (.inl (cy 2, 16, .inr (.inl (fun _ => 0)))) := hf9 _ _ v_pi (mm_ne_ao v_pi v_o) (mm_ne_e v_pi v_ow (fun z => by have z2 := (Prod.mk.inj (Prod.mk.inj (Sum.inl.inj z)).2).2; cases z2)) (Ne.symm (LiS.nal hls v_pi)) (fun h1 => LiS.nar hls h1 v_pi (by intro gv9 z; have z2 := (Prod.mk.inj (Prod.mk.inj (Sum.inl.inj z)).2); first | (exact absurd z2.1 (cpf_ne _)) | (cases z2.2)))
                rw [er145]
                refine lv_istore_n (lv' := [(3, .int (nI y148.2.1)), (0, .ref o), (1, .ref ja), (2, .int (nI ta)), (4, .int (nI kk))]) hx hb dX9_takeJob_109 rfl hl (by decide) rfl (fun ls hl => ?_)
                obtain ⟨x157, ex157⟩ : ∃ y : Int32, y = (nI ta) + 1 := ⟨_, rfl⟩
                refine lv_iinc (v := x157) (lv' := [(2, .int x157), (3, .int (nI y148.2.1)), (0, .ref o), (1, .ref ja), (4, .int (nI kk))]) hx hb dX9_takeJob_110 hl (k := 3) rfl (by rw [ex157]; rfl) (by decide) rfl (fun ls hl => ?_)
                obtain ⟨x158, ex158⟩ : ∃ y : Int32, y = (nI kk) + 1 := ⟨_, rfl⟩
                refine lv_iinc (v := x158) (lv' := [(4, .int x158), (2, .int x157), (3, .int (nI y148.2.1)), (0, .ref o), (1, .ref ja)]) hx hb dX9_takeJob_113 hl (k := 4) rfl (by rw [ex158]; rfl) (by decide) rfl (fun ls hl => ?_)
                refine lv_goto (tgt := 45) hx hb dX9_takeJob_116 (by decide) ?_
                have hon1 : 0 < on := Nat.pos_of_ne_zero (fun z => c_53 (by rw [z]; decide))
                have hs1 : se K qv.1 qv.2 5 = false := by rw [er99] at c_63; revert c_63; cases se K qv.1 qv.2 5 <;> simp [b2i]
                have hA1 : ¬ (0 < on ∧ se K qv.1 qv.2 5 = true) := fun z => by rw [hs1] at z; cases z.2
                have hs2 : isO (K qv.1) = true := by rw [er103] at c_92; revert c_92; cases isO (K qv.1) <;> simp [b2i]
                have hA2 : isO (K qv.1) = true ∧ qv.2 < 0 := ⟨hs2, Int32.not_le.mp c_99⟩
                rw [show x158 = nI (kk + 1) by rw [ex158]; exact (nI_succ kk).symm] at hl
                rw [show x157 = nI (ta + 1) by rw [ex157]; exact (nI_succ ta).symm] at hl
                have hq2 : q_ops K S V n (kk + 1) (ta + 1) y148.2.1 y148.2.2.1 (upO dv kk y148.2.2.2) y148.1 = (nF, dF, qF) := by
                  rw [← hq]
                  show _ = q_ops K S V (n + 1) kk ta on wf dv qv
                  rw [q_ops, if_neg hA1, if_pos hA2, ← ey148]
                have hon3 := q_op_on (K := K) (S := S) (V := V) (ta := ta) (nC := kk) (q := qv) (wf := wf) hon hwi
                rw [← ey148] at hon3
                have hfr2 : ∀ (x : Nat) (e : va_E), G x = some e → x ≠ o → x ≠ ow → G146 x = some e := fun x e h0 n1 n2 => hf9 x e (hfr x e h0 n1 n2) n1 n2 (fun z => by rw [z, holN] at h0; cases h0) (fun h1 z => by rw [z, hoe h1] at h0; cases h0)
                have hnb : ∀ q9, Gv q9 = none → G q9 = none := by
                  intro q9 h9
                  cases hz : G q9 with
                  | none => rfl
                  | some e9 => rw [hfr q9 e9 hz (fun z => by rw [z, v_o] at h9; cases h9) (fun z => by rw [z, v_ow] at h9; cases h9)] at h9; cases h9
                have hoe3 : 1 ≤ kk + 1 → G oe2 = none := by
                  intro _
                  rcases hoe2 with ⟨h1, h2⟩ | h2
                  · rw [h2]; exact hoe h1
                  · exact hnb _ h2
                have hne : ∀ i, i < kk → fv i ≠ oa := fun i hi z => by have z2 := hops i hi; rw [z, hoaN] at z2; cases z2
                have hnw2 : NW G (kk + 1) (fup fv kk oa) := NW.up (Gv := Gv) hnw (hnb _ hoaN) hne
                refine W.widen (k := 3 + 2 * (kk + 1)) (n := 24 + slj (kk + 1)) (by omega) (by show _ ≤ 24 + (slj kk + 9 + gco kk); omega) ?_
                exact ih (kk + 1) (ta + 1) y148.2.1 nF y148.1 qF ja ol oe2 pi jat jn y148.2.2.1 (fup fv kk oa) (upO dv kk y148.2.2.2) dF (by omega) hq2 hZ (by omega) hjaN holN hpiN (by omega) hon3.1 hon3.2 G146 h147_1 k149 k150 k151 k152 k153 k154 h147_2 k156 hls2 hops2 hfr2 hoe3 hnw2 _ _ hG hS ls (lv_sub hl [3, 4, 1, 2, 0] rfl)
          · skip
            obtain ⟨x159, ex159⟩ : ∃ y : Int32, y = (nI on) + (-1) := ⟨_, rfl⟩
            refine lv_iinc (v := x159) (lv' := [(3, .int x159), (0, .ref o), (1, .ref ja), (2, .int (nI ta)), (4, .int (nI kk))]) hx hb dX9_takeJob_66 hl (k := 3) rfl (by rw [ex159]; rfl) (by decide) rfl (fun ls hl => ?_)
            refine lv_aload_n hx hb dX9_takeJob_69 rfl (lv_at hl 1 rfl) ?_
            refine lv_aload_n hx hb dX9_takeJob_70 rfl (lv_at hl 2 rfl) ?_
            refine lv_iload_n hx hb dX9_takeJob_71 rfl (lv_at hl 0 rfl) ?_
            have hx3 : x159 = nI (on - 1) := by rw [ex159]; exact g_dec (show 0 < on from Nat.pos_of_ne_zero (fun z => c_53 (by rw [z]; decide)))
            rw [hx3]
            have hon9 : 0 < on := Nat.pos_of_ne_zero (fun z => c_53 (by rw [z]; decide))
            obtain ⟨sx, hsn, hsx⟩ := hwi (on - 1) (by omega)
            refine va_callv (va_runV (As := [.ref ja, .int (nI (on - 1))]) (rest := []) ⟨hx, hb, hml, hown, (fun _ h9 => absurd h9 List.not_mem_nil : ∀ w ∈ ([] : List Cond), w.before _ s = true)⟩ (c_X9_closeWhile l D cy A X hst hXT e0 tk hXE mi hXL Gv o ow ed qv k ks ss vs tn K S V f1 f2 f3 ja ol pi jat jn wf (on - 1) sx oe kk fv dv v_o v_k v_ks v_ss v_vs hTP (by first | omega | (simp only []; omega)) v_ja v_ow hls (by omega) hops hnw.2 (by omega) hsx hsn) (tb_cw (C := RX9) 2 hT tw_893 tw_106 tw_890 tw_892 tw_28 rfl rfl hq_X9_closeWhile ⟨Nat.le_of_ble_eq_true rfl, Nat.le_of_ble_eq_true rfl⟩) (mk_preC hst hG hK hA hX hS vc_10 v_o) rfl rfl hl.1 rfl (lv_room (Nat.le_of_ble_eq_true rfl)) dX9_takeJob_72 ⟨(by show _ ≤ 166; omega), (by show _ ≤ 1064 + gco nC; have h1 := slj_mono (kk + 1) (by omega); have h2 := slj_81; have h3 : slj (kk + 1) = slj kk + 9 + gco kk := rfl; omega)⟩) hS (fun q _ h => h) (fun q h => h) (fun  G160 t H locs ht hvm hw hB hz1 hk1 hS => ?_)
            have hG : mm D vwCl A G160 H := by rw [← ht]; exact hB
            clear hB hz1 hk1 hvm ht
            obtain ⟨y162, ey162⟩ : ∃ y, y = q_take K S 5 qv := ⟨_, rfl⟩
            rw [← ey162] at hw
            have ly162 : y162.1 ≤ qv.1 + 1 := by rw [ey162]; exact q_take_le
            obtain ⟨oa, oe2, hoaN, h161_1, hls2, hoe2, hops2, hf9⟩ := hw
            have k163 : G160 k = some (.inr (13, [.ref ks, .ref ss, .ref vs, .int (nI tn)])) := hf9 _ _ v_k (mm_ne_oo v_k v_o (by decide)) (Ne.symm (hls.ne v_k (by decide))) (fun h1 => LiS.nea hls h1 v_k) (fun i hi => mm_ne_oo v_k (hops i hi) (by decide))
            have k164 : G160 ks = some (.inl (cy 5, 2001, .inr (.inr (.inr (.inr f1))))) := hf9 _ _ v_ks (mm_ne_ao v_ks v_o) (Ne.symm (LiS.nal hls v_ks)) (fun h1 => LiS.nar hls h1 v_ks (by intro gv9 z; have z2 := (Prod.mk.inj (Prod.mk.inj (Sum.inl.inj z)).2); first | (exact absurd z2.1 (cpf_ne _)) | (cases z2.2))) (fun i hi => mm_ne_ao v_ks (hops i hi))
            have k165 : G160 ss = some (.inl (cy 1, 2001, .inl f2)) := hf9 _ _ v_ss (mm_ne_ao v_ss v_o) (Ne.symm (LiS.nal hls v_ss)) (fun h1 => LiS.nar hls h1 v_ss (by intro gv9 z; have z2 := (Prod.mk.inj (Prod.mk.inj (Sum.inl.inj z)).2); first | (exact absurd z2.1 (cpf_ne _)) | (cases z2.2))) (fun i hi => mm_ne_ao v_ss (hops i hi))
            have k166 : G160 vs = some (.inl (cy 2, 2001, .inr (.inl f3))) := hf9 _ _ v_vs (mm_ne_ao v_vs v_o) (Ne.symm (LiS.nal hls v_vs)) (fun h1 => LiS.nar hls h1 v_vs (by intro gv9 z; have z2 := (Prod.mk.inj (Prod.mk.inj (Sum.inl.inj z)).2); first | (exact absurd z2.1 (cpf_ne _)) | (cases z2.2))) (fun i hi => mm_ne_ao v_vs (hops i hi))
            have k167 : G160 ed = some (.inr (3, [.ref lc, .ref ly, .ref lsv, .ref lco, .ref lva, .ref ljo, .ref na, .int nc, va_rf iu, .int wa, va_rf rs])) := hf9 _ _ v_ed (mm_ne_oo v_ed v_o (by decide)) (Ne.symm (hls.ne v_ed (by decide))) (fun h1 => LiS.nea hls h1 v_ed) (fun i hi => mm_ne_oo v_ed (hops i hi) (by decide))
            have k168 : G160 ja = some (.inr (5, [.int jat, .long jn, .ref ol, .ref pi, .int 0])) := hf9 _ _ v_ja (mm_ne_oo v_ja v_o (by decide)) (Ne.symm (hls.ne v_ja (by decide))) (fun h1 => LiS.nea hls h1 v_ja) (fun i hi => mm_ne_oo v_ja (hops i hi) (by decide))
            have k169 : G160 ow = some (.inl (cy 1, 3, .inl wf)) := hf9 _ _ v_ow (mm_ne_ao v_ow v_o) (Ne.symm (LiS.nal hls v_ow)) (fun h1 => LiS.nar hls h1 v_ow (by intro gv9 z; have z2 := (Prod.mk.inj (Prod.mk.inj (Sum.inl.inj z)).2); first | (exact absurd z2.1 (cpf_ne _)) | (cases z2.2))) (fun i hi => mm_ne_ao v_ow (hops i hi))
            have k170 : G160 pi = some (.inl (cy 2, 16, .inr (.inl (fun _ => 0)))) := hf9 _ _ v_pi (mm_ne_ao v_pi v_o) (Ne.symm (LiS.nal hls v_pi)) (fun h1 => LiS.nar hls h1 v_pi (by intro gv9 z; have z2 := (Prod.mk.inj (Prod.mk.inj (Sum.inl.inj z)).2); first | (exact absurd z2.1 (cpf_ne _)) | (cases z2.2))) (fun i hi => mm_ne_ao v_pi (hops i hi))
            refine lv_goto (tgt := 113) hx hb dX9_takeJob_75 (by decide) ?_
            obtain ⟨x171, ex171⟩ : ∃ y : Int32, y = (nI kk) + 1 := ⟨_, rfl⟩
            refine lv_iinc (v := x171) (lv' := [(4, .int x171), (3, .int x159), (0, .ref o), (1, .ref ja), (2, .int (nI ta))]) hx hb dX9_takeJob_113 hl (k := 4) rfl (by rw [ex171]; rfl) (by decide) rfl (fun ls hl => ?_)
            refine lv_goto (tgt := 45) hx hb dX9_takeJob_116 (by decide) ?_
            have hon1 : 0 < on := Nat.pos_of_ne_zero (fun z => c_53 (by rw [z]; decide))
            have hs1 : se K qv.1 qv.2 5 = true := by rw [er99] at c_63; revert c_63; cases se K qv.1 qv.2 5 <;> simp [b2i]
            have hA1 : 0 < on ∧ se K qv.1 qv.2 5 = true := ⟨hon1, hs1⟩
            rw [show x171 = nI (kk + 1) by rw [ex171]; exact (nI_succ kk).symm] at hl
            rw [show x159 = nI (on - 1) from hx3] at hl
            have hq2 : q_ops K S V n (kk + 1) ta (on - 1) wf (q_clw kk sx dv) y162 = (nF, dF, qF) := by
              rw [← hq]
              show _ = q_ops K S V (n + 1) kk ta on wf dv qv
              rw [q_ops, if_pos hA1, ← ey162, hsx, nI_clamp (n := sx) (by omega)]
            have hfr2 : ∀ (x : Nat) (e : va_E), G x = some e → x ≠ o → x ≠ ow → G160 x = some e := fun x e h0 n1 n2 => hf9 x e (hfr x e h0 n1 n2) n1 (fun z => by rw [z, holN] at h0; cases h0) (fun h1 z => by rw [z, hoe h1] at h0; cases h0) (fun i hi z => by rw [z, hnw.1 i hi] at h0; cases h0)
            have hnb : ∀ q9, Gv q9 = none → G q9 = none := by
              intro q9 h9
              cases hz : G q9 with
              | none => rfl
              | some e9 => rw [hfr q9 e9 hz (fun z => by rw [z, v_o] at h9; cases h9) (fun z => by rw [z, v_ow] at h9; cases h9)] at h9; cases h9
            have hoe3 : 1 ≤ kk + 1 → G oe2 = none := by
              intro _
              rcases hoe2 with ⟨h1, h2⟩ | h2
              · rw [h2]; exact hoe h1
              · exact hnb _ h2
            have hne : ∀ i, i < kk → fv i ≠ oa := fun i hi z => by have z2 := hops i hi; rw [z, hoaN] at z2; cases z2
            have hnw2 : NW G (kk + 1) (fup fv kk oa) := NW.up (Gv := Gv) hnw (hnb _ hoaN) hne
            refine W.widen (k := 3 + 2 * (kk + 1)) (n := 24 + slj (kk + 1)) (by omega) (by show _ ≤ 24 + (slj kk + 9 + gco kk); omega) ?_
            exact ih (kk + 1) ta (on - 1) nF y162 qF ja ol oe2 pi jat jn wf (fup fv kk oa) (q_clw kk sx dv) dF (by omega) hq2 hZ (by omega) hjaN holN hpiN (by omega) (by omega) (fun a ha => by obtain ⟨sx9, h1, h2⟩ := hwi a (by omega); exact ⟨sx9, by omega, h2⟩) G160 h161_1 k163 k164 k165 k166 k167 k168 k169 k170 hls2 hops2 hfr2 hoe3 hnw2 _ _ hG hS ls (lv_sub hl [2, 3, 4, 1, 0] rfl)
  refine lv_aload_n hx hb dX9_takeJob_0 rfl (lv_at hl 0 rfl) ?_
  refine lv_aload_n hx hb dX9_takeJob_1 rfl (lv_at hl 0 rfl) ?_
  refine mm_get (v := .ref ed) hx hb hf_X9 (fun _ h9 => h9) hown hK hG h0 rfl 2 (by decide) (tb_use hT tw_179) (fun _ h9 => h9) rfl dX9_takeJob_2 ?_
  refine mm_getN (v := .ref ljo) hx hb hf_X2 (fun _ h9 => h9) hown hK hG hed rfl 5 (by decide) (tb_use hT tw_293) (fun _ h9 => h9) rfl dX9_takeJob_5 ?_
  have hB172 : ∀ (x : Nat) (e : va_E), G x = some e → x ≠ o → G x = some e := by
    intro x e z0 n_o
    exact z0
  have hL173 : LiS cy e0 G ljo ec nC fC := LiS.fr2 (fun x => x ≠ o) hlc (fun x e h0 hp => hB172 x e h0 hp) (hlc.ne h0 (by decide)) (fun v _ hv => mm_ne_ao hv h0)
  obtain ⟨mo174, h_mo174, -⟩ := id hL173
  refine va_calli (va_runV (As := []) (rest := [.ref o]) ⟨hx, hb, hml, hown, (fun _ h9 => absurd h9 List.not_mem_nil : ∀ w ∈ ([] : List Cond), w.before _ s = true)⟩ (c_LS_size l D cy A X hst hXT e0 tk hXE mi hXL G ljo ec nC fC hL173) (tb_cw (C := RJx4a65c) 0 hT tw_457 tw_113 tw_454 tw_455 tw_456 rfl rfl hq_Jx4a65c_size_8abf5 ⟨Nat.le_of_ble_eq_true rfl, Nat.le_of_ble_eq_true rfl⟩) (mk_preC hst hG hK hA hX hS vc_1 h_mo174) rfl rfl hl.1 rfl (lv_room (Nat.le_of_ble_eq_true rfl)) dX9_takeJob_8 ⟨(by show _ ≤ 166; omega), (by show _ ≤ 1064 + gco nC; first | omega | (have h1 := slj_mono kk (by omega); have h2 := slj_81; omega))⟩) hS (fun q _ h => h) (fun q h => h) (fun r175 G176 t H locs ht hvm hw hB hz1 hk1 hS => ?_)
  have hG : mm D vwCl A G176 H := by rw [← ht]; exact hB
  clear hB hz1 hk1 hvm ht
  obtain ⟨rfl, hw⟩ := hw
  rw [hw] at hG
  refine lv_iconst (v := 4) hx hb dX9_takeJob_11 (by decide) ?_
  refine va_callv (va_runV (As := [.int (nI nC), .int 4]) (rest := []) ⟨hx, hb, hml, hown, (fun _ h9 => absurd h9 List.not_mem_nil : ∀ w ∈ ([] : List Cond), w.before _ s = true)⟩ (c_X9_begin l D cy A X hst hXT e0 tk hXE G o ow ed q k ks ss vs tn K S V f1 f2 f3 (nI nC) 4 h0 q1 q2 q3 q4 hTP (by first | omega | (simp only []; omega)) ) (tb_cw (C := RX9) 2 hT tw_461 tw_106 tw_458 tw_460 tw_8 rfl rfl hq_X9_begin ⟨Nat.le_of_ble_eq_true rfl, Nat.le_of_ble_eq_true rfl⟩) (mk_preC hst hG hK hA hX hS vc_10 h0) rfl rfl hl.1 rfl (lv_room (Nat.le_of_ble_eq_true rfl)) dX9_takeJob_12 ⟨(by show _ ≤ 166; omega), (by show _ ≤ 1064 + gco nC; first | omega | (have h1 := slj_mono kk (by omega); have h2 := slj_81; omega))⟩) hS (fun q _ h => h) (fun q h => h) (fun  G177 t H locs ht hvm hw hB hz1 hk1 hS => ?_)
  have hG : mm D vwCl A G177 H := by rw [← ht]; exact hB
  clear hB hz1 hk1 hvm ht
  obtain ⟨y178, ey178⟩ : ∃ y, y = q_begin S (nI nC) 4 q := ⟨_, rfl⟩
  rw [← ey178] at hw
  have ly178 : y178.1 ≤ q.1 + 1 := by rw [ey178]; exact q_begin_le
  have eG177 := hw
  clear hw
  have k179 : G177 o = some (.inr (10, [.ref k, .ref ow, .ref ed, .int (nI y178.1), .int y178.2])) := by rw [eG177]; exact mm_set_self
  have k180 : G177 k = some (.inr (13, [.ref ks, .ref ss, .ref vs, .int (nI tn)])) := by rw [eG177]; exact mm_set_of q1 (mm_ne_oo q1 h0 (by decide))
  have k181 : G177 ks = some (.inl (cy 5, 2001, .inr (.inr (.inr (.inr f1))))) := by rw [eG177]; exact mm_set_of q2 (mm_ne_ao q2 h0)
  have k182 : G177 ss = some (.inl (cy 1, 2001, .inl f2)) := by rw [eG177]; exact mm_set_of q3 (mm_ne_ao q3 h0)
  have k183 : G177 vs = some (.inl (cy 2, 2001, .inr (.inl f3))) := by rw [eG177]; exact mm_set_of q4 (mm_ne_ao q4 h0)
  have k184 : G177 ed = some (.inr (3, [.ref lc, .ref ly, .ref lsv, .ref lco, .ref lva, .ref ljo, .ref na, .int nc, va_rf iu, .int wa, va_rf rs])) := by rw [eG177]; exact mm_set_of hed (mm_ne_oo hed h0 (by decide))
  have k185 : G177 ow = some (.inl (cy 1, 3, .inl wf0)) := by rw [eG177]; exact mm_set_of hwf (mm_ne_ao hwf h0)
  refine mm_new (ci := 5) (fs := [.int 0, .long 0, .null, .null, .int 0]) hx hb hf_X4 (fun _ h9 => h9) tyX4 tyX4_ok hown (tb_use hT tw_862) (tb_use hT tw_863) (tb_use hT tw_130) hK hG hS hA rfl (fun j hj => by rcases (show j = 0 ∨ j = 1 ∨ j = 2 ∨ j = 3 ∨ j = 4 by omega) with rfl | rfl | rfl | rfl | rfl <;> rfl) (by show _ ≤ 166; omega) (by show _ ≤ 1064 + gco nC; omega) dX9_takeJob_15 (fun q186 H hn_q186 hG hS => ?_)
  obtain ⟨G187, eG187⟩ : ∃ g, g = mm_set G177 q186 (.inr (5, [.int 0, .long 0, .null, .null, .int 0])) := ⟨_, rfl⟩
  have hG : mm D vwCl A G187 H := by rw [eG187]; exact hG
  have k188 : G187 o = some (.inr (10, [.ref k, .ref ow, .ref ed, .int (nI y178.1), .int y178.2])) := by rw [eG187]; exact mm_set_new k179 hn_q186
  have k189 : G187 k = some (.inr (13, [.ref ks, .ref ss, .ref vs, .int (nI tn)])) := by rw [eG187]; exact mm_set_new k180 hn_q186
  have k190 : G187 ks = some (.inl (cy 5, 2001, .inr (.inr (.inr (.inr f1))))) := by rw [eG187]; exact mm_set_new k181 hn_q186
  have k191 : G187 ss = some (.inl (cy 1, 2001, .inl f2)) := by rw [eG187]; exact mm_set_new k182 hn_q186
  have k192 : G187 vs = some (.inl (cy 2, 2001, .inr (.inl f3))) := by rw [eG187]; exact mm_set_new k183 hn_q186
  have k193 : G187 ed = some (.inr (3, [.ref lc, .ref ly, .ref lsv, .ref lco, .ref lva, .ref ljo, .ref na, .int nc, va_rf iu, .int wa, va_rf rs])) := by rw [eG187]; exact mm_set_new k184 hn_q186
  have k194 : G187 ow = some (.inl (cy 1, 3, .inl wf0)) := by rw [eG187]; exact mm_set_new k185 hn_q186
  have k195 : G187 q186 = some (.inr (5, [.int 0, .long 0, .null, .null, .int 0])) := by rw [eG187]; exact mm_set_self
  refine lv_dup hx hb dX9_takeJob_18 rfl ?_
  refine lv_aload_n hx hb dX9_takeJob_19 rfl (lv_at hl 0 rfl) ?_
  refine va_calli (va_runV (As := []) (rest := [.ref q186, .ref q186]) ⟨hx, hb, hml, hown, (fun _ h9 => absurd h9 List.not_mem_nil : ∀ w ∈ ([] : List Cond), w.before _ s = true)⟩ (c_X9_start l D cy A X hst hXT e0 tk hXE G187 o ow ed y178 k ks ss vs tn K S V f1 f2 f3  k188 k189 k190 k191 k192 hTP (by first | omega | (simp only []; omega)) ) (tb_cw (C := RX9) 0 hT tw_475 tw_106 tw_472 tw_474 tw_10 rfl rfl hq_X9_start ⟨Nat.le_of_ble_eq_true rfl, Nat.le_of_ble_eq_true rfl⟩) (mk_preC hst hG hK hA hX hS vc_10 k188) rfl rfl hl.1 rfl (lv_room (Nat.le_of_ble_eq_true rfl)) dX9_takeJob_20 ⟨(by show _ ≤ 166; omega), (by show _ ≤ 1064 + gco nC; first | omega | (have h1 := slj_mono kk (by omega); have h2 := slj_81; omega))⟩) hS (fun q _ h => h) (fun q h => h) (fun r196 G197 t H locs ht hvm hw hB hz1 hk1 hS => ?_)
  have hG : mm D vwCl A G197 H := by rw [← ht]; exact hB
  clear hB hz1 hk1 hvm ht
  obtain ⟨er196, hw⟩ := hw
  rw [hw] at hG
  refine lv_aload_n hx hb dX9_takeJob_23 rfl (lv_at hl 0 rfl) ?_
  refine va_calll (va_runV (As := []) (rest := [.int r196, .ref q186, .ref q186]) ⟨hx, hb, hml, hown, (fun _ h9 => absurd h9 List.not_mem_nil : ∀ w ∈ ([] : List Cond), w.before _ s = true)⟩ (c_X9_takeName l D cy A X hst hXT e0 tk hXE G187 o ow ed y178 k ks ss vs tn K S V f1 f2 f3  k188 k189 k190 k191 k192 hTP (by first | omega | (simp only []; omega)) ) (tb_cw (C := RX9) 0 hT tw_479 tw_106 tw_476 tw_478 tw_11 rfl rfl hq_X9_takeName ⟨Nat.le_of_ble_eq_true rfl, Nat.le_of_ble_eq_true rfl⟩) (mk_preC hst hG hK hA hX hS vc_10 k188) rfl rfl hl.1 rfl (lv_room (Nat.le_of_ble_eq_true rfl)) dX9_takeJob_24 ⟨(by show _ ≤ 166; omega), (by show _ ≤ 1064 + gco nC; first | omega | (have h1 := slj_mono kk (by omega); have h2 := slj_81; omega))⟩) hS (fun q _ h => h) (fun q h => h) (fun r198 G199 t H locs ht hvm hw hB hz1 hk1 hS => ?_)
  have hG : mm D vwCl A G199 H := by rw [← ht]; exact hB
  clear hB hz1 hk1 hvm ht
  obtain ⟨y200, ey200⟩ : ∃ y, y = q_name K S V y178 := ⟨_, rfl⟩
  rw [← ey200] at hw
  obtain ⟨er198, hw⟩ := hw
  have ly200 : y200.2.1 ≤ y178.1 + 1 := by rw [ey200]; exact q_name_le
  have eG199 := hw
  clear hw
  have k201 : G199 o = some (.inr (10, [.ref k, .ref ow, .ref ed, .int (nI y200.2.1), .int y200.2.2])) := by rw [eG199]; exact mm_set_self
  have k202 : G199 k = some (.inr (13, [.ref ks, .ref ss, .ref vs, .int (nI tn)])) := by rw [eG199]; exact mm_set_of k189 (mm_ne_oo k189 k188 (by decide))
  have k203 : G199 ks = some (.inl (cy 5, 2001, .inr (.inr (.inr (.inr f1))))) := by rw [eG199]; exact mm_set_of k190 (mm_ne_ao k190 k188)
  have k204 : G199 ss = some (.inl (cy 1, 2001, .inl f2)) := by rw [eG199]; exact mm_set_of k191 (mm_ne_ao k191 k188)
  have k205 : G199 vs = some (.inl (cy 2, 2001, .inr (.inl f3))) := by rw [eG199]; exact mm_set_of k192 (mm_ne_ao k192 k188)
  have k206 : G199 ed = some (.inr (3, [.ref lc, .ref ly, .ref lsv, .ref lco, .ref lva, .ref ljo, .ref na, .int nc, va_rf iu, .int wa, va_rf rs])) := by rw [eG199]; exact mm_set_of k193 (mm_ne_oo k193 k188 (by decide))
  have k207 : G199 ow = some (.inl (cy 1, 3, .inl wf0)) := by rw [eG199]; exact mm_set_of k194 (mm_ne_ao k194 k188)
  have k208 : G199 q186 = some (.inr (5, [.int 0, .long 0, .null, .null, .int 0])) := by rw [eG199]; exact mm_set_of k195 (mm_ne_oo k195 k188 (by decide))
  have hB209 : ∀ (x : Nat) (e : va_E), G x = some e → x ≠ o → G199 x = some e := by
    intro x e z0 n_o
    have z1 : G177 x = some e := by rw [eG177]; exact mm_set_of z0 n_o
    have n_q186 : x ≠ q186 := fun z => by rw [z, hn_q186] at z1; cases z1
    have z2 : G187 x = some e := by rw [eG187]; exact mm_set_of z1 n_q186
    have z3 : G199 x = some e := by rw [eG199]; exact mm_set_of z2 n_o
    exact z3
  refine va_callv (va_runI (As := [.int r196, .long r198]) (rest := [.ref q186]) ⟨hx, hb, hml, hown, (fun _ h9 => absurd h9 List.not_mem_nil : ∀ w ∈ ([] : List Cond), w.before _ s = true)⟩ (c_X4_init l D cy A X hst hXT e0 tk hXE G199 q186 r196 r198 k208) (tb_ci 2 hT tw_866 tw_130 tw_864 tw_865 rfl rfl rfl hq_X4_init ⟨Nat.le_of_ble_eq_true rfl, Nat.le_of_ble_eq_true rfl⟩) (mk_preS hst hG hK hA hX hS) rfl rfl hl.1 rfl (lv_room (Nat.le_of_ble_eq_true rfl)) dX9_takeJob_27 ⟨(by show _ ≤ 166; omega), (by show _ ≤ 1064 + gco nC; first | omega | (have h1 := slj_mono kk (by omega); have h2 := slj_81; omega))⟩) hS (fun q _ h => h) (fun q h => h) (fun  G210 t H locs ht hvm hw hB hz1 hk1 hS => ?_)
  have hG : mm D vwCl A G210 H := by rw [← ht]; exact hB
  clear hB hz1 hk1 hvm ht
  obtain ⟨rl212, pi213, hn_rl212, hn_pi213, h211_2, h211_3, h211_1, h211_f⟩ := hw
  have k214 : G210 o = some (.inr (10, [.ref k, .ref ow, .ref ed, .int (nI y200.2.1), .int y200.2.2])) := h211_f _ _ k201 (mm_ne_oo k201 k208 (by decide))
  have k215 : G210 k = some (.inr (13, [.ref ks, .ref ss, .ref vs, .int (nI tn)])) := h211_f _ _ k202 (mm_ne_oo k202 k208 (by decide))
  have k216 : G210 ks = some (.inl (cy 5, 2001, .inr (.inr (.inr (.inr f1))))) := h211_f _ _ k203 (mm_ne_ao k203 k208)
  have k217 : G210 ss = some (.inl (cy 1, 2001, .inl f2)) := h211_f _ _ k204 (mm_ne_ao k204 k208)
  have k218 : G210 vs = some (.inl (cy 2, 2001, .inr (.inl f3))) := h211_f _ _ k205 (mm_ne_ao k205 k208)
  have k219 : G210 ed = some (.inr (3, [.ref lc, .ref ly, .ref lsv, .ref lco, .ref lva, .ref ljo, .ref na, .int nc, va_rf iu, .int wa, va_rf rs])) := h211_f _ _ k206 (mm_ne_oo k206 k208 (by decide))
  have k220 : G210 ow = some (.inl (cy 1, 3, .inl wf0)) := h211_f _ _ k207 (mm_ne_ao k207 k208)
  refine lv_astore_n (lv' := [(1, .ref q186), (0, .ref o)]) hx hb dX9_takeJob_30 rfl hl (by decide) rfl (fun ls hl => ?_)
  refine lv_aload_n hx hb dX9_takeJob_31 rfl (lv_at hl 1 rfl) ?_
  refine va_gets (v := .ref (tk 4)) hx hb (show va_Z "DescribeText$Token" "OPEN" "LDescribeText$Token;" (.ref (tk 4)) A s s.heap from (hE.2.1 4 (by decide)).1) hS hown (tb_use hT tw_547) (fun _ h9 => h9) dX9_takeJob_32 ?_
  refine va_callv (va_runV (As := [.ref (tk 4)]) (rest := []) ⟨hx, hb, hml, hown, (fun _ h9 => absurd h9 List.not_mem_nil : ∀ w ∈ ([] : List Cond), w.before _ s = true)⟩ (c_X9_take l D cy A X hst hXT e0 tk hXE G210 o ow ed y200.2 k ks ss vs tn K S V f1 f2 f3 4 k214 k215 k216 k217 k218 hTP (by first | omega | (simp only []; omega)) (by decide)) (tb_cw (C := RX9) 1 hT tw_539 tw_106 tw_536 tw_538 tw_12 rfl rfl hq_X9_take ⟨Nat.le_of_ble_eq_true rfl, Nat.le_of_ble_eq_true rfl⟩) (mk_preC hst hG hK hA hX hS vc_10 k214) rfl rfl hl.1 rfl (lv_room (Nat.le_of_ble_eq_true rfl)) dX9_takeJob_35 ⟨(by show _ ≤ 166; omega), (by show _ ≤ 1064 + gco nC; first | omega | (have h1 := slj_mono kk (by omega); have h2 := slj_81; omega))⟩) hS (fun q _ h => h) (fun q h => h) (fun  G221 t H locs ht hvm hw hB hz1 hk1 hS => ?_)
  have hG : mm D vwCl A G221 H := by rw [← ht]; exact hB
  clear hB hz1 hk1 hvm ht
  obtain ⟨y222, ey222⟩ : ∃ y, y = q_take K S 4 y200.2 := ⟨_, rfl⟩
  rw [← ey222] at hw
  have ly222 : y222.1 ≤ y200.2.1 + 1 := by rw [ey222]; exact q_take_le
  have eG221 := hw
  clear hw
  have k223 : G221 o = some (.inr (10, [.ref k, .ref ow, .ref ed, .int (nI y222.1), .int y222.2])) := by rw [eG221]; exact mm_set_self
  have k224 : G221 k = some (.inr (13, [.ref ks, .ref ss, .ref vs, .int (nI tn)])) := by rw [eG221]; exact mm_set_of k215 (mm_ne_oo k215 k214 (by decide))
  have k225 : G221 ks = some (.inl (cy 5, 2001, .inr (.inr (.inr (.inr f1))))) := by rw [eG221]; exact mm_set_of k216 (mm_ne_ao k216 k214)
  have k226 : G221 ss = some (.inl (cy 1, 2001, .inl f2)) := by rw [eG221]; exact mm_set_of k217 (mm_ne_ao k217 k214)
  have k227 : G221 vs = some (.inl (cy 2, 2001, .inr (.inl f3))) := by rw [eG221]; exact mm_set_of k218 (mm_ne_ao k218 k214)
  have k228 : G221 ed = some (.inr (3, [.ref lc, .ref ly, .ref lsv, .ref lco, .ref lva, .ref ljo, .ref na, .int nc, va_rf iu, .int wa, va_rf rs])) := by rw [eG221]; exact mm_set_of k219 (mm_ne_oo k219 k214 (by decide))
  have k229 : G221 ow = some (.inl (cy 1, 3, .inl wf0)) := by rw [eG221]; exact mm_set_of k220 (mm_ne_ao k220 k214)
  have k230 : G221 q186 = some (.inr (5, [.int r196, .long r198, .ref rl212, .ref pi213, .int 0])) := by rw [eG221]; exact mm_set_of h211_1 (mm_ne_oo h211_1 k214 (by decide))
  have k231 : G221 rl212 = some (.inr (1, [.int 0, .ref e0, .int 0])) := by rw [eG221]; exact mm_set_of h211_2 (mm_ne_oo h211_2 k214 (by decide))
  have k232 : G221 pi213 = some (.inl (cy 2, 16, .inr (.inl (fun _ => 0)))) := by rw [eG221]; exact mm_set_of h211_3 (mm_ne_ao h211_3 k214)
  refine lv_iconst (v := 0) hx hb dX9_takeJob_38 (by decide) ?_
  refine lv_istore_n (lv' := [(2, .int 0), (1, .ref q186), (0, .ref o)]) hx hb dX9_takeJob_39 rfl hl (by decide) rfl (fun ls hl => ?_)
  refine lv_iconst (v := 0) hx hb dX9_takeJob_40 (by decide) ?_
  refine lv_istore_n (lv' := [(3, .int 0), (2, .int 0), (1, .ref q186), (0, .ref o)]) hx hb dX9_takeJob_41 rfl hl (by decide) rfl (fun ls hl => ?_)
  refine lv_iconst (v := 0) hx hb dX9_takeJob_42 (by decide) ?_
  refine lv_istore (lv' := [(4, .int 0), (3, .int 0), (2, .int 0), (1, .ref q186), (0, .ref o)]) hx hb dX9_takeJob_43 hl (by decide) rfl (fun ls hl => ?_)
  have hB233 : ∀ (x : Nat) (e : va_E), G x = some e → x ≠ o → G221 x = some e := by
    intro x e z0 n_o
    have z1 : G177 x = some e := by rw [eG177]; exact mm_set_of z0 n_o
    have n_q186 : x ≠ q186 := fun z => by rw [z, hn_q186] at z1; cases z1
    have z2 : G187 x = some e := by rw [eG187]; exact mm_set_of z1 n_q186
    have z3 : G199 x = some e := by rw [eG199]; exact mm_set_of z2 n_o
    have n_rl212 : x ≠ rl212 := fun z => by rw [z, hn_rl212] at z3; cases z3
    have n_pi213 : x ≠ pi213 := fun z => by rw [z, hn_pi213] at z3; cases z3
    have z4 : G210 x = some e := h211_f x e z3 n_q186
    have z5 : G221 x = some e := by rw [eG221]; exact mm_set_of z4 n_o
    exact z5
  have hN_rl212 : G rl212 = none := none_back hB209 hn_rl212 (fun z => by rw [z, k201] at hn_rl212; cases hn_rl212)
  have hN_pi213 : G pi213 = none := none_back hB209 hn_pi213 (fun z => by rw [z, k201] at hn_pi213; cases hn_pi213)
  have fn234 : G q186 = none := by
    have z := hn_q186
    rw [eG177] at z; replace z := mm_none z
    exact z
  obtain ⟨nF, dF, qF, hR⟩ : ∃ a b c, q_ops K S V 81 0 0 0 wf0 d0O y222 = (a, b, c) := ⟨_, _, _, rfl⟩
  have hZ : q_job K S V nC q wf0 = (q_take K S 5 qF, (r196, r198), (nF, dF)) := by
    simp only [q_job]
    simp only [← ey178, ← ey200, ← ey222, hR]
    try simp only [er196, er198]
  have hls0 : LiS cy e0 G221 rl212 e0 0 (fun _ => 0) := ⟨0, by rw [nI_0]; exact k231, Or.inl ⟨rfl, rfl⟩⟩
  refine W.widen (k := 3 + 2 * 0) (n := 24 + slj 0) (by omega) (by omega) ?_
  exact hloop 81 0 0 0 nF y222 qF q186 rl212 e0 pi213 r196 r198 wf0 (fun _ => 0) d0O dF (by omega) hR hZ (by first | omega | (simp only []; omega)) fn234 hN_rl212 hN_pi213 (by omega) (by omega) (fun a ha => absurd ha (Nat.not_lt_zero a)) G221 k223 k224 k225 k226 k227 k228 k230 k229 k232 hls0 (fun i hi => absurd hi (Nat.not_lt_zero i)) (fun x e h n1 _ => hB233 x e h n1) (fun h => absurd h (by decide)) ⟨fun i hi => absurd hi (Nat.not_lt_zero i), fun a b ha => absurd ha (Nat.not_lt_zero a)⟩ _ _ hG hS ls (lv_sub hl [4, 3, 2, 1, 0] rfl)
