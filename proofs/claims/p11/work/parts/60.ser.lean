def dupP (d : Nat → PrD) (j : Nat) (x : PrD) : Nat → PrD := fun i => if i = j then x else d i
def q_pars (K : Nat → Nat) (S : Nat → Int32) (V : Nat → Int64) : Nat → Nat → Nat × Int32 → (Nat → PrD) → Nat × (Nat → PrD) × (Nat × Int32)
  | 0, j, q, d => (j, d, q)
  | n + 1, j, q, d => if se K q.1 q.2 19 then q_pars K S V n (j + 1) (q_par K S V j q).1 (dupP d j (q_par K S V j q).2) else (j, d, q)
def d0P : Nat → PrD := fun _ => (0, 0, 0, 0, 0, 0, 0, 0)
/-- a service: (place, fault); where, name, Z; its parameters -/
def q_ser (K : Nat → Nat) (S : Nat → Int32) (V : Nat → Int64) (nC : Nat) (q : Nat × Int32) : (Nat × Int32) × (Int32 × Int64 × Int32) × (Nat × (Nat → PrD)) :=
  let q1 := q_begin S (nI nC) 16 q
  let a := q_name K S V q1
  let w := q_num K S V 0 191 (q_take K S 8 a.2)
  let q3 := q_take K S 4 w.2
  (q_take K S 5 (q_pars K S V 9 0 q3 d0P).2.2, (S q1.1, a.1, w.1), ((q_pars K S V 9 0 q3 d0P).1, (q_pars K S V 9 0 q3 d0P).2.1))
theorem q_par_le {K : Nat → Nat} {S : Nat → Int32} {V : Nat → Int64} {nC : Nat} {q : Nat × Int32} : (q_par K S V nC q).1.1 ≤ q.1 + 9 := by
  obtain ⟨q1, e1⟩ : ∃ y, y = q_begin S (nI nC) 8 q := ⟨_, rfl⟩
  have l1 : q1.1 ≤ q.1 + 1 := by rw [e1]; exact q_begin_le
  obtain ⟨a, e2⟩ : ∃ y, y = q_name K S V q1 := ⟨_, rfl⟩
  have l2 : a.2.1 ≤ q1.1 + 1 := by rw [e2]; exact q_name_le
  obtain ⟨q2, e3⟩ : ∃ y, y = q_take K S 7 a.2 := ⟨_, rfl⟩
  have l3 : q2.1 ≤ a.2.1 + 1 := by rw [e3]; exact q_take_le
  obtain ⟨b, e4⟩ : ∃ y, y = q_name K S V q2 := ⟨_, rfl⟩
  have l4 : b.2.1 ≤ q2.1 + 1 := by rw [e4]; exact q_name_le
  obtain ⟨e, e5⟩ : ∃ y, y = q_name K S V (b.2.1 + 1, b.2.2) := ⟨_, rfl⟩
  have l5 : e.2.1 ≤ (b.2.1 + 1) + 1 := by rw [e5]; exact q_name_le
  obtain ⟨q4, e6⟩ : ∃ y, y = q_take K S 8 e.2 := ⟨_, rfl⟩
  have l6 : q4.1 ≤ e.2.1 + 1 := by rw [e6]; exact q_take_le
  obtain ⟨z, e7⟩ : ∃ y, y = q_num K S V 0 999999 q4 := ⟨_, rfl⟩
  have l7 : z.2.1 ≤ q4.1 + 1 := by rw [e7]; exact q_num_le
  have m1 := @q_take_le K S 6 z.2
  have m2 := @q_take_le K S 6 e.2
  have m3 := @q_take_le K S 6 b.2
  simp only [q_par, ← e1, ← e2, ← e3, ← e4, ← e5, ← e6, ← e7]
  split
  · show (q_take K S 6 z.2).1 ≤ _
    omega
  · split
    · show (q_take K S 6 e.2).1 ≤ _
      omega
    · show (q_take K S 6 b.2).1 ≤ _
      omega
def PRM (G : Nat → Option va_E) (n : Nat) (f : Nat → Nat) (d : Nat → PrD) : Prop := ∀ i, i < n → G (f i) = some (.inr (9, [.int (nI (i + 1)), .int ((d i).1), .long ((d i).2.1), .long ((d i).2.2.1), .int ((d i).2.2.2.1), .null, .int ((d i).2.2.2.2.1), .long ((d i).2.2.2.2.2.1), .int ((d i).2.2.2.2.2.2.1), .null, .int ((d i).2.2.2.2.2.2.2), .int 0, .int 0, .long 0, .long 0]))
set_option maxHeartbeats 4000000 in
set_option maxRecDepth 100000 in
theorem c_X9_takeService (l : Launch) (D : va_G) (cy : Nat → ClassId) (A : Nat → Prop) (X : State → Prop) (hst : mk_St A X) (hXT : ∀ U : State, X U → TB U) (e0 : Nat) (tk : Nat → Nat) (hXE : ∀ U : State, X U → ES e0 tk A U) (mi : Nat) (hXL : ∀ U : State, X U → EL e0 mi A U) (G : Nat → Option va_E) (o ow ed : Nat) (q : Nat × Int32) (k ks ss vs tn : Nat) (K : Nat → Nat) (S : Nat → Int32) (V : Nat → Int64) (f1 : Nat → Option Nat) (f2 : Nat → Int32) (f3 : Nat → Int64) (lc ly lsv lco lva ljo na : Nat) (nc wa : Int32) (iu rs : Option Nat) (la : Nat) (ec nC : Nat) (fC : Nat → Nat) (h0 : G o = some (.inr (10, [.ref k, .ref ow, .ref ed, .int (nI q.1), .int q.2]))) (q1 : G k = some (.inr (13, [.ref ks, .ref ss, .ref vs, .int (nI tn)]))) (q2 : G ks = some (.inl (cy 5, 2001, .inr (.inr (.inr (.inr f1)))))) (q3 : G ss = some (.inl (cy 1, 2001, .inl f2))) (q4 : G vs = some (.inl (cy 2, 2001, .inr (.inl f3)))) (hTP : TKP tk tn K S V f1 f2 f3) (hp : q.1 < 2 ^ 25) (hed : G ed = some (.inr (3, [.ref lc, .ref ly, .ref lsv, .ref lco, .ref lva, .ref ljo, .ref na, .int nc, va_rf iu, .int wa, va_rf rs]))) (hlc : LiS cy e0 G lsv ec nC fC) (hLT : LT G 11 nC fC) (hnC : nC < 100) : Met l yX9_takeService [.code yX9_takeService cX9_takeService 4 none] ({ frames := 9, cells := 21, slots := (154 + gco nC), locals := 270 }) (mk_Pre D vwCl (tyL cy) A X G [.ref o, .ref la]) (va_Qv (fun (G2 : Nat → Option va_E) => ∃ (sa pl pe : Nat) (fP : Nat → Nat) (ec2 : Nat), G sa = none ∧ G pl = none ∧ (1 ≤ (q_ser K S V nC q).2.2.1 → G pe = none) ∧ G2 o = some (.inr (10, [.ref k, .ref ow, .ref ed, .int (nI ((q_ser K S V nC q).1).1), .int (((q_ser K S V nC q).1).2)])) ∧ LiS cy e0 G2 lsv ec2 (nC + 1) (fup fC nC sa) ∧ ((1 ≤ nC ∧ ec2 = ec) ∨ G ec2 = none) ∧ G2 sa = some (.inr (11, [.int (nI (nC + 1)), .ref la, .int ((q_ser K S V nC q).2.1.1), .long ((q_ser K S V nC q).2.1.2.1), .ref pl, .int ((q_ser K S V nC q).2.1.2.2)])) ∧ LiS cy e0 G2 pl pe (q_ser K S V nC q).2.2.1 fP ∧ PRM G2 (q_ser K S V nC q).2.2.1 fP (q_ser K S V nC q).2.2.2 ∧ NW G (q_ser K S V nC q).2.2.1 fP ∧ (1 ≤ (q_ser K S V nC q).2.2.1 → pe ≠ ec2) ∧ ∀ (x : Nat) (e : va_E), G x = some e → x ≠ o → x ≠ lsv → (1 ≤ nC → x ≠ ec) → G2 x = some e) (mk_B D vwCl A) A) 21 (154 + gco nC) A := by
  refine Met.ofW (cc := cX9_takeService) (maxL := 4) (ret := none) (by decide) rfl ?_
  intro p e s m args below meth c s₁ B hml hv
  obtain ⟨rfl, hG, hK, hA, hX⟩ := hv
  have hx := B.exec
  have hb := B.bytes
  have hr := B.returns
  have hlocks := B.notSynchronized
  have hT := hXT s hX
  have hown : s.vm.findClass RX9 = some m.cls := findClass_of_methodNamed B.named
  have hf_X9 : ∀ w ∈ u_ws RX9 TX9 5, w.before ([.ref o, .ref la] : List Value).toArray s = true := tb_list hT fX9
  have hf_X2 : ∀ w ∈ u_ws RX2 TX2 11, w.before ([.ref o, .ref la] : List Value).toArray s = true := tb_list hT fX2
  have hf_X10 : ∀ w ∈ u_ws RX10 TX10 6, w.before ([.ref o, .ref la] : List Value).toArray s = true := tb_list hT fX10
  have hS : va_S A s.heap s.heap [] := va_S.rf
  have hE := hXE s hX
  have hl := lv_entry ([.ref o, .ref la]) (n := 4) (Nat.le_of_ble_eq_true rfl)
  rw [lg_entry_eq]
  generalize (lg_sl ([.ref o, .ref la]) ++ List.replicate (4 - (lg_sl ([.ref o, .ref la])).length) Slot.unset).toArray = ls at hl ⊢
  have hl : lv_has ls 4 [(0, .ref o), (1, .ref la)] := hl
  have hloop : ∀ (n : Nat) (j nF : Nat) (qv qF : Nat × Int32) (sa pl pe : Nat) (sat sz : Int32) (sn : Int64) (fv : Nat → Nat) (dv dF : Nat → PrD), (n + j = 9) → (q_pars K S V n j qv dv = (nF, dF, qF)) → (q_ser K S V nC q = (q_take K S 5 qF, (sat, sn, sz), (nF, dF))) → (qv.1 ≤ q.1 + 6 + 9 * j) → (G sa = none) → (G pl = none) → ∀ (Gv : Nat → Option va_E), (Gv o = some (.inr (10, [.ref k, .ref ow, .ref ed, .int (nI qv.1), .int qv.2]))) → (Gv k = some (.inr (13, [.ref ks, .ref ss, .ref vs, .int (nI tn)]))) → (Gv ks = some (.inl (cy 5, 2001, .inr (.inr (.inr (.inr f1)))))) → (Gv ss = some (.inl (cy 1, 2001, .inl f2))) → (Gv vs = some (.inl (cy 2, 2001, .inr (.inl f3)))) → (Gv ed = some (.inr (3, [.ref lc, .ref ly, .ref lsv, .ref lco, .ref lva, .ref ljo, .ref na, .int nc, va_rf iu, .int wa, va_rf rs]))) → (Gv sa = some (.inr (11, [.int (nI (nC + 1)), .ref la, .int sat, .long sn, .ref pl, .int sz]))) → (LiS cy e0 Gv pl pe j fv) → (PRM Gv j fv dv) → (∀ (x : Nat) (e : va_E), G x = some e → x ≠ o → Gv x = some e) → (1 ≤ j → G pe = none) → (NW G j fv) → ∀ (H : Heap) (locs : List Loc), mm D vwCl A Gv H → va_S A s.heap H locs → ∀ ls : Array Slot, lv_has ls 4 [(0, .ref o), (2, .ref sa), (3, .int (nI j))] → W p l e (headSpec [.code yX9_takeService cX9_takeService 4 none] ({ frames := 9, cells := 21, slots := (154 + gco nC), locals := 270 })).room s m ([.ref o, .ref la] : List Value).toArray below meth c H locs (2 + 2 * j) (9 + 15 * j + sl0 j) (MQ below (va_Qv (fun (G2 : Nat → Option va_E) => ∃ (sa pl pe : Nat) (fP : Nat → Nat) (ec2 : Nat), G sa = none ∧ G pl = none ∧ (1 ≤ (q_ser K S V nC q).2.2.1 → G pe = none) ∧ G2 o = some (.inr (10, [.ref k, .ref ow, .ref ed, .int (nI ((q_ser K S V nC q).1).1), .int (((q_ser K S V nC q).1).2)])) ∧ LiS cy e0 G2 lsv ec2 (nC + 1) (fup fC nC sa) ∧ ((1 ≤ nC ∧ ec2 = ec) ∨ G ec2 = none) ∧ G2 sa = some (.inr (11, [.int (nI (nC + 1)), .ref la, .int ((q_ser K S V nC q).2.1.1), .long ((q_ser K S V nC q).2.1.2.1), .ref pl, .int ((q_ser K S V nC q).2.1.2.2)])) ∧ LiS cy e0 G2 pl pe (q_ser K S V nC q).2.2.1 fP ∧ PRM G2 (q_ser K S V nC q).2.2.1 fP (q_ser K S V nC q).2.2.2 ∧ NW G (q_ser K S V nC q).2.2.1 fP ∧ (1 ≤ (q_ser K S V nC q).2.2.1 → pe ≠ ec2) ∧ ∀ (x : Nat) (e : va_E), G x = some e → x ≠ o → x ≠ lsv → (1 ≤ nC → x ≠ ec) → G2 x = some e) (mk_B D vwCl A) A) ([.ref o, .ref la] : List Value).toArray s 21 (154 + gco nC) A) (F0 m 73 ls []) := by
    intro n
    induction n with
    | zero =>
      intro j nF qv qF sa pl pe sat sz sn fv dv dF hjn hq hZ hpv hsaN hplN Gv v_o v_k v_ks v_ss v_vs v_ed v_sa hls hpr hfr hpe hnw H locs hG hS ls hl
      refine lv_iload_n hx hb dX9_takeService_73 rfl (lv_at hl 2 rfl) ?_
      refine lv_bipush (v := 8) hx hb dX9_takeService_74 (by decide) ?_
      refine lv_icmp_gt (tgt := 100) hx hb dX9_takeService_76 (by decide) (fun c_76 => ?_) (fun c_76 => ?_)
      · skip
        refine lv_aload_n hx hb dX9_takeService_100 rfl (lv_at hl 0 rfl) ?_
        refine va_gets (v := .ref (tk 5)) hx hb (show va_Z "DescribeText$Token" "CLOSE" "LDescribeText$Token;" (.ref (tk 5)) A s s.heap from (hE.2.1 5 (by decide)).1) hS hown (tb_use hT tw_655) (fun _ h9 => h9) dX9_takeService_101 ?_
        refine va_callv (va_runV (As := [.ref (tk 5)]) (rest := []) ⟨hx, hb, hml, hown, (fun _ h9 => absurd h9 List.not_mem_nil : ∀ w ∈ ([] : List Cond), w.before _ s = true)⟩ (c_X9_take l D cy A X hst hXT e0 tk hXE Gv o ow ed qv k ks ss vs tn K S V f1 f2 f3 5 v_o v_k v_ks v_ss v_vs hTP (by first | omega | (simp only []; omega)) (by decide)) (tb_cw (C := RX9) 1 hT tw_539 tw_106 tw_536 tw_538 tw_12 rfl rfl hq_X9_take ⟨Nat.le_of_ble_eq_true rfl, Nat.le_of_ble_eq_true rfl⟩) (mk_preC hst hG hK hA hX hS vc_10 v_o) rfl rfl hl.1 rfl (lv_room (Nat.le_of_ble_eq_true rfl)) dX9_takeService_104 ⟨(by show _ ≤ 21; omega), (by show _ ≤ 154 + gco nC; first | omega | (have := sl0_le j; omega))⟩) hS (fun q _ h => h) (fun q h => h) (fun  G1 t H locs ht hvm hw hB hz1 hk1 hS => ?_)
        have hG : mm D vwCl A G1 H := by rw [← ht]; exact hB
        clear hB hz1 hk1 hvm ht
        obtain ⟨y2, ey2⟩ : ∃ y, y = q_take K S 5 qv := ⟨_, rfl⟩
        rw [← ey2] at hw
        have ly2 : y2.1 ≤ qv.1 + 1 := by rw [ey2]; exact q_take_le
        have eG1 := hw
        clear hw
        have k3 : G1 o = some (.inr (10, [.ref k, .ref ow, .ref ed, .int (nI y2.1), .int y2.2])) := by rw [eG1]; exact mm_set_self
        have k4 : G1 k = some (.inr (13, [.ref ks, .ref ss, .ref vs, .int (nI tn)])) := by rw [eG1]; exact mm_set_of v_k (mm_ne_oo v_k v_o (by decide))
        have k5 : G1 ks = some (.inl (cy 5, 2001, .inr (.inr (.inr (.inr f1))))) := by rw [eG1]; exact mm_set_of v_ks (mm_ne_ao v_ks v_o)
        have k6 : G1 ss = some (.inl (cy 1, 2001, .inl f2)) := by rw [eG1]; exact mm_set_of v_ss (mm_ne_ao v_ss v_o)
        have k7 : G1 vs = some (.inl (cy 2, 2001, .inr (.inl f3))) := by rw [eG1]; exact mm_set_of v_vs (mm_ne_ao v_vs v_o)
        have k8 : G1 ed = some (.inr (3, [.ref lc, .ref ly, .ref lsv, .ref lco, .ref lva, .ref ljo, .ref na, .int nc, va_rf iu, .int wa, va_rf rs])) := by rw [eG1]; exact mm_set_of v_ed (mm_ne_oo v_ed v_o (by decide))
        have k9 : G1 sa = some (.inr (11, [.int (nI (nC + 1)), .ref la, .int sat, .long sn, .ref pl, .int sz])) := by rw [eG1]; exact mm_set_of v_sa (mm_ne_oo v_sa v_o (by decide))
        refine lv_aload_n hx hb dX9_takeService_107 rfl (lv_at hl 0 rfl) ?_
        refine mm_get (v := .ref ed) hx hb hf_X9 (fun _ h9 => h9) hown hK hG k3 rfl 2 (by decide) (tb_use hT tw_179) (fun _ h9 => h9) rfl dX9_takeService_108 ?_
        refine mm_getN (v := .ref lsv) hx hb hf_X2 (fun _ h9 => h9) hown hK hG k8 rfl 2 (by decide) (tb_use hT tw_285) (fun _ h9 => h9) rfl dX9_takeService_111 ?_
        refine lv_aload_n hx hb dX9_takeService_114 rfl (lv_at hl 1 rfl) ?_
        have hfV : ∀ (x : Nat) (e : va_E), Gv x = some e → x ≠ o → G1 x = some e := by
          intro x e z0 n_o
          have z1 : G1 x = some e := by rw [eG1]; exact mm_set_of z0 n_o
          exact z1
        have hLp : LiS cy e0 G1 pl pe j fv := LiS.fr2 (fun x => x ≠ o) hls hfV (hls.ne v_o (by decide)) (fun v _ hv => mm_ne_ao hv v_o)
        have hPp : PRM G1 j fv dv := fun i hi => hfV _ _ (hpr i hi) (mm_ne_oo (hpr i hi) v_o (by decide))
        have hV11 : ∀ (x : Nat) (e : va_E), Gv x = some e → x ≠ o → G1 x = some e := by
          intro x e z0 n_o
          have z1 : G1 x = some e := by rw [eG1]; exact mm_set_of z0 n_o
          exact z1
        have hB10 : ∀ (x : Nat) (e : va_E), G x = some e → x ≠ o → G1 x = some e := fun x e h0 n1 => hV11 x e (hfr x e h0 n1) n1
        have hL12 : LiS cy e0 G1 lsv ec nC fC := LiS.fr2 (fun x => x ≠ o) hlc (fun x e h0 hp => hB10 x e h0 hp) (hlc.ne h0 (by decide)) (fun v _ hv => mm_ne_ao hv h0)
        have hLO2 : LO G1 nC fC := fun j hj => by obtain ⟨fs, z⟩ := hLT j hj; exact ⟨11, fs, _, hB10 _ _ z (mm_ne_oo z h0 (by decide)), rfl, tw_1916, by decide⟩
        obtain ⟨mo15, h_mo15, -⟩ := id hL12
        refine va_calli (va_runV (As := [.ref sa]) (rest := []) ⟨hx, hb, hml, hown, (fun _ h9 => absurd h9 List.not_mem_nil : ∀ w ∈ ([] : List Cond), w.before _ s = true)⟩ (c_LS_add l D cy A X hst hXT e0 tk hXE mi hXL G1 lsv ec nC fC sa 11 _ _ hL12 hLO2 (by omega) k9 rfl (by decide) tw_1916) (tb_cw (C := RJx4a65c) 1 hT tw_597 tw_113 tw_594 tw_595 tw_596 rfl rfl hq_Jx4a65c_add_9ea2d ⟨Nat.le_of_ble_eq_true rfl, Nat.le_of_ble_eq_true rfl⟩) (mk_preC hst hG hK hA hX hS vc_1 h_mo15) rfl rfl hl.1 rfl (lv_room (Nat.le_of_ble_eq_true rfl)) dX9_takeService_115 ⟨(by show _ ≤ 21; omega), (by show _ ≤ 154 + gco nC; first | omega | (have := sl0_le j; omega))⟩) hS (fun q _ h => h) (fun q h => h) (fun r14 G13 t H locs ht hvm hw hB hz1 hk1 hS => ?_)
        have hG : mm D vwCl A G13 H := by rw [← ht]; exact hB
        clear hB hz1 hk1 hvm ht
        obtain ⟨ec2, hlc2, hec2, hf2⟩ := hw
        have hf3 : ∀ (x ci : Nat) (fs : List Value), G1 x = some (.inr (ci, fs)) → ci ≠ 1 → G13 x = some (.inr (ci, fs)) := fun x ci fs h0 hc => hf2 x _ h0 (Ne.symm (hL12.ne h0 hc)) (fun h1 => LiS.nea hL12 h1 h0)
        have k_o : G13 o = some (.inr (10, [.ref k, .ref ow, .ref ed, .int (nI y2.1), .int y2.2])) := hf3 _ _ _ k3 (by decide)
        have k_el : G13 sa = some (.inr (11, [.int (nI (nC + 1)), .ref la, .int sat, .long sn, .ref pl, .int sz])) := hf3 _ _ _ k9 (by decide)
        have hec3 : (1 ≤ nC ∧ ec2 = ec) ∨ G ec2 = none := by
          rcases hec2 with h1 | h1
          · exact Or.inl h1
          · refine Or.inr (none_back hB10 h1 ?_)
            intro z; rw [z, k3] at h1; cases h1
        have hfr9 : ∀ (x : Nat) (e : va_E), G x = some e → x ≠ o → x ≠ lsv → (1 ≤ nC → x ≠ ec) → G13 x = some e := fun x e h0 n1 n2 n3 => hf2 x e (hB10 x e h0 n1) n2 n3
        have npl : pl ≠ lsv := fun z => by obtain ⟨_, z2, -⟩ := hlc; rw [← z, hplN] at z2; cases z2
        have npe : 1 ≤ j → pe ≠ ec2 := by
          intro h1 z
          obtain ⟨v, hv⟩ := hLp.arr h1
          rcases hec2 with ⟨h2, h3⟩ | h2
          · obtain ⟨v2, hv2⟩ := hlc.arr h2
            rw [← h3, ← z, hpe h1] at hv2; cases hv2
          · rw [← z, hv] at h2; cases h2
        have hLp2 : LiS cy e0 G13 pl pe j fv := LiS.fr2 (fun x => x ≠ lsv ∧ (1 ≤ nC → x ≠ ec)) hLp (fun x e h0 hp => hf2 x e h0 hp.1 hp.2) ⟨npl, fun h1 z => (by obtain ⟨v2, hv2⟩ := hlc.arr h1; rw [← z, hplN] at hv2; cases hv2)⟩ (fun v h1 hv => ⟨(fun z => (by obtain ⟨_, z2, -⟩ := hlc; rw [← z, hpe h1] at z2; cases z2)), (fun h2 z => (by obtain ⟨v2, hv2⟩ := hlc.arr h2; rw [← z, hpe h1] at hv2; cases hv2))⟩)
        have hPp2 : PRM G13 j fv dv := fun i hi => hf3 _ _ _ (hPp i hi) (by decide)
        refine lv_pop hx hb dX9_takeService_118 rfl ?_
        have hqq : (j, dv, qv) = (nF, dF, qF) := by rw [← hq]; rfl
        have e1 : nF = j := (congrArg (fun z => z.1) hqq).symm
        have e2 : dF = dv := (congrArg (fun z => z.2.1) hqq).symm
        have e3 : qF = qv := (congrArg (fun z => z.2.2) hqq).symm
        refine W.widen (k := 21) (n := (154 + gco nC)) (by omega) (by have := sl0_le j; omega) ?_
        exact W.vret hx hb hr (fun t ht hW => ⟨⟨_, rfl, (by rw [hZ, e1, e2, e3, ← ey2]; exact ⟨sa, pl, pe, fv, ec2, hsaN, hplN, hpe, k_o, hlc2, hec3, k_el, hLp2, hPp2, hnw, npe, hfr9⟩), mk_end hG ht⟩, hS.F ht⟩) hS.2.2 dX9_takeService_119
      · skip
        exact absurd (show (8 : Int32) < nI j by rw [show (8 : Int32) = nI 8 from rfl]; exact nI_lt (by omega) (by omega)) c_76
    | succ n ih =>
      intro j nF qv qF sa pl pe sat sz sn fv dv dF hjn hq hZ hpv hsaN hplN Gv v_o v_k v_ks v_ss v_vs v_ed v_sa hls hpr hfr hpe hnw H locs hG hS ls hl
      refine lv_iload_n hx hb dX9_takeService_73 rfl (lv_at hl 2 rfl) ?_
      refine lv_bipush (v := 8) hx hb dX9_takeService_74 (by decide) ?_
      refine lv_icmp_gt (tgt := 100) hx hb dX9_takeService_76 (by decide) (fun c_76 => ?_) (fun c_76 => ?_)
      · skip
        exact absurd c_76 (by rw [show (8 : Int32) = nI 8 from rfl]; exact Int32.not_lt.mpr (nI_le (by omega) (by decide)))
      · skip
        refine lv_aload_n hx hb dX9_takeService_79 rfl (lv_at hl 0 rfl) ?_
        refine va_gets (v := .ref (tk 19)) hx hb (show va_Z "DescribeText$Token" "PARAM" "LDescribeText$Token;" (.ref (tk 19)) A s s.heap from (hE.2.1 19 (by decide)).1) hS hown (tb_use hT tw_758) (fun _ h9 => h9) dX9_takeService_80 ?_
        refine va_calli (va_runV (As := [.ref (tk 19)]) (rest := []) ⟨hx, hb, hml, hown, (fun _ h9 => absurd h9 List.not_mem_nil : ∀ w ∈ ([] : List Cond), w.before _ s = true)⟩ (c_X9_sees l D cy A X hst hXT e0 tk hXE Gv o ow ed qv k ks ss vs tn K S V f1 f2 f3 19 v_o v_k v_ks v_ss v_vs hTP (by first | omega | (simp only []; omega)) (by decide)) (tb_cw (C := RX9) 1 hT tw_437 tw_106 tw_434 tw_436 tw_6 rfl rfl hq_X9_sees ⟨Nat.le_of_ble_eq_true rfl, Nat.le_of_ble_eq_true rfl⟩) (mk_preC hst hG hK hA hX hS vc_10 v_o) rfl rfl hl.1 rfl (lv_room (Nat.le_of_ble_eq_true rfl)) dX9_takeService_83 ⟨(by show _ ≤ 21; omega), (by show _ ≤ 154 + gco nC; first | omega | (have := sl0_le j; omega))⟩) hS (fun q _ h => h) (fun q h => h) (fun r16 G17 t H locs ht hvm hw hB hz1 hk1 hS => ?_)
        have hG : mm D vwCl A G17 H := by rw [← ht]; exact hB
        clear hB hz1 hk1 hvm ht
        obtain ⟨er16, hw⟩ := hw
        rw [hw] at hG
        refine lv_if_eq (tgt := 100) hx hb dX9_takeService_86 (by decide) (fun c_86 => ?_) (fun c_86 => ?_)
        · skip
          refine lv_aload_n hx hb dX9_takeService_100 rfl (lv_at hl 0 rfl) ?_
          refine va_gets (v := .ref (tk 5)) hx hb (show va_Z "DescribeText$Token" "CLOSE" "LDescribeText$Token;" (.ref (tk 5)) A s s.heap from (hE.2.1 5 (by decide)).1) hS hown (tb_use hT tw_655) (fun _ h9 => h9) dX9_takeService_101 ?_
          refine va_callv (va_runV (As := [.ref (tk 5)]) (rest := []) ⟨hx, hb, hml, hown, (fun _ h9 => absurd h9 List.not_mem_nil : ∀ w ∈ ([] : List Cond), w.before _ s = true)⟩ (c_X9_take l D cy A X hst hXT e0 tk hXE Gv o ow ed qv k ks ss vs tn K S V f1 f2 f3 5 v_o v_k v_ks v_ss v_vs hTP (by first | omega | (simp only []; omega)) (by decide)) (tb_cw (C := RX9) 1 hT tw_539 tw_106 tw_536 tw_538 tw_12 rfl rfl hq_X9_take ⟨Nat.le_of_ble_eq_true rfl, Nat.le_of_ble_eq_true rfl⟩) (mk_preC hst hG hK hA hX hS vc_10 v_o) rfl rfl hl.1 rfl (lv_room (Nat.le_of_ble_eq_true rfl)) dX9_takeService_104 ⟨(by show _ ≤ 21; omega), (by show _ ≤ 154 + gco nC; first | omega | (have := sl0_le j; omega))⟩) hS (fun q _ h => h) (fun q h => h) (fun  G18 t H locs ht hvm hw hB hz1 hk1 hS => ?_)
          have hG : mm D vwCl A G18 H := by rw [← ht]; exact hB
          clear hB hz1 hk1 hvm ht
          obtain ⟨y19, ey19⟩ : ∃ y, y = q_take K S 5 qv := ⟨_, rfl⟩
          rw [← ey19] at hw
          have ly19 : y19.1 ≤ qv.1 + 1 := by rw [ey19]; exact q_take_le
          have eG18 := hw
          clear hw
          have k20 : G18 o = some (.inr (10, [.ref k, .ref ow, .ref ed, .int (nI y19.1), .int y19.2])) := by rw [eG18]; exact mm_set_self
          have k21 : G18 k = some (.inr (13, [.ref ks, .ref ss, .ref vs, .int (nI tn)])) := by rw [eG18]; exact mm_set_of v_k (mm_ne_oo v_k v_o (by decide))
          have k22 : G18 ks = some (.inl (cy 5, 2001, .inr (.inr (.inr (.inr f1))))) := by rw [eG18]; exact mm_set_of v_ks (mm_ne_ao v_ks v_o)
          have k23 : G18 ss = some (.inl (cy 1, 2001, .inl f2)) := by rw [eG18]; exact mm_set_of v_ss (mm_ne_ao v_ss v_o)
          have k24 : G18 vs = some (.inl (cy 2, 2001, .inr (.inl f3))) := by rw [eG18]; exact mm_set_of v_vs (mm_ne_ao v_vs v_o)
          have k25 : G18 ed = some (.inr (3, [.ref lc, .ref ly, .ref lsv, .ref lco, .ref lva, .ref ljo, .ref na, .int nc, va_rf iu, .int wa, va_rf rs])) := by rw [eG18]; exact mm_set_of v_ed (mm_ne_oo v_ed v_o (by decide))
          have k26 : G18 sa = some (.inr (11, [.int (nI (nC + 1)), .ref la, .int sat, .long sn, .ref pl, .int sz])) := by rw [eG18]; exact mm_set_of v_sa (mm_ne_oo v_sa v_o (by decide))
          refine lv_aload_n hx hb dX9_takeService_107 rfl (lv_at hl 0 rfl) ?_
          refine mm_get (v := .ref ed) hx hb hf_X9 (fun _ h9 => h9) hown hK hG k20 rfl 2 (by decide) (tb_use hT tw_179) (fun _ h9 => h9) rfl dX9_takeService_108 ?_
          refine mm_getN (v := .ref lsv) hx hb hf_X2 (fun _ h9 => h9) hown hK hG k25 rfl 2 (by decide) (tb_use hT tw_285) (fun _ h9 => h9) rfl dX9_takeService_111 ?_
          refine lv_aload_n hx hb dX9_takeService_114 rfl (lv_at hl 1 rfl) ?_
          have hfV : ∀ (x : Nat) (e : va_E), Gv x = some e → x ≠ o → G18 x = some e := by
            intro x e z0 n_o
            have z1 : G18 x = some e := by rw [eG18]; exact mm_set_of z0 n_o
            exact z1
          have hLp : LiS cy e0 G18 pl pe j fv := LiS.fr2 (fun x => x ≠ o) hls hfV (hls.ne v_o (by decide)) (fun v _ hv => mm_ne_ao hv v_o)
          have hPp : PRM G18 j fv dv := fun i hi => hfV _ _ (hpr i hi) (mm_ne_oo (hpr i hi) v_o (by decide))
          have hV28 : ∀ (x : Nat) (e : va_E), Gv x = some e → x ≠ o → G18 x = some e := by
            intro x e z0 n_o
            have z1 : G18 x = some e := by rw [eG18]; exact mm_set_of z0 n_o
            exact z1
          have hB27 : ∀ (x : Nat) (e : va_E), G x = some e → x ≠ o → G18 x = some e := fun x e h0 n1 => hV28 x e (hfr x e h0 n1) n1
          have hL29 : LiS cy e0 G18 lsv ec nC fC := LiS.fr2 (fun x => x ≠ o) hlc (fun x e h0 hp => hB27 x e h0 hp) (hlc.ne h0 (by decide)) (fun v _ hv => mm_ne_ao hv h0)
          have hLO2 : LO G18 nC fC := fun j hj => by obtain ⟨fs, z⟩ := hLT j hj; exact ⟨11, fs, _, hB27 _ _ z (mm_ne_oo z h0 (by decide)), rfl, tw_1916, by decide⟩
          obtain ⟨mo32, h_mo32, -⟩ := id hL29
          refine va_calli (va_runV (As := [.ref sa]) (rest := []) ⟨hx, hb, hml, hown, (fun _ h9 => absurd h9 List.not_mem_nil : ∀ w ∈ ([] : List Cond), w.before _ s = true)⟩ (c_LS_add l D cy A X hst hXT e0 tk hXE mi hXL G18 lsv ec nC fC sa 11 _ _ hL29 hLO2 (by omega) k26 rfl (by decide) tw_1916) (tb_cw (C := RJx4a65c) 1 hT tw_597 tw_113 tw_594 tw_595 tw_596 rfl rfl hq_Jx4a65c_add_9ea2d ⟨Nat.le_of_ble_eq_true rfl, Nat.le_of_ble_eq_true rfl⟩) (mk_preC hst hG hK hA hX hS vc_1 h_mo32) rfl rfl hl.1 rfl (lv_room (Nat.le_of_ble_eq_true rfl)) dX9_takeService_115 ⟨(by show _ ≤ 21; omega), (by show _ ≤ 154 + gco nC; first | omega | (have := sl0_le j; omega))⟩) hS (fun q _ h => h) (fun q h => h) (fun r31 G30 t H locs ht hvm hw hB hz1 hk1 hS => ?_)
          have hG : mm D vwCl A G30 H := by rw [← ht]; exact hB
          clear hB hz1 hk1 hvm ht
          obtain ⟨ec2, hlc2, hec2, hf2⟩ := hw
          have hf3 : ∀ (x ci : Nat) (fs : List Value), G18 x = some (.inr (ci, fs)) → ci ≠ 1 → G30 x = some (.inr (ci, fs)) := fun x ci fs h0 hc => hf2 x _ h0 (Ne.symm (hL29.ne h0 hc)) (fun h1 => LiS.nea hL29 h1 h0)
          have k_o : G30 o = some (.inr (10, [.ref k, .ref ow, .ref ed, .int (nI y19.1), .int y19.2])) := hf3 _ _ _ k20 (by decide)
          have k_el : G30 sa = some (.inr (11, [.int (nI (nC + 1)), .ref la, .int sat, .long sn, .ref pl, .int sz])) := hf3 _ _ _ k26 (by decide)
          have hec3 : (1 ≤ nC ∧ ec2 = ec) ∨ G ec2 = none := by
            rcases hec2 with h1 | h1
            · exact Or.inl h1
            · refine Or.inr (none_back hB27 h1 ?_)
              intro z; rw [z, k20] at h1; cases h1
          have hfr9 : ∀ (x : Nat) (e : va_E), G x = some e → x ≠ o → x ≠ lsv → (1 ≤ nC → x ≠ ec) → G30 x = some e := fun x e h0 n1 n2 n3 => hf2 x e (hB27 x e h0 n1) n2 n3
          have npl : pl ≠ lsv := fun z => by obtain ⟨_, z2, -⟩ := hlc; rw [← z, hplN] at z2; cases z2
          have npe : 1 ≤ j → pe ≠ ec2 := by
            intro h1 z
            obtain ⟨v, hv⟩ := hLp.arr h1
            rcases hec2 with ⟨h2, h3⟩ | h2
            · obtain ⟨v2, hv2⟩ := hlc.arr h2
              rw [← h3, ← z, hpe h1] at hv2; cases hv2
            · rw [← z, hv] at h2; cases h2
          have hLp2 : LiS cy e0 G30 pl pe j fv := LiS.fr2 (fun x => x ≠ lsv ∧ (1 ≤ nC → x ≠ ec)) hLp (fun x e h0 hp => hf2 x e h0 hp.1 hp.2) ⟨npl, fun h1 z => (by obtain ⟨v2, hv2⟩ := hlc.arr h1; rw [← z, hplN] at hv2; cases hv2)⟩ (fun v h1 hv => ⟨(fun z => (by obtain ⟨_, z2, -⟩ := hlc; rw [← z, hpe h1] at z2; cases z2)), (fun h2 z => (by obtain ⟨v2, hv2⟩ := hlc.arr h2; rw [← z, hpe h1] at hv2; cases hv2))⟩)
          have hPp2 : PRM G30 j fv dv := fun i hi => hf3 _ _ _ (hPp i hi) (by decide)
          refine lv_pop hx hb dX9_takeService_118 rfl ?_
          have hse : se K qv.1 qv.2 19 = false := by rw [er16] at c_86; revert c_86; cases se K qv.1 qv.2 19 <;> simp [b2i]
          have hqq : (j, dv, qv) = (nF, dF, qF) := by rw [← hq, q_pars, if_neg (by rw [hse]; decide)]
          have e1 : nF = j := (congrArg (fun z => z.1) hqq).symm
          have e2 : dF = dv := (congrArg (fun z => z.2.1) hqq).symm
          have e3 : qF = qv := (congrArg (fun z => z.2.2) hqq).symm
          refine W.widen (k := 21) (n := (154 + gco nC)) (by omega) (by have := sl0_le j; omega) ?_
          exact W.vret hx hb hr (fun t ht hW => ⟨⟨_, rfl, (by rw [hZ, e1, e2, e3, ← ey19]; exact ⟨sa, pl, pe, fv, ec2, hsaN, hplN, hpe, k_o, hlc2, hec3, k_el, hLp2, hPp2, hnw, npe, hfr9⟩), mk_end hG ht⟩, hS.F ht⟩) hS.2.2 dX9_takeService_119
        · skip
          refine lv_aload_n hx hb dX9_takeService_89 rfl (lv_at hl 0 rfl) ?_
          refine lv_aload_n hx hb dX9_takeService_90 rfl (lv_at hl 1 rfl) ?_
          refine va_callv (va_runV (As := [.ref sa]) (rest := []) ⟨hx, hb, hml, hown, (fun _ h9 => absurd h9 List.not_mem_nil : ∀ w ∈ ([] : List Cond), w.before _ s = true)⟩ (c_X9_takeParameter l D cy A X hst hXT e0 tk hXE mi hXL Gv o ow ed qv k ks ss vs tn K S V f1 f2 f3 sa la pl (nI (nC + 1)) sat sz sn pe j fv v_o v_k v_ks v_ss v_vs hTP (by first | omega | (simp only []; omega)) v_sa hls (fun i hi => ⟨_, hpr i hi⟩) (by omega)) (tb_cw (C := RX9) 1 hT tw_763 tw_106 tw_760 tw_762 tw_24 rfl rfl hq_X9_takeParameter ⟨Nat.le_of_ble_eq_true rfl, Nat.le_of_ble_eq_true rfl⟩) (mk_preC hst hG hK hA hX hS vc_10 v_o) rfl rfl hl.1 rfl (lv_room (Nat.le_of_ble_eq_true rfl)) dX9_takeService_91 ⟨(by show _ ≤ 21; omega), (by show _ ≤ 154 + gco nC; have h1 := sl0_go j (by omega); have h2 := sl0_le (j + 1); omega)⟩) hS (fun q _ h => h) (fun q h => h) (fun  G33 t H locs ht hvm hw hB hz1 hk1 hS => ?_)
          have hG : mm D vwCl A G33 H := by rw [← ht]; exact hB
          clear hB hz1 hk1 hvm ht
          obtain ⟨y35, ey35⟩ : ∃ y, y = q_par K S V j qv := ⟨_, rfl⟩
          rw [← ey35] at hw
          obtain ⟨pa, pe2, hpaN, h34_1, hls2, hpe2, h34_2, hf9⟩ := hw
          have ly35 : y35.1.1 ≤ qv.1 + 9 := by rw [ey35]; exact q_par_le
          have k36 : G33 k = some (.inr (13, [.ref ks, .ref ss, .ref vs, .int (nI tn)])) := hf9 _ _ v_k (mm_ne_oo v_k v_o (by decide)) (Ne.symm (hls.ne v_k (by decide))) (fun h1 => LiS.nea hls h1 v_k)
          have k37 : G33 ks = some (.inl (cy 5, 2001, .inr (.inr (.inr (.inr f1))))) := hf9 _ _ v_ks (mm_ne_ao v_ks v_o) (Ne.symm (LiS.nal hls v_ks)) (fun h1 => LiS.nar hls h1 v_ks (by intro gv9 z; have z2 := (Prod.mk.inj (Prod.mk.inj (Sum.inl.inj z)).2); first | (exact absurd z2.1 (cpf_ne _)) | (cases z2.2)))
          have k38 : G33 ss = some (.inl (cy 1, 2001, .inl f2)) := hf9 _ _ v_ss (mm_ne_ao v_ss v_o) (Ne.symm (LiS.nal hls v_ss)) (fun h1 => LiS.nar hls h1 v_ss (by intro gv9 z; have z2 := (Prod.mk.inj (Prod.mk.inj (Sum.inl.inj z)).2); first | (exact absurd z2.1 (cpf_ne _)) | (cases z2.2)))
          have k39 : G33 vs = some (.inl (cy 2, 2001, .inr (.inl f3))) := hf9 _ _ v_vs (mm_ne_ao v_vs v_o) (Ne.symm (LiS.nal hls v_vs)) (fun h1 => LiS.nar hls h1 v_vs (by intro gv9 z; have z2 := (Prod.mk.inj (Prod.mk.inj (Sum.inl.inj z)).2); first | (exact absurd z2.1 (cpf_ne _)) | (cases z2.2)))
          have k40 : G33 ed = some (.inr (3, [.ref lc, .ref ly, .ref lsv, .ref lco, .ref lva, .ref ljo, .ref na, .int nc, va_rf iu, .int wa, va_rf rs])) := hf9 _ _ v_ed (mm_ne_oo v_ed v_o (by decide)) (Ne.symm (hls.ne v_ed (by decide))) (fun h1 => LiS.nea hls h1 v_ed)
          have k41 : G33 sa = some (.inr (11, [.int (nI (nC + 1)), .ref la, .int sat, .long sn, .ref pl, .int sz])) := hf9 _ _ v_sa (mm_ne_oo v_sa v_o (by decide)) (Ne.symm (hls.ne v_sa (by decide))) (fun h1 => LiS.nea hls h1 v_sa)
          obtain ⟨x42, ex42⟩ : ∃ y : Int32, y = (nI j) + 1 := ⟨_, rfl⟩
          refine lv_iinc (v := x42) (lv' := [(3, .int x42), (0, .ref o), (2, .ref sa)]) hx hb dX9_takeService_94 hl (k := 2) rfl (by rw [ex42]; rfl) (by decide) rfl (fun ls hl => ?_)
          refine lv_goto (tgt := 73) hx hb dX9_takeService_97 (by decide) ?_
          rw [show x42 = nI (j + 1) by rw [ex42]; exact (nI_succ j).symm] at hl
          have hse : se K qv.1 qv.2 19 = true := by rw [er16] at c_86; revert c_86; cases se K qv.1 qv.2 19 <;> simp [b2i]
          have hq2 : q_pars K S V n (j + 1) y35.1 (dupP dv j y35.2) = (nF, dF, qF) := by
            rw [← hq]
            show _ = q_pars K S V (n + 1) j qv dv
            rw [q_pars, if_pos hse, ← ey35]
          have hne : ∀ i, i < j → fv i ≠ pa := fun i hi z => by have z2 := hpr i hi; rw [z, hpaN] at z2; cases z2
          have hpr2 : PRM G33 (j + 1) (fup fv j pa) (dupP dv j y35.2) := by
            intro i hi
            by_cases hz : i = j
            · rw [hz, fup_eq]
              simp only [dupP, if_true]
              exact h34_2
            · rw [fup_lt (by omega)]
              simp only [dupP, hz, if_false]
              exact hf9 _ _ (hpr i (by omega)) (mm_ne_oo (hpr i (by omega)) v_o (by decide)) (Ne.symm (hls.ne (hpr i (by omega)) (by decide))) (fun h1 => LiS.nea hls h1 (hpr i (by omega)))
          have hfr2 : ∀ (x : Nat) (e : va_E), G x = some e → x ≠ o → G33 x = some e := fun x e h0 n1 => hf9 x e (hfr x e h0 n1) n1 (fun z => by rw [z, hplN] at h0; cases h0) (fun h1 z => by rw [z, hpe h1] at h0; cases h0)
          have hpe3 : 1 ≤ j + 1 → G pe2 = none := by
            intro _
            rcases hpe2 with ⟨h1, h2⟩ | h2
            · rw [h2]; exact hpe h1
            · exact none_back hfr h2 (fun z => by rw [z, v_o] at h2; cases h2)
          have hnw2 : NW G (j + 1) (fup fv j pa) := NW.up (Gv := Gv) hnw (none_back hfr hpaN (fun z => by rw [z, v_o] at hpaN; cases hpaN)) hne
          refine W.widen (k := 2 + 2 * (j + 1)) (n := 9 + 15 * (j + 1) + sl0 (j + 1)) (by omega) (by have := sl0_go j (by omega); omega) ?_
          exact ih (j + 1) nF y35.1 qF sa pl pe2 sat sz sn (fup fv j pa) (dupP dv j y35.2) dF (by omega) hq2 hZ (by omega) hsaN hplN G33 h34_1 k36 k37 k38 k39 k40 k41 hls2 hpr2 hfr2 hpe3 hnw2 _ _ hG hS ls (lv_sub hl [1, 2, 0] rfl)
  refine lv_aload_n hx hb dX9_takeService_0 rfl (lv_at hl 0 rfl) ?_
  refine lv_aload_n hx hb dX9_takeService_1 rfl (lv_at hl 0 rfl) ?_
  refine mm_get (v := .ref ed) hx hb hf_X9 (fun _ h9 => h9) hown hK hG h0 rfl 2 (by decide) (tb_use hT tw_179) (fun _ h9 => h9) rfl dX9_takeService_2 ?_
  refine mm_getN (v := .ref lsv) hx hb hf_X2 (fun _ h9 => h9) hown hK hG hed rfl 2 (by decide) (tb_use hT tw_285) (fun _ h9 => h9) rfl dX9_takeService_5 ?_
  have hB43 : ∀ (x : Nat) (e : va_E), G x = some e → x ≠ o → G x = some e := by
    intro x e z0 n_o
    exact z0
  have hL44 : LiS cy e0 G lsv ec nC fC := LiS.fr2 (fun x => x ≠ o) hlc (fun x e h0 hp => hB43 x e h0 hp) (hlc.ne h0 (by decide)) (fun v _ hv => mm_ne_ao hv h0)
  obtain ⟨mo45, h_mo45, -⟩ := id hL44
  refine va_calli (va_runV (As := []) (rest := [.ref o]) ⟨hx, hb, hml, hown, (fun _ h9 => absurd h9 List.not_mem_nil : ∀ w ∈ ([] : List Cond), w.before _ s = true)⟩ (c_LS_size l D cy A X hst hXT e0 tk hXE mi hXL G lsv ec nC fC hL44) (tb_cw (C := RJx4a65c) 0 hT tw_457 tw_113 tw_454 tw_455 tw_456 rfl rfl hq_Jx4a65c_size_8abf5 ⟨Nat.le_of_ble_eq_true rfl, Nat.le_of_ble_eq_true rfl⟩) (mk_preC hst hG hK hA hX hS vc_1 h_mo45) rfl rfl hl.1 rfl (lv_room (Nat.le_of_ble_eq_true rfl)) dX9_takeService_8 ⟨(by show _ ≤ 21; omega), (by show _ ≤ 154 + gco nC; first | omega | (have := sl0_le j; omega))⟩) hS (fun q _ h => h) (fun q h => h) (fun r46 G47 t H locs ht hvm hw hB hz1 hk1 hS => ?_)
  have hG : mm D vwCl A G47 H := by rw [← ht]; exact hB
  clear hB hz1 hk1 hvm ht
  obtain ⟨rfl, hw⟩ := hw
  rw [hw] at hG
  refine lv_bipush (v := 16) hx hb dX9_takeService_11 (by decide) ?_
  refine va_callv (va_runV (As := [.int (nI nC), .int 16]) (rest := []) ⟨hx, hb, hml, hown, (fun _ h9 => absurd h9 List.not_mem_nil : ∀ w ∈ ([] : List Cond), w.before _ s = true)⟩ (c_X9_begin l D cy A X hst hXT e0 tk hXE G o ow ed q k ks ss vs tn K S V f1 f2 f3 (nI nC) 16 h0 q1 q2 q3 q4 hTP (by first | omega | (simp only []; omega)) ) (tb_cw (C := RX9) 2 hT tw_461 tw_106 tw_458 tw_460 tw_8 rfl rfl hq_X9_begin ⟨Nat.le_of_ble_eq_true rfl, Nat.le_of_ble_eq_true rfl⟩) (mk_preC hst hG hK hA hX hS vc_10 h0) rfl rfl hl.1 rfl (lv_room (Nat.le_of_ble_eq_true rfl)) dX9_takeService_13 ⟨(by show _ ≤ 21; omega), (by show _ ≤ 154 + gco nC; first | omega | (have := sl0_le j; omega))⟩) hS (fun q _ h => h) (fun q h => h) (fun  G48 t H locs ht hvm hw hB hz1 hk1 hS => ?_)
  have hG : mm D vwCl A G48 H := by rw [← ht]; exact hB
  clear hB hz1 hk1 hvm ht
  obtain ⟨y49, ey49⟩ : ∃ y, y = q_begin S (nI nC) 16 q := ⟨_, rfl⟩
  rw [← ey49] at hw
  have ly49 : y49.1 ≤ q.1 + 1 := by rw [ey49]; exact q_begin_le
  have eG48 := hw
  clear hw
  have k50 : G48 o = some (.inr (10, [.ref k, .ref ow, .ref ed, .int (nI y49.1), .int y49.2])) := by rw [eG48]; exact mm_set_self
  have k51 : G48 k = some (.inr (13, [.ref ks, .ref ss, .ref vs, .int (nI tn)])) := by rw [eG48]; exact mm_set_of q1 (mm_ne_oo q1 h0 (by decide))
  have k52 : G48 ks = some (.inl (cy 5, 2001, .inr (.inr (.inr (.inr f1))))) := by rw [eG48]; exact mm_set_of q2 (mm_ne_ao q2 h0)
  have k53 : G48 ss = some (.inl (cy 1, 2001, .inl f2)) := by rw [eG48]; exact mm_set_of q3 (mm_ne_ao q3 h0)
  have k54 : G48 vs = some (.inl (cy 2, 2001, .inr (.inl f3))) := by rw [eG48]; exact mm_set_of q4 (mm_ne_ao q4 h0)
  have k55 : G48 ed = some (.inr (3, [.ref lc, .ref ly, .ref lsv, .ref lco, .ref lva, .ref ljo, .ref na, .int nc, va_rf iu, .int wa, va_rf rs])) := by rw [eG48]; exact mm_set_of hed (mm_ne_oo hed h0 (by decide))
  refine mm_new (ci := 11) (fs := [.int 0, .null, .int 0, .long 0, .null, .int 0]) hx hb hf_X10 (fun _ h9 => h9) tyX10 tyX10_ok hown (tb_use hT tw_720) (tb_use hT tw_721) (tb_use hT tw_128) hK hG hS hA rfl (fun j hj => by rcases (show j = 0 ∨ j = 1 ∨ j = 2 ∨ j = 3 ∨ j = 4 ∨ j = 5 by omega) with rfl | rfl | rfl | rfl | rfl | rfl <;> rfl) (by show _ ≤ 21; omega) (by show _ ≤ 154 + gco nC; omega) dX9_takeService_16 (fun q56 H hn_q56 hG hS => ?_)
  obtain ⟨G57, eG57⟩ : ∃ g, g = mm_set G48 q56 (.inr (11, [.int 0, .null, .int 0, .long 0, .null, .int 0])) := ⟨_, rfl⟩
  have hG : mm D vwCl A G57 H := by rw [eG57]; exact hG
  have k58 : G57 o = some (.inr (10, [.ref k, .ref ow, .ref ed, .int (nI y49.1), .int y49.2])) := by rw [eG57]; exact mm_set_new k50 hn_q56
  have k59 : G57 k = some (.inr (13, [.ref ks, .ref ss, .ref vs, .int (nI tn)])) := by rw [eG57]; exact mm_set_new k51 hn_q56
  have k60 : G57 ks = some (.inl (cy 5, 2001, .inr (.inr (.inr (.inr f1))))) := by rw [eG57]; exact mm_set_new k52 hn_q56
  have k61 : G57 ss = some (.inl (cy 1, 2001, .inl f2)) := by rw [eG57]; exact mm_set_new k53 hn_q56
  have k62 : G57 vs = some (.inl (cy 2, 2001, .inr (.inl f3))) := by rw [eG57]; exact mm_set_new k54 hn_q56
  have k63 : G57 ed = some (.inr (3, [.ref lc, .ref ly, .ref lsv, .ref lco, .ref lva, .ref ljo, .ref na, .int nc, va_rf iu, .int wa, va_rf rs])) := by rw [eG57]; exact mm_set_new k55 hn_q56
  have k64 : G57 q56 = some (.inr (11, [.int 0, .null, .int 0, .long 0, .null, .int 0])) := by rw [eG57]; exact mm_set_self
  refine lv_dup hx hb dX9_takeService_19 rfl ?_
  refine lv_aload_n hx hb dX9_takeService_20 rfl (lv_at hl 0 rfl) ?_
  refine mm_get (v := .ref ed) hx hb hf_X9 (fun _ h9 => h9) hown hK hG k58 rfl 2 (by decide) (tb_use hT tw_179) (fun _ h9 => h9) rfl dX9_takeService_21 ?_
  refine mm_getN (v := .ref lsv) hx hb hf_X2 (fun _ h9 => h9) hown hK hG k63 rfl 2 (by decide) (tb_use hT tw_285) (fun _ h9 => h9) rfl dX9_takeService_24 ?_
  have hB65 : ∀ (x : Nat) (e : va_E), G x = some e → x ≠ o → G57 x = some e := by
    intro x e z0 n_o
    have z1 : G48 x = some e := by rw [eG48]; exact mm_set_of z0 n_o
    have n_q56 : x ≠ q56 := fun z => by rw [z, hn_q56] at z1; cases z1
    have z2 : G57 x = some e := by rw [eG57]; exact mm_set_of z1 n_q56
    exact z2
  have hL66 : LiS cy e0 G57 lsv ec nC fC := LiS.fr2 (fun x => x ≠ o) hlc (fun x e h0 hp => hB65 x e h0 hp) (hlc.ne h0 (by decide)) (fun v _ hv => mm_ne_ao hv h0)
  obtain ⟨mo67, h_mo67, -⟩ := id hL66
  refine va_calli (va_runV (As := []) (rest := [.ref q56, .ref q56]) ⟨hx, hb, hml, hown, (fun _ h9 => absurd h9 List.not_mem_nil : ∀ w ∈ ([] : List Cond), w.before _ s = true)⟩ (c_LS_size l D cy A X hst hXT e0 tk hXE mi hXL G57 lsv ec nC fC hL66) (tb_cw (C := RJx4a65c) 0 hT tw_457 tw_113 tw_454 tw_455 tw_456 rfl rfl hq_Jx4a65c_size_8abf5 ⟨Nat.le_of_ble_eq_true rfl, Nat.le_of_ble_eq_true rfl⟩) (mk_preC hst hG hK hA hX hS vc_1 h_mo67) rfl rfl hl.1 rfl (lv_room (Nat.le_of_ble_eq_true rfl)) dX9_takeService_27 ⟨(by show _ ≤ 21; omega), (by show _ ≤ 154 + gco nC; first | omega | (have := sl0_le j; omega))⟩) hS (fun q _ h => h) (fun q h => h) (fun r68 G69 t H locs ht hvm hw hB hz1 hk1 hS => ?_)
  have hG : mm D vwCl A G69 H := by rw [← ht]; exact hB
  clear hB hz1 hk1 hvm ht
  obtain ⟨rfl, hw⟩ := hw
  rw [hw] at hG
  refine lv_iconst (v := 1) hx hb dX9_takeService_30 (by decide) ?_
  refine lv_iadd hx hb dX9_takeService_31 ?_
  rw [← nI_succ nC]
  refine lv_aload_n hx hb dX9_takeService_32 rfl (lv_at hl 1 rfl) ?_
  refine lv_aload_n hx hb dX9_takeService_33 rfl (lv_at hl 0 rfl) ?_
  refine va_calli (va_runV (As := []) (rest := [.ref la, .int (nI (nC + 1)), .ref q56, .ref q56]) ⟨hx, hb, hml, hown, (fun _ h9 => absurd h9 List.not_mem_nil : ∀ w ∈ ([] : List Cond), w.before _ s = true)⟩ (c_X9_start l D cy A X hst hXT e0 tk hXE G57 o ow ed y49 k ks ss vs tn K S V f1 f2 f3  k58 k59 k60 k61 k62 hTP (by first | omega | (simp only []; omega)) ) (tb_cw (C := RX9) 0 hT tw_475 tw_106 tw_472 tw_474 tw_10 rfl rfl hq_X9_start ⟨Nat.le_of_ble_eq_true rfl, Nat.le_of_ble_eq_true rfl⟩) (mk_preC hst hG hK hA hX hS vc_10 k58) rfl rfl hl.1 rfl (lv_room (Nat.le_of_ble_eq_true rfl)) dX9_takeService_34 ⟨(by show _ ≤ 21; omega), (by show _ ≤ 154 + gco nC; first | omega | (have := sl0_le j; omega))⟩) hS (fun q _ h => h) (fun q h => h) (fun r70 G71 t H locs ht hvm hw hB hz1 hk1 hS => ?_)
  have hG : mm D vwCl A G71 H := by rw [← ht]; exact hB
  clear hB hz1 hk1 hvm ht
  obtain ⟨er70, hw⟩ := hw
  rw [hw] at hG
  refine lv_aload_n hx hb dX9_takeService_37 rfl (lv_at hl 0 rfl) ?_
  refine va_calll (va_runV (As := []) (rest := [.int r70, .ref la, .int (nI (nC + 1)), .ref q56, .ref q56]) ⟨hx, hb, hml, hown, (fun _ h9 => absurd h9 List.not_mem_nil : ∀ w ∈ ([] : List Cond), w.before _ s = true)⟩ (c_X9_takeName l D cy A X hst hXT e0 tk hXE G57 o ow ed y49 k ks ss vs tn K S V f1 f2 f3  k58 k59 k60 k61 k62 hTP (by first | omega | (simp only []; omega)) ) (tb_cw (C := RX9) 0 hT tw_479 tw_106 tw_476 tw_478 tw_11 rfl rfl hq_X9_takeName ⟨Nat.le_of_ble_eq_true rfl, Nat.le_of_ble_eq_true rfl⟩) (mk_preC hst hG hK hA hX hS vc_10 k58) rfl rfl hl.1 rfl (lv_room (Nat.le_of_ble_eq_true rfl)) dX9_takeService_38 ⟨(by show _ ≤ 21; omega), (by show _ ≤ 154 + gco nC; first | omega | (have := sl0_le j; omega))⟩) hS (fun q _ h => h) (fun q h => h) (fun r72 G73 t H locs ht hvm hw hB hz1 hk1 hS => ?_)
  have hG : mm D vwCl A G73 H := by rw [← ht]; exact hB
  clear hB hz1 hk1 hvm ht
  obtain ⟨y74, ey74⟩ : ∃ y, y = q_name K S V y49 := ⟨_, rfl⟩
  rw [← ey74] at hw
  obtain ⟨er72, hw⟩ := hw
  have ly74 : y74.2.1 ≤ y49.1 + 1 := by rw [ey74]; exact q_name_le
  have eG73 := hw
  clear hw
  have k75 : G73 o = some (.inr (10, [.ref k, .ref ow, .ref ed, .int (nI y74.2.1), .int y74.2.2])) := by rw [eG73]; exact mm_set_self
  have k76 : G73 k = some (.inr (13, [.ref ks, .ref ss, .ref vs, .int (nI tn)])) := by rw [eG73]; exact mm_set_of k59 (mm_ne_oo k59 k58 (by decide))
  have k77 : G73 ks = some (.inl (cy 5, 2001, .inr (.inr (.inr (.inr f1))))) := by rw [eG73]; exact mm_set_of k60 (mm_ne_ao k60 k58)
  have k78 : G73 ss = some (.inl (cy 1, 2001, .inl f2)) := by rw [eG73]; exact mm_set_of k61 (mm_ne_ao k61 k58)
  have k79 : G73 vs = some (.inl (cy 2, 2001, .inr (.inl f3))) := by rw [eG73]; exact mm_set_of k62 (mm_ne_ao k62 k58)
  have k80 : G73 ed = some (.inr (3, [.ref lc, .ref ly, .ref lsv, .ref lco, .ref lva, .ref ljo, .ref na, .int nc, va_rf iu, .int wa, va_rf rs])) := by rw [eG73]; exact mm_set_of k63 (mm_ne_oo k63 k58 (by decide))
  have k81 : G73 q56 = some (.inr (11, [.int 0, .null, .int 0, .long 0, .null, .int 0])) := by rw [eG73]; exact mm_set_of k64 (mm_ne_oo k64 k58 (by decide))
  have hB82 : ∀ (x : Nat) (e : va_E), G x = some e → x ≠ o → G73 x = some e := by
    intro x e z0 n_o
    have z1 : G48 x = some e := by rw [eG48]; exact mm_set_of z0 n_o
    have n_q56 : x ≠ q56 := fun z => by rw [z, hn_q56] at z1; cases z1
    have z2 : G57 x = some e := by rw [eG57]; exact mm_set_of z1 n_q56
    have z3 : G73 x = some e := by rw [eG73]; exact mm_set_of z2 n_o
    exact z3
  refine va_callv (va_runI (As := [.int (nI (nC + 1)), .ref la, .int r70, .long r72]) (rest := [.ref q56]) ⟨hx, hb, hml, hown, (fun _ h9 => absurd h9 List.not_mem_nil : ∀ w ∈ ([] : List Cond), w.before _ s = true)⟩ (c_X10_init l D cy A X hst hXT e0 tk hXE G73 q56 (nI (nC + 1)) la r70 r72 k81) (tb_ci 4 hT tw_724 tw_128 tw_722 tw_723 rfl rfl rfl hq_X10_init ⟨Nat.le_of_ble_eq_true rfl, Nat.le_of_ble_eq_true rfl⟩) (mk_preS hst hG hK hA hX hS) rfl rfl hl.1 rfl (lv_room (Nat.le_of_ble_eq_true rfl)) dX9_takeService_41 ⟨(by show _ ≤ 21; omega), (by show _ ≤ 154 + gco nC; first | omega | (have := sl0_le j; omega))⟩) hS (fun q _ h => h) (fun q h => h) (fun  G83 t H locs ht hvm hw hB hz1 hk1 hS => ?_)
  have hG : mm D vwCl A G83 H := by rw [← ht]; exact hB
  clear hB hz1 hk1 hvm ht
  obtain ⟨rl85, hn_rl85, h84_2, h84_1, h84_f⟩ := hw
  have k86 : G83 o = some (.inr (10, [.ref k, .ref ow, .ref ed, .int (nI y74.2.1), .int y74.2.2])) := h84_f _ _ k75 (mm_ne_oo k75 k81 (by decide))
  have k87 : G83 k = some (.inr (13, [.ref ks, .ref ss, .ref vs, .int (nI tn)])) := h84_f _ _ k76 (mm_ne_oo k76 k81 (by decide))
  have k88 : G83 ks = some (.inl (cy 5, 2001, .inr (.inr (.inr (.inr f1))))) := h84_f _ _ k77 (mm_ne_ao k77 k81)
  have k89 : G83 ss = some (.inl (cy 1, 2001, .inl f2)) := h84_f _ _ k78 (mm_ne_ao k78 k81)
  have k90 : G83 vs = some (.inl (cy 2, 2001, .inr (.inl f3))) := h84_f _ _ k79 (mm_ne_ao k79 k81)
  have k91 : G83 ed = some (.inr (3, [.ref lc, .ref ly, .ref lsv, .ref lco, .ref lva, .ref ljo, .ref na, .int nc, va_rf iu, .int wa, va_rf rs])) := h84_f _ _ k80 (mm_ne_oo k80 k81 (by decide))
  refine lv_astore_n (lv' := [(2, .ref q56), (0, .ref o), (1, .ref la)]) hx hb dX9_takeService_44 rfl hl (by decide) rfl (fun ls hl => ?_)
  refine lv_aload_n hx hb dX9_takeService_45 rfl (lv_at hl 1 rfl) ?_
  refine va_gets (v := .ref (tk 8)) hx hb (show va_Z "DescribeText$Token" "EQUAL" "LDescribeText$Token;" (.ref (tk 8)) A s s.heap from (hE.2.1 8 (by decide)).1) hS hown (tb_use hT tw_534) (fun _ h9 => h9) dX9_takeService_46 ?_
  refine va_callv (va_runV (As := [.ref (tk 8)]) (rest := []) ⟨hx, hb, hml, hown, (fun _ h9 => absurd h9 List.not_mem_nil : ∀ w ∈ ([] : List Cond), w.before _ s = true)⟩ (c_X9_take l D cy A X hst hXT e0 tk hXE G83 o ow ed y74.2 k ks ss vs tn K S V f1 f2 f3 8 k86 k87 k88 k89 k90 hTP (by first | omega | (simp only []; omega)) (by decide)) (tb_cw (C := RX9) 1 hT tw_539 tw_106 tw_536 tw_538 tw_12 rfl rfl hq_X9_take ⟨Nat.le_of_ble_eq_true rfl, Nat.le_of_ble_eq_true rfl⟩) (mk_preC hst hG hK hA hX hS vc_10 k86) rfl rfl hl.1 rfl (lv_room (Nat.le_of_ble_eq_true rfl)) dX9_takeService_49 ⟨(by show _ ≤ 21; omega), (by show _ ≤ 154 + gco nC; first | omega | (have := sl0_le j; omega))⟩) hS (fun q _ h => h) (fun q h => h) (fun  G92 t H locs ht hvm hw hB hz1 hk1 hS => ?_)
  have hG : mm D vwCl A G92 H := by rw [← ht]; exact hB
  clear hB hz1 hk1 hvm ht
  obtain ⟨y93, ey93⟩ : ∃ y, y = q_take K S 8 y74.2 := ⟨_, rfl⟩
  rw [← ey93] at hw
  have ly93 : y93.1 ≤ y74.2.1 + 1 := by rw [ey93]; exact q_take_le
  have eG92 := hw
  clear hw
  have k94 : G92 o = some (.inr (10, [.ref k, .ref ow, .ref ed, .int (nI y93.1), .int y93.2])) := by rw [eG92]; exact mm_set_self
  have k95 : G92 k = some (.inr (13, [.ref ks, .ref ss, .ref vs, .int (nI tn)])) := by rw [eG92]; exact mm_set_of k87 (mm_ne_oo k87 k86 (by decide))
  have k96 : G92 ks = some (.inl (cy 5, 2001, .inr (.inr (.inr (.inr f1))))) := by rw [eG92]; exact mm_set_of k88 (mm_ne_ao k88 k86)
  have k97 : G92 ss = some (.inl (cy 1, 2001, .inl f2)) := by rw [eG92]; exact mm_set_of k89 (mm_ne_ao k89 k86)
  have k98 : G92 vs = some (.inl (cy 2, 2001, .inr (.inl f3))) := by rw [eG92]; exact mm_set_of k90 (mm_ne_ao k90 k86)
  have k99 : G92 ed = some (.inr (3, [.ref lc, .ref ly, .ref lsv, .ref lco, .ref lva, .ref ljo, .ref na, .int nc, va_rf iu, .int wa, va_rf rs])) := by rw [eG92]; exact mm_set_of k91 (mm_ne_oo k91 k86 (by decide))
  have k100 : G92 q56 = some (.inr (11, [.int (nI (nC + 1)), .ref la, .int r70, .long r72, .ref rl85, .int 0])) := by rw [eG92]; exact mm_set_of h84_1 (mm_ne_oo h84_1 k86 (by decide))
  have k101 : G92 rl85 = some (.inr (1, [.int 0, .ref e0, .int 0])) := by rw [eG92]; exact mm_set_of h84_2 (mm_ne_oo h84_2 k86 (by decide))
  refine lv_aload_n hx hb dX9_takeService_52 rfl (lv_at hl 0 rfl) ?_
  refine lv_aload_n hx hb dX9_takeService_53 rfl (lv_at hl 1 rfl) ?_
  refine lv_iconst (v := 0) hx hb dX9_takeService_54 (by decide) ?_
  refine lv_sipush (v := 191) hx hb dX9_takeService_55 (by decide) ?_
  refine va_calli (va_runV (As := [.int 0, .int 191]) (rest := [.ref q56]) ⟨hx, hb, hml, hown, (fun _ h9 => absurd h9 List.not_mem_nil : ∀ w ∈ ([] : List Cond), w.before _ s = true)⟩ (c_X9_takeNumber l D cy A X hst hXT e0 tk hXE G92 o ow ed y93 k ks ss vs tn K S V f1 f2 f3 0 191 k94 k95 k96 k97 k98 hTP (by first | omega | (simp only []; omega)) ) (tb_cw (C := RX9) 2 hT tw_543 tw_106 tw_540 tw_542 tw_13 rfl rfl hq_X9_takeNumber ⟨Nat.le_of_ble_eq_true rfl, Nat.le_of_ble_eq_true rfl⟩) (mk_preC hst hG hK hA hX hS vc_10 k94) rfl rfl hl.1 rfl (lv_room (Nat.le_of_ble_eq_true rfl)) dX9_takeService_58 ⟨(by show _ ≤ 21; omega), (by show _ ≤ 154 + gco nC; first | omega | (have := sl0_le j; omega))⟩) hS (fun q _ h => h) (fun q h => h) (fun r102 G103 t H locs ht hvm hw hB hz1 hk1 hS => ?_)
  have hG : mm D vwCl A G103 H := by rw [← ht]; exact hB
  clear hB hz1 hk1 hvm ht
  obtain ⟨y104, ey104⟩ : ∃ y, y = q_num K S V 0 191 y93 := ⟨_, rfl⟩
  rw [← ey104] at hw
  obtain ⟨er102, hw⟩ := hw
  have ly104 : y104.2.1 ≤ y93.1 + 1 := by rw [ey104]; exact q_num_le
  have eG103 := hw
  clear hw
  have k105 : G103 o = some (.inr (10, [.ref k, .ref ow, .ref ed, .int (nI y104.2.1), .int y104.2.2])) := by rw [eG103]; exact mm_set_self
  have k106 : G103 k = some (.inr (13, [.ref ks, .ref ss, .ref vs, .int (nI tn)])) := by rw [eG103]; exact mm_set_of k95 (mm_ne_oo k95 k94 (by decide))
  have k107 : G103 ks = some (.inl (cy 5, 2001, .inr (.inr (.inr (.inr f1))))) := by rw [eG103]; exact mm_set_of k96 (mm_ne_ao k96 k94)
  have k108 : G103 ss = some (.inl (cy 1, 2001, .inl f2)) := by rw [eG103]; exact mm_set_of k97 (mm_ne_ao k97 k94)
  have k109 : G103 vs = some (.inl (cy 2, 2001, .inr (.inl f3))) := by rw [eG103]; exact mm_set_of k98 (mm_ne_ao k98 k94)
  have k110 : G103 ed = some (.inr (3, [.ref lc, .ref ly, .ref lsv, .ref lco, .ref lva, .ref ljo, .ref na, .int nc, va_rf iu, .int wa, va_rf rs])) := by rw [eG103]; exact mm_set_of k99 (mm_ne_oo k99 k94 (by decide))
  have k111 : G103 q56 = some (.inr (11, [.int (nI (nC + 1)), .ref la, .int r70, .long r72, .ref rl85, .int 0])) := by rw [eG103]; exact mm_set_of k100 (mm_ne_oo k100 k94 (by decide))
  have k112 : G103 rl85 = some (.inr (1, [.int 0, .ref e0, .int 0])) := by rw [eG103]; exact mm_set_of k101 (mm_ne_oo k101 k94 (by decide))
  refine mm_putN (v := .int r102) (ty := .int) hx hb hf_X10 (fun _ h9 => h9) tyX10 tyX10_ok nmX10 hown hK hG hS k111 rfl 5 (by decide) (tb_use hT tw_744) (fun _ h9 => h9) rfl (by decide +kernel) rfl rfl (Nat.le_of_ble_eq_true rfl) dX9_takeService_61 (fun H locs hG hS => ?_)
  obtain ⟨G113, eG113⟩ : ∃ g, g = mm_set G103 q56 (.inr (11, [.int (nI (nC + 1)), .ref la, .int r70, .long r72, .ref rl85, .int r102])) := ⟨_, rfl⟩
  have hG : mm D vwCl A G113 H := by rw [eG113]; exact hG
  have k114 : G113 o = some (.inr (10, [.ref k, .ref ow, .ref ed, .int (nI y104.2.1), .int y104.2.2])) := by rw [eG113]; exact mm_set_of k105 (mm_ne_oo k105 k111 (by decide))
  have k115 : G113 k = some (.inr (13, [.ref ks, .ref ss, .ref vs, .int (nI tn)])) := by rw [eG113]; exact mm_set_of k106 (mm_ne_oo k106 k111 (by decide))
  have k116 : G113 ks = some (.inl (cy 5, 2001, .inr (.inr (.inr (.inr f1))))) := by rw [eG113]; exact mm_set_of k107 (mm_ne_ao k107 k111)
  have k117 : G113 ss = some (.inl (cy 1, 2001, .inl f2)) := by rw [eG113]; exact mm_set_of k108 (mm_ne_ao k108 k111)
  have k118 : G113 vs = some (.inl (cy 2, 2001, .inr (.inl f3))) := by rw [eG113]; exact mm_set_of k109 (mm_ne_ao k109 k111)
  have k119 : G113 ed = some (.inr (3, [.ref lc, .ref ly, .ref lsv, .ref lco, .ref lva, .ref ljo, .ref na, .int nc, va_rf iu, .int wa, va_rf rs])) := by rw [eG113]; exact mm_set_of k110 (mm_ne_oo k110 k111 (by decide))
  have k120 : G113 q56 = some (.inr (11, [.int (nI (nC + 1)), .ref la, .int r70, .long r72, .ref rl85, .int r102])) := by rw [eG113]; exact mm_set_self
  have k121 : G113 rl85 = some (.inr (1, [.int 0, .ref e0, .int 0])) := by rw [eG113]; exact mm_set_of k112 (mm_ne_oo k112 k111 (by decide))
  refine lv_aload_n hx hb dX9_takeService_64 rfl (lv_at hl 1 rfl) ?_
  refine va_gets (v := .ref (tk 4)) hx hb (show va_Z "DescribeText$Token" "OPEN" "LDescribeText$Token;" (.ref (tk 4)) A s s.heap from (hE.2.1 4 (by decide)).1) hS hown (tb_use hT tw_547) (fun _ h9 => h9) dX9_takeService_65 ?_
  refine va_callv (va_runV (As := [.ref (tk 4)]) (rest := []) ⟨hx, hb, hml, hown, (fun _ h9 => absurd h9 List.not_mem_nil : ∀ w ∈ ([] : List Cond), w.before _ s = true)⟩ (c_X9_take l D cy A X hst hXT e0 tk hXE G113 o ow ed y104.2 k ks ss vs tn K S V f1 f2 f3 4 k114 k115 k116 k117 k118 hTP (by first | omega | (simp only []; omega)) (by decide)) (tb_cw (C := RX9) 1 hT tw_539 tw_106 tw_536 tw_538 tw_12 rfl rfl hq_X9_take ⟨Nat.le_of_ble_eq_true rfl, Nat.le_of_ble_eq_true rfl⟩) (mk_preC hst hG hK hA hX hS vc_10 k114) rfl rfl hl.1 rfl (lv_room (Nat.le_of_ble_eq_true rfl)) dX9_takeService_68 ⟨(by show _ ≤ 21; omega), (by show _ ≤ 154 + gco nC; first | omega | (have := sl0_le j; omega))⟩) hS (fun q _ h => h) (fun q h => h) (fun  G122 t H locs ht hvm hw hB hz1 hk1 hS => ?_)
  have hG : mm D vwCl A G122 H := by rw [← ht]; exact hB
  clear hB hz1 hk1 hvm ht
  obtain ⟨y123, ey123⟩ : ∃ y, y = q_take K S 4 y104.2 := ⟨_, rfl⟩
  rw [← ey123] at hw
  have ly123 : y123.1 ≤ y104.2.1 + 1 := by rw [ey123]; exact q_take_le
  have eG122 := hw
  clear hw
  have k124 : G122 o = some (.inr (10, [.ref k, .ref ow, .ref ed, .int (nI y123.1), .int y123.2])) := by rw [eG122]; exact mm_set_self
  have k125 : G122 k = some (.inr (13, [.ref ks, .ref ss, .ref vs, .int (nI tn)])) := by rw [eG122]; exact mm_set_of k115 (mm_ne_oo k115 k114 (by decide))
  have k126 : G122 ks = some (.inl (cy 5, 2001, .inr (.inr (.inr (.inr f1))))) := by rw [eG122]; exact mm_set_of k116 (mm_ne_ao k116 k114)
  have k127 : G122 ss = some (.inl (cy 1, 2001, .inl f2)) := by rw [eG122]; exact mm_set_of k117 (mm_ne_ao k117 k114)
  have k128 : G122 vs = some (.inl (cy 2, 2001, .inr (.inl f3))) := by rw [eG122]; exact mm_set_of k118 (mm_ne_ao k118 k114)
  have k129 : G122 ed = some (.inr (3, [.ref lc, .ref ly, .ref lsv, .ref lco, .ref lva, .ref ljo, .ref na, .int nc, va_rf iu, .int wa, va_rf rs])) := by rw [eG122]; exact mm_set_of k119 (mm_ne_oo k119 k114 (by decide))
  have k130 : G122 q56 = some (.inr (11, [.int (nI (nC + 1)), .ref la, .int r70, .long r72, .ref rl85, .int r102])) := by rw [eG122]; exact mm_set_of k120 (mm_ne_oo k120 k114 (by decide))
  have k131 : G122 rl85 = some (.inr (1, [.int 0, .ref e0, .int 0])) := by rw [eG122]; exact mm_set_of k121 (mm_ne_oo k121 k114 (by decide))
  refine lv_iconst (v := 0) hx hb dX9_takeService_71 (by decide) ?_
  refine lv_istore_n (lv' := [(3, .int 0), (2, .ref q56), (0, .ref o), (1, .ref la)]) hx hb dX9_takeService_72 rfl hl (by decide) rfl (fun ls hl => ?_)
  have hB132 : ∀ (x : Nat) (e : va_E), G x = some e → x ≠ o → G122 x = some e := by
    intro x e z0 n_o
    have z1 : G48 x = some e := by rw [eG48]; exact mm_set_of z0 n_o
    have n_q56 : x ≠ q56 := fun z => by rw [z, hn_q56] at z1; cases z1
    have z2 : G57 x = some e := by rw [eG57]; exact mm_set_of z1 n_q56
    have z3 : G73 x = some e := by rw [eG73]; exact mm_set_of z2 n_o
    have n_rl85 : x ≠ rl85 := fun z => by rw [z, hn_rl85] at z3; cases z3
    have z4 : G83 x = some e := h84_f x e z3 n_q56
    have z5 : G92 x = some e := by rw [eG92]; exact mm_set_of z4 n_o
    have z6 : G103 x = some e := by rw [eG103]; exact mm_set_of z5 n_o
    have z7 : G113 x = some e := by rw [eG113]; exact mm_set_of z6 n_q56
    have z8 : G122 x = some e := by rw [eG122]; exact mm_set_of z7 n_o
    exact z8
  have hplN : G rl85 = none := none_back hB82 hn_rl85 (fun z => by rw [z, k75] at hn_rl85; cases hn_rl85)
  have fn133 : G q56 = none := by
    have z := hn_q56
    rw [eG48] at z; replace z := mm_none z
    exact z
  obtain ⟨nF, dF, qF, hR⟩ : ∃ a b c, q_pars K S V 9 0 y123 d0P = (a, b, c) := ⟨_, _, _, rfl⟩
  have hZ : q_ser K S V nC q = (q_take K S 5 qF, (r70, r72, r102), (nF, dF)) := by
    simp only [q_ser]
    simp only [← ey49, ← ey74, ← ey93, ← ey104, ← ey123, hR]
    try simp only [er70, er72, er102]
  have hls0 : LiS cy e0 G122 rl85 e0 0 (fun _ => 0) := ⟨0, by rw [nI_0]; exact k131, Or.inl ⟨rfl, rfl⟩⟩
  refine W.widen (k := 2 + 2 * 0) (n := 9 + 15 * 0 + sl0 0) (by omega) (by omega) ?_
  exact hloop 9 0 nF y123 qF q56 rl85 e0 r70 r102 r72 (fun _ => 0) d0P dF (by omega) hR hZ (by first | omega | (simp only []; omega)) fn133 hplN G122 k124 k125 k126 k127 k128 k129 k130 hls0 (fun i hi => absurd hi (Nat.not_lt_zero i)) hB132 (fun h => absurd h (by decide)) ⟨fun i hi => absurd hi (Nat.not_lt_zero i), fun a b ha => absurd ha (Nat.not_lt_zero a)⟩ _ _ hG hS ls (lv_sub hl [2, 1, 0] rfl)
