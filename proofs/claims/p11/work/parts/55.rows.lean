/-- entries as they were read: number, where, name, where -/
abbrev RwD : Type := Int32 × Int32 × Int64 × Int32
def q_row (K : Nat → Nat) (S : Nat → Int32) (V : Nat → Int64) (j : Nat) (q : Nat × Int32) : RwD × (Nat × Int32) :=
  let q0 := if j = 8 then (q.1, fl S q.1 q.2) else q
  let a := q_num K S V 0 999999 q0
  let b := q_name K S V a.2
  ((a.1, S q0.1, b.1, S a.2.1), q_take K S 6 b.2)
def dup' (d : Nat → RwD) (j : Nat) (x : RwD) : Nat → RwD := fun i => if i = j then x else d i
def q_rows (K : Nat → Nat) (S : Nat → Int32) (V : Nat → Int64) : Nat → Nat → Nat × Int32 → (Nat → RwD) → Nat × (Nat → RwD) × (Nat × Int32)
  | 0, j, q, d => (j, d, q)
  | n + 1, j, q, d => if se K q.1 q.2 1 then q_rows K S V n (j + 1) (q_row K S V j q).2 (dup' d j (q_row K S V j q).1) else (j, d, q)
def EN (G : Nat → Option va_E) (n : Nat) (f : Nat → Nat) (d : Nat → RwD) : Prop := ∀ i, i < n → G (f i) = some (.inr (4, [.int (d i).1, .int (d i).2.1, .long (d i).2.2.1, .int (d i).2.2.2, .null]))
/-- new since G, and apart from each other -/
def NW (G : Nat → Option va_E) (n : Nat) (f : Nat → Nat) : Prop := (∀ i, i < n → G (f i) = none) ∧ ∀ a b, a < n → b < n → f a = f b → a = b
theorem NW.up {G Gv : Nat → Option va_E} {n : Nat} {f : Nat → Nat} {x : Nat} (h : NW G n f) (hx : G x = none) (hv : ∀ i, i < n → f i ≠ x) : NW G (n + 1) (fup f n x) := by
  refine ⟨fun i hi => ?_, fun a b ha hb e => ?_⟩
  · by_cases hz : i = n
    · rw [hz, fup_eq]; exact hx
    · rw [fup_lt (by omega)]; exact h.1 i (by omega)
  · by_cases h1 : a = n <;> by_cases h2 : b = n
    · omega
    · rw [h1, fup_eq, fup_lt (by omega)] at e; exact absurd e.symm (hv b (by omega))
    · rw [h2, fup_eq, fup_lt (by omega)] at e; exact absurd e (hv a (by omega))
    · rw [fup_lt (by omega), fup_lt (by omega)] at e; exact h.2 a b (by omega) (by omega) e
def sl0 (j : Nat) : Nat := if j = 0 then 0 else 10
theorem sl0_le (j : Nat) : sl0 j ≤ 10 := by unfold sl0; split <;> omega
theorem sl0_go : ∀ j, j < 9 → sl0 j + gco j ≤ sl0 (j + 1) := by decide +kernel
theorem LiS.nea {cy : Nat → ClassId} {e0 : Nat} {G : Nat → Option va_E} {al ea n a ci : Nat} {f : Nat → Nat} {fs : List Value} (h : LiS cy e0 G al ea n f) (hn : 1 ≤ n) (ha : G a = some (.inr (ci, fs))) : a ≠ ea := by
  obtain ⟨mo, q, h | ⟨z1, z2, gv, q2, q3⟩⟩ := h
  · omega
  · exact mm_ne_oa ha q2
theorem LiS.nal {cy : Nat → ClassId} {e0 : Nat} {G : Nat → Option va_E} {al ea n a : Nat} {f : Nat → Nat} {v : ClassId × vp_A} (h : LiS cy e0 G al ea n f) (ha : G a = some (.inl v)) : al ≠ a := by
  obtain ⟨mo, q, -⟩ := h
  exact mm_ne_oa q ha
/-- an array that isn't of the list's kind -/
theorem LiS.nar {cy : Nat → ClassId} {e0 : Nat} {G : Nat → Option va_E} {al ea n a : Nat} {f : Nat → Nat} {e : va_E} (h : LiS cy e0 G al ea n f) (hn : 1 ≤ n) (ha : G a = some e) (he : ∀ gv : Nat → Option Nat, e ≠ .inl (cy 4, cpf n, .inr (.inr (.inr (.inr gv))))) : a ≠ ea := by
  obtain ⟨mo, q, h | ⟨z1, z2, gv, q2, q3⟩⟩ := h
  · omega
  · intro z
    rw [z, q2] at ha
    exact he gv (Option.some.inj ha).symm
theorem cpf_ne (n : Nat) : (2001 : Nat) ≠ cpf n := by
  have := cpf_le n
  omega
set_option maxHeartbeats 4000000 in
set_option maxRecDepth 100000 in
theorem c_X3_init (l : Launch) (D : va_G) (cy : Nat → ClassId) (A : Nat → Prop) (X : State → Prop) (hst : mk_St A X) (hXT : ∀ U : State, X U → TB U) (e0 : Nat) (tk : Nat → Nat) (hXE : ∀ U : State, X U → ES e0 tk A U) (G : Nat → Option va_E) (en : Nat) (h9 : G en = some (.inr (4, [.int 0, .int 0, .long 0, .int 0, .null]))) : Met l yX3_init [.code yX3_init cX3_init 1 none] ({ frames := 1, cells := 0, slots := 0, locals := 12 }) (mk_Pre D vwCl (tyL cy) A X G [.ref en]) (va_Qv (fun (G2 : Nat → Option va_E) => G2 = G) (mk_B D vwCl A) A) 0 0 A := by
  refine Met.ofW (cc := cX3_init) (maxL := 1) (ret := none) (by decide) rfl ?_
  intro p e s m args below meth c s₁ B hml hv
  obtain ⟨rfl, hG, hK, hA, hX⟩ := hv
  have hx := B.exec
  have hb := B.bytes
  have hr := B.returns
  have hlocks := B.notSynchronized
  have hT := hXT s hX
  have hown : s.vm.findClass RX3 = some m.cls := findClass_of_methodNamed B.named
  have hin : meth.name = "<init>" := (name_of_methodNamed B.named B.method).1
  have hS : va_S A s.heap s.heap [] := va_S.rf
  have hE := hXE s hX
  have hl := lv_entry ([.ref en]) (n := 1) (Nat.le_of_ble_eq_true rfl)
  rw [lg_entry_eq]
  generalize (lg_sl ([.ref en]) ++ List.replicate (1 - (lg_sl ([.ref en])).length) Slot.unset).toArray = ls at hl ⊢
  have hl : lv_has ls 1 [(0, .ref en)] := hl
  refine lv_aload_n hx hb dX3_init_0 rfl (lv_at hl 0 rfl) ?_
  refine W.objInit hx hb hown (tb_use hT tw_558) (tb_use hT tw_144) (tb_use hT tw_145) rfl (by rw [hml]; exact hl.1) rfl dX3_init_1 (Nat.le_of_ble_eq_true rfl) (Nat.le_of_ble_eq_true rfl) ?_
  refine W.eq (g2 := F0 m 4 ls []) rfl ?_
  exact W.vret hx hb hr (fun t ht hW => ⟨⟨_, rfl, rfl, mk_end hG ht⟩, hS.F ht⟩) hS.2.2 dX3_init_4

set_option maxHeartbeats 4000000 in
set_option maxRecDepth 100000 in
theorem c_X9_takeRows (l : Launch) (D : va_G) (cy : Nat → ClassId) (A : Nat → Prop) (X : State → Prop) (hst : mk_St A X) (hXT : ∀ U : State, X U → TB U) (e0 : Nat) (tk : Nat → Nat) (hXE : ∀ U : State, X U → ES e0 tk A U) (mi : Nat) (hXL : ∀ U : State, X U → EL e0 mi A U) (G : Nat → Option va_E) (o ow ed : Nat) (q : Nat × Int32) (k ks ss vs tn : Nat) (K : Nat → Nat) (S : Nat → Int32) (V : Nat → Int64) (f1 : Nat → Option Nat) (f2 : Nat → Int32) (f3 : Nat → Int64) (ca rl : Nat) (nu at_ wd : Int32) (cn : Int64) (h0 : G o = some (.inr (10, [.ref k, .ref ow, .ref ed, .int (nI q.1), .int q.2]))) (q1 : G k = some (.inr (13, [.ref ks, .ref ss, .ref vs, .int (nI tn)]))) (q2 : G ks = some (.inl (cy 5, 2001, .inr (.inr (.inr (.inr f1)))))) (q3 : G ss = some (.inl (cy 1, 2001, .inl f2))) (q4 : G vs = some (.inl (cy 2, 2001, .inr (.inl f3)))) (hTP : TKP tk tn K S V f1 f2 f3) (hp : q.1 < 2 ^ 28) (h9 : G ca = some (.inr (2, [.int nu, .int at_, .long cn, .ref rl, .int wd, .int 0, .int 0, .long 1, .long 1, .long 0]))) (hls0 : LiS cy e0 G rl e0 0 (fun _ => 0)) : Met l yX9_takeRows [.code yX9_takeRows cX9_takeRows 4 none] ({ frames := 7, cells := 18, slots := 55, locals := 210 }) (mk_Pre D vwCl (tyL cy) A X G [.ref o, .ref ca]) (va_Qv (fun (G2 : Nat → Option va_E) => ∃ (ra2 : Nat) (f2 : Nat → Nat), G2 o = some (.inr (10, [.ref k, .ref ow, .ref ed, .int (nI (q_take K S 5 (q_rows K S V 9 0 (q.1 + 1, q.2) (fun _ => (0, 0, 0, 0))).2.2).1), .int ((q_take K S 5 (q_rows K S V 9 0 (q.1 + 1, q.2) (fun _ => (0, 0, 0, 0))).2.2).2)])) ∧ LiS cy e0 G2 rl ra2 (q_rows K S V 9 0 (q.1 + 1, q.2) (fun _ => (0, 0, 0, 0))).1 f2 ∧ EN G2 (q_rows K S V 9 0 (q.1 + 1, q.2) (fun _ => (0, 0, 0, 0))).1 f2 (q_rows K S V 9 0 (q.1 + 1, q.2) (fun _ => (0, 0, 0, 0))).2.1 ∧ (1 ≤ (q_rows K S V 9 0 (q.1 + 1, q.2) (fun _ => (0, 0, 0, 0))).1 → G ra2 = none) ∧ NW G (q_rows K S V 9 0 (q.1 + 1, q.2) (fun _ => (0, 0, 0, 0))).1 f2 ∧ ∀ (x : Nat) (e : va_E), G x = some e → x ≠ o → x ≠ rl → G2 x = some e) (mk_B D vwCl A) A) 18 55 A := by
  refine Met.ofW (cc := cX9_takeRows) (maxL := 4) (ret := none) (by decide) rfl ?_
  intro p e s m args below meth c s₁ B hml hv
  obtain ⟨rfl, hG, hK, hA, hX⟩ := hv
  have hx := B.exec
  have hb := B.bytes
  have hr := B.returns
  have hlocks := B.notSynchronized
  have hT := hXT s hX
  have hown : s.vm.findClass RX9 = some m.cls := findClass_of_methodNamed B.named
  have hf_X3 : ∀ w ∈ u_ws RX3 TX3 5, w.before ([.ref o, .ref ca] : List Value).toArray s = true := tb_list hT fX3
  have hf_X1 : ∀ w ∈ u_ws RX1 TX1 10, w.before ([.ref o, .ref ca] : List Value).toArray s = true := tb_list hT fX1
  have hf_X9 : ∀ w ∈ u_ws RX9 TX9 5, w.before ([.ref o, .ref ca] : List Value).toArray s = true := tb_list hT fX9
  have hS : va_S A s.heap s.heap [] := va_S.rf
  have hE := hXE s hX
  have hl := lv_entry ([.ref o, .ref ca]) (n := 4) (Nat.le_of_ble_eq_true rfl)
  rw [lg_entry_eq]
  generalize (lg_sl ([.ref o, .ref ca]) ++ List.replicate (4 - (lg_sl ([.ref o, .ref ca])).length) Slot.unset).toArray = ls at hl ⊢
  have hl : lv_has ls 4 [(0, .ref o), (1, .ref ca)] := hl
  obtain ⟨nF, dF, qF, hR⟩ : ∃ a b c, (q_rows K S V 9 0 (q.1 + 1, q.2) (fun _ => (0, 0, 0, 0))) = (a, b, c) := ⟨_, _, _, rfl⟩
  have hloop : ∀ (n : Nat) (j : Nat) (qv : Nat × Int32) (ra : Nat) (fv : Nat → Nat) (dv : Nat → RwD), (n + j = 9) → (q_rows K S V n j qv dv = (nF, dF, qF)) → (qv.1 ≤ q.1 + 1 + 3 * j) → ∀ (Gv : Nat → Option va_E), (Gv o = some (.inr (10, [.ref k, .ref ow, .ref ed, .int (nI qv.1), .int qv.2]))) → (Gv k = some (.inr (13, [.ref ks, .ref ss, .ref vs, .int (nI tn)]))) → (Gv ks = some (.inl (cy 5, 2001, .inr (.inr (.inr (.inr f1)))))) → (Gv ss = some (.inl (cy 1, 2001, .inl f2))) → (Gv vs = some (.inl (cy 2, 2001, .inr (.inl f3)))) → (Gv ca = some (.inr (2, [.int nu, .int at_, .long cn, .ref rl, .int wd, .int 0, .int 0, .long 1, .long 1, .long 0]))) → (LiS cy e0 Gv rl ra j fv) → (EN Gv j fv dv) → (∀ (x : Nat) (e : va_E), G x = some e → x ≠ o → x ≠ rl → Gv x = some e) → (1 ≤ j → G ra = none) → (NW G j fv) → ∀ (H : Heap) (locs : List Loc), mm D vwCl A Gv H → va_S A s.heap H locs → ∀ ls : Array Slot, lv_has ls 4 [(0, .ref o), (1, .ref ca), (2, .int (nI j))] → W p l e (headSpec [.code yX9_takeRows cX9_takeRows 4 none] ({ frames := 7, cells := 18, slots := 55, locals := 210 })).room s m ([.ref o, .ref ca] : List Value).toArray below meth c H locs (2 * j) (5 * j + sl0 j) (MQ below (va_Qv (fun (G2 : Nat → Option va_E) => ∃ (ra2 : Nat) (f2 : Nat → Nat), G2 o = some (.inr (10, [.ref k, .ref ow, .ref ed, .int (nI (q_take K S 5 (q_rows K S V 9 0 (q.1 + 1, q.2) (fun _ => (0, 0, 0, 0))).2.2).1), .int ((q_take K S 5 (q_rows K S V 9 0 (q.1 + 1, q.2) (fun _ => (0, 0, 0, 0))).2.2).2)])) ∧ LiS cy e0 G2 rl ra2 (q_rows K S V 9 0 (q.1 + 1, q.2) (fun _ => (0, 0, 0, 0))).1 f2 ∧ EN G2 (q_rows K S V 9 0 (q.1 + 1, q.2) (fun _ => (0, 0, 0, 0))).1 f2 (q_rows K S V 9 0 (q.1 + 1, q.2) (fun _ => (0, 0, 0, 0))).2.1 ∧ (1 ≤ (q_rows K S V 9 0 (q.1 + 1, q.2) (fun _ => (0, 0, 0, 0))).1 → G ra2 = none) ∧ NW G (q_rows K S V 9 0 (q.1 + 1, q.2) (fun _ => (0, 0, 0, 0))).1 f2 ∧ ∀ (x : Nat) (e : va_E), G x = some e → x ≠ o → x ≠ rl → G2 x = some e) (mk_B D vwCl A) A) ([.ref o, .ref ca] : List Value).toArray s 18 55 A) (F0 m 12 ls []) := by
    intro n
    induction n with
    | zero =>
      intro j qv ra fv dv hjn hq hpv Gv v_o v_k v_ks v_ss v_vs v_ca hls hen hfr hra hnw H locs hG hS ls hl
      refine lv_iload_n hx hb dX9_takeRows_12 rfl (lv_at hl 2 rfl) ?_
      refine lv_bipush (v := 8) hx hb dX9_takeRows_13 (by decide) ?_
      refine lv_icmp_gt (tgt := 78) hx hb dX9_takeRows_15 (by decide) (fun c_15 => ?_) (fun c_15 => ?_)
      · skip
        refine lv_aload_n hx hb dX9_takeRows_78 rfl (lv_at hl 0 rfl) ?_
        refine va_gets (v := .ref (tk 5)) hx hb (show va_Z "DescribeText$Token" "CLOSE" "LDescribeText$Token;" (.ref (tk 5)) A s s.heap from (hE.2.1 5 (by decide)).1) hS hown (tb_use hT tw_655) (fun _ h9 => h9) dX9_takeRows_79 ?_
        refine va_callv (va_runV (As := [.ref (tk 5)]) (rest := []) ⟨hx, hb, hml, hown, (fun _ h9 => absurd h9 List.not_mem_nil : ∀ w ∈ ([] : List Cond), w.before _ s = true)⟩ (c_X9_take l D cy A X hst hXT e0 tk hXE Gv o ow ed qv k ks ss vs tn K S V f1 f2 f3 5 v_o v_k v_ks v_ss v_vs hTP (by first | omega | (simp only []; omega)) (by decide)) (tb_cw (C := RX9) 1 hT tw_539 tw_106 tw_536 tw_538 tw_12 rfl rfl hq_X9_take ⟨Nat.le_of_ble_eq_true rfl, Nat.le_of_ble_eq_true rfl⟩) (mk_preC hst hG hK hA hX hS vc_10 v_o) rfl rfl hl.1 rfl (lv_room (Nat.le_of_ble_eq_true rfl)) dX9_takeRows_82 ⟨(by show _ ≤ 18; omega), (by show _ ≤ 55; have := sl0_le j; omega)⟩) hS (fun q _ h => h) (fun q h => h) (fun  G1 t H locs ht hvm hw hB hz1 hk1 hS => ?_)
        have hG : mm D vwCl A G1 H := by rw [← ht]; exact hB
        clear hB hz1 hk1 hvm ht
        obtain ⟨y2, ey2⟩ : ∃ y, y = q_take K S 5 qv := ⟨_, rfl⟩
        rw [← ey2] at hw
        have ly2 : y2.1 ≤ qv.1 + 1 := by rw [ey2]; exact q_take_le
        have eG1 := hw
        clear hw
        have k3 : G1 o = some (.inr (10, [.ref k, .ref ow, .ref ed, .int (nI y2.1), .int y2.2])) := by rw [eG1]; exact mm_set_self
        have k4 : G1 k = some (.inr (13, [.ref ks, .ref ss, .ref vs, .int (nI tn)])) := by rw [eG1]; exact mm_set_of v_k (mm_ne_oo v_k v_o (by decide))
        have k5 : G1 ks = some (.inl (cy 5, 2001, .inr (.inr (.inr (.inr f1))))) := by rw [eG1]; exact mm_set_of v_ks (mm_ne_ao v_ks v_o)
        have k6 : G1 ss = some (.inl (cy 1, 2001, .inl f2)) := by rw [eG1]; exact mm_set_of v_ss (mm_ne_ao v_ss v_o)
        have k7 : G1 vs = some (.inl (cy 2, 2001, .inr (.inl f3))) := by rw [eG1]; exact mm_set_of v_vs (mm_ne_ao v_vs v_o)
        have k8 : G1 ca = some (.inr (2, [.int nu, .int at_, .long cn, .ref rl, .int wd, .int 0, .int 0, .long 1, .long 1, .long 0])) := by rw [eG1]; exact mm_set_of v_ca (mm_ne_oo v_ca v_o (by decide))
        have hqq : (j, dv, qv) = (nF, dF, qF) := by
          rw [← hq]
          rfl
        have hfB : ∀ (x : Nat) (e : va_E), Gv x = some e → x ≠ o → G1 x = some e := by
          intro x e z0 n_o
          have z1 : G1 x = some e := by rw [eG1]; exact mm_set_of z0 n_o
          exact z1
        have hlsB : LiS cy e0 G1 rl ra j fv := LiS.fr2 (fun x => x ≠ o) hls hfB (hls.ne v_o (by decide)) (fun v _ hv => mm_ne_ao hv v_o)
        have henB : EN G1 j fv dv := fun i hi => hfB _ _ (hen i hi) (mm_ne_oo (hen i hi) v_o (by decide))
        have e1 : nF = j := (congrArg (fun z => z.1) hqq).symm
        have e2 : dF = dv := (congrArg (fun z => z.2.1) hqq).symm
        have e3 : qF = qv := (congrArg (fun z => z.2.2) hqq).symm
        refine W.widen (k := 18) (n := 55) (by omega) (by have := sl0_le j; omega) ?_
        exact W.vret hx hb hr (fun t ht hW => ⟨⟨_, rfl, (by rw [hR]; refine ⟨ra, fv, ?_, ?_, ?_, ?_, ?_, fun x e h n1 n2 => hfB x e (hfr x e h n1 n2) n1⟩; (show _ = (some (.inr (10, [.ref k, .ref ow, .ref ed, .int (nI (q_take K S 5 qF).1), .int ((q_take K S 5 qF).2)])) : Option va_E)); (rw [e3, ← ey2]; exact k3); (show LiS cy e0 _ rl ra nF fv); (rw [e1]; exact hlsB); (show EN _ nF fv dF); (rw [e1, e2]; exact henB); (show 1 ≤ nF → _); (rw [e1]; exact hra); (show NW G nF fv); (rw [e1]; exact hnw)), mk_end hG ht⟩, hS.F ht⟩) hS.2.2 dX9_takeRows_85
      · skip
        exact absurd (show (8 : Int32) < nI j by rw [show (8 : Int32) = nI 8 from rfl]; exact nI_lt (by omega) (by omega)) c_15
    | succ n ih =>
      intro j qv ra fv dv hjn hq hpv Gv v_o v_k v_ks v_ss v_vs v_ca hls hen hfr hra hnw H locs hG hS ls hl
      refine lv_iload_n hx hb dX9_takeRows_12 rfl (lv_at hl 2 rfl) ?_
      refine lv_bipush (v := 8) hx hb dX9_takeRows_13 (by decide) ?_
      refine lv_icmp_gt (tgt := 78) hx hb dX9_takeRows_15 (by decide) (fun c_15 => ?_) (fun c_15 => ?_)
      · skip
        exact absurd c_15 (by rw [show (8 : Int32) = nI 8 from rfl]; exact Int32.not_lt.mpr (nI_le (by omega) (by decide)))
      · skip
        refine lv_aload_n hx hb dX9_takeRows_18 rfl (lv_at hl 0 rfl) ?_
        refine va_gets (v := .ref (tk 1)) hx hb (show va_Z "DescribeText$Token" "NUMBER" "LDescribeText$Token;" (.ref (tk 1)) A s s.heap from (hE.2.1 1 (by decide)).1) hS hown (tb_use hT tw_544) (fun _ h9 => h9) dX9_takeRows_19 ?_
        refine va_calli (va_runV (As := [.ref (tk 1)]) (rest := []) ⟨hx, hb, hml, hown, (fun _ h9 => absurd h9 List.not_mem_nil : ∀ w ∈ ([] : List Cond), w.before _ s = true)⟩ (c_X9_sees l D cy A X hst hXT e0 tk hXE Gv o ow ed qv k ks ss vs tn K S V f1 f2 f3 1 v_o v_k v_ks v_ss v_vs hTP (by first | omega | (simp only []; omega)) (by decide)) (tb_cw (C := RX9) 1 hT tw_437 tw_106 tw_434 tw_436 tw_6 rfl rfl hq_X9_sees ⟨Nat.le_of_ble_eq_true rfl, Nat.le_of_ble_eq_true rfl⟩) (mk_preC hst hG hK hA hX hS vc_10 v_o) rfl rfl hl.1 rfl (lv_room (Nat.le_of_ble_eq_true rfl)) dX9_takeRows_22 ⟨(by show _ ≤ 18; omega), (by show _ ≤ 55; have := sl0_le j; omega)⟩) hS (fun q _ h => h) (fun q h => h) (fun r9 G10 t H locs ht hvm hw hB hz1 hk1 hS => ?_)
        have hG : mm D vwCl A G10 H := by rw [← ht]; exact hB
        clear hB hz1 hk1 hvm ht
        obtain ⟨er9, hw⟩ := hw
        rw [hw] at hG
        refine lv_if_eq (tgt := 78) hx hb dX9_takeRows_25 (by decide) (fun c_25 => ?_) (fun c_25 => ?_)
        · skip
          refine lv_aload_n hx hb dX9_takeRows_78 rfl (lv_at hl 0 rfl) ?_
          refine va_gets (v := .ref (tk 5)) hx hb (show va_Z "DescribeText$Token" "CLOSE" "LDescribeText$Token;" (.ref (tk 5)) A s s.heap from (hE.2.1 5 (by decide)).1) hS hown (tb_use hT tw_655) (fun _ h9 => h9) dX9_takeRows_79 ?_
          refine va_callv (va_runV (As := [.ref (tk 5)]) (rest := []) ⟨hx, hb, hml, hown, (fun _ h9 => absurd h9 List.not_mem_nil : ∀ w ∈ ([] : List Cond), w.before _ s = true)⟩ (c_X9_take l D cy A X hst hXT e0 tk hXE Gv o ow ed qv k ks ss vs tn K S V f1 f2 f3 5 v_o v_k v_ks v_ss v_vs hTP (by first | omega | (simp only []; omega)) (by decide)) (tb_cw (C := RX9) 1 hT tw_539 tw_106 tw_536 tw_538 tw_12 rfl rfl hq_X9_take ⟨Nat.le_of_ble_eq_true rfl, Nat.le_of_ble_eq_true rfl⟩) (mk_preC hst hG hK hA hX hS vc_10 v_o) rfl rfl hl.1 rfl (lv_room (Nat.le_of_ble_eq_true rfl)) dX9_takeRows_82 ⟨(by show _ ≤ 18; omega), (by show _ ≤ 55; have := sl0_le j; omega)⟩) hS (fun q _ h => h) (fun q h => h) (fun  G11 t H locs ht hvm hw hB hz1 hk1 hS => ?_)
          have hG : mm D vwCl A G11 H := by rw [← ht]; exact hB
          clear hB hz1 hk1 hvm ht
          obtain ⟨y12, ey12⟩ : ∃ y, y = q_take K S 5 qv := ⟨_, rfl⟩
          rw [← ey12] at hw
          have ly12 : y12.1 ≤ qv.1 + 1 := by rw [ey12]; exact q_take_le
          have eG11 := hw
          clear hw
          have k13 : G11 o = some (.inr (10, [.ref k, .ref ow, .ref ed, .int (nI y12.1), .int y12.2])) := by rw [eG11]; exact mm_set_self
          have k14 : G11 k = some (.inr (13, [.ref ks, .ref ss, .ref vs, .int (nI tn)])) := by rw [eG11]; exact mm_set_of v_k (mm_ne_oo v_k v_o (by decide))
          have k15 : G11 ks = some (.inl (cy 5, 2001, .inr (.inr (.inr (.inr f1))))) := by rw [eG11]; exact mm_set_of v_ks (mm_ne_ao v_ks v_o)
          have k16 : G11 ss = some (.inl (cy 1, 2001, .inl f2)) := by rw [eG11]; exact mm_set_of v_ss (mm_ne_ao v_ss v_o)
          have k17 : G11 vs = some (.inl (cy 2, 2001, .inr (.inl f3))) := by rw [eG11]; exact mm_set_of v_vs (mm_ne_ao v_vs v_o)
          have k18 : G11 ca = some (.inr (2, [.int nu, .int at_, .long cn, .ref rl, .int wd, .int 0, .int 0, .long 1, .long 1, .long 0])) := by rw [eG11]; exact mm_set_of v_ca (mm_ne_oo v_ca v_o (by decide))
          have hse : se K qv.1 qv.2 1 = false := by rw [er9] at c_25; revert c_25; cases se K qv.1 qv.2 1 <;> simp [b2i]
          have hqq : (j, dv, qv) = (nF, dF, qF) := by
            rw [← hq, q_rows, if_neg (by rw [hse]; decide)]
          have hfB : ∀ (x : Nat) (e : va_E), Gv x = some e → x ≠ o → G11 x = some e := by
            intro x e z0 n_o
            have z1 : G11 x = some e := by rw [eG11]; exact mm_set_of z0 n_o
            exact z1
          have hlsB : LiS cy e0 G11 rl ra j fv := LiS.fr2 (fun x => x ≠ o) hls hfB (hls.ne v_o (by decide)) (fun v _ hv => mm_ne_ao hv v_o)
          have henB : EN G11 j fv dv := fun i hi => hfB _ _ (hen i hi) (mm_ne_oo (hen i hi) v_o (by decide))
          have e1 : nF = j := (congrArg (fun z => z.1) hqq).symm
          have e2 : dF = dv := (congrArg (fun z => z.2.1) hqq).symm
          have e3 : qF = qv := (congrArg (fun z => z.2.2) hqq).symm
          refine W.widen (k := 18) (n := 55) (by omega) (by have := sl0_le j; omega) ?_
          exact W.vret hx hb hr (fun t ht hW => ⟨⟨_, rfl, (by rw [hR]; refine ⟨ra, fv, ?_, ?_, ?_, ?_, ?_, fun x e h n1 n2 => hfB x e (hfr x e h n1 n2) n1⟩; (show _ = (some (.inr (10, [.ref k, .ref ow, .ref ed, .int (nI (q_take K S 5 qF).1), .int ((q_take K S 5 qF).2)])) : Option va_E)); (rw [e3, ← ey12]; exact k13); (show LiS cy e0 _ rl ra nF fv); (rw [e1]; exact hlsB); (show EN _ nF fv dF); (rw [e1, e2]; exact henB); (show 1 ≤ nF → _); (rw [e1]; exact hra); (show NW G nF fv); (rw [e1]; exact hnw)), mk_end hG ht⟩, hS.F ht⟩) hS.2.2 dX9_takeRows_85
        · skip
          refine lv_iload_n hx hb dX9_takeRows_28 rfl (lv_at hl 2 rfl) ?_
          refine lv_bipush (v := 8) hx hb dX9_takeRows_29 (by decide) ?_
          refine lv_icmp_ne (tgt := 38) hx hb dX9_takeRows_31 (by decide) (fun c_31 => ?_) (fun c_31 => ?_)
          · skip
            refine mm_new (ci := 4) (fs := [.int 0, .int 0, .long 0, .int 0, .null]) hx hb hf_X3 (fun _ h9 => h9) tyX3 tyX3_ok hown (tb_use hT tw_553) (tb_use hT tw_554) (tb_use hT tw_123) hK hG hS hA rfl (fun j hj => by rcases (show j = 0 ∨ j = 1 ∨ j = 2 ∨ j = 3 ∨ j = 4 by omega) with rfl | rfl | rfl | rfl | rfl <;> rfl) (by show _ ≤ 18; omega) (by show _ ≤ 55; have := sl0_le j; omega) dX9_takeRows_38 (fun q19 H hn_q19 hG hS => ?_)
            obtain ⟨G20, eG20⟩ : ∃ g, g = mm_set Gv q19 (.inr (4, [.int 0, .int 0, .long 0, .int 0, .null])) := ⟨_, rfl⟩
            have hG : mm D vwCl A G20 H := by rw [eG20]; exact hG
            have k21 : G20 o = some (.inr (10, [.ref k, .ref ow, .ref ed, .int (nI qv.1), .int qv.2])) := by rw [eG20]; exact mm_set_new v_o hn_q19
            have k22 : G20 k = some (.inr (13, [.ref ks, .ref ss, .ref vs, .int (nI tn)])) := by rw [eG20]; exact mm_set_new v_k hn_q19
            have k23 : G20 ks = some (.inl (cy 5, 2001, .inr (.inr (.inr (.inr f1))))) := by rw [eG20]; exact mm_set_new v_ks hn_q19
            have k24 : G20 ss = some (.inl (cy 1, 2001, .inl f2)) := by rw [eG20]; exact mm_set_new v_ss hn_q19
            have k25 : G20 vs = some (.inl (cy 2, 2001, .inr (.inl f3))) := by rw [eG20]; exact mm_set_new v_vs hn_q19
            have k26 : G20 ca = some (.inr (2, [.int nu, .int at_, .long cn, .ref rl, .int wd, .int 0, .int 0, .long 1, .long 1, .long 0])) := by rw [eG20]; exact mm_set_new v_ca hn_q19
            have k27 : G20 q19 = some (.inr (4, [.int 0, .int 0, .long 0, .int 0, .null])) := by rw [eG20]; exact mm_set_self
            refine lv_dup hx hb dX9_takeRows_41 rfl ?_
            refine va_callv (va_runIN (As := []) (rest := [.ref q19]) ⟨hx, hb, hml, hown, (fun _ h9 => absurd h9 List.not_mem_nil : ∀ w ∈ ([] : List Cond), w.before _ s = true)⟩ (c_X3_init l D cy A X hst hXT e0 tk hXE G20 q19 k27) ⟨tb_cn (host := "DescribeText") 0 hT tw_557 tw_123 tw_555 rfl rfl hq_X3_init ⟨Nat.le_of_ble_eq_true rfl, Nat.le_of_ble_eq_true rfl⟩, rfl, (tb_use hT tw_556)⟩ (mk_preS hst hG hK hA hX hS) rfl rfl hl.1 rfl (lv_room (Nat.le_of_ble_eq_true rfl)) dX9_takeRows_42 ⟨(by show _ ≤ 18; omega), (by show _ ≤ 55; have := sl0_le j; omega)⟩) hS (fun q _ h => h) (fun q h => h) (fun  G28 t H locs ht hvm hw hB hz1 hk1 hS => ?_)
            have hG : mm D vwCl A G28 H := by rw [← ht]; exact hB
            clear hB hz1 hk1 hvm ht
            rw [hw] at hG
            refine lv_astore_n (lv' := [(3, .ref q19), (0, .ref o), (1, .ref ca), (2, .int (nI j))]) hx hb dX9_takeRows_45 rfl hl (by decide) rfl (fun ls hl => ?_)
            refine lv_aload_n hx hb dX9_takeRows_46 rfl (lv_at hl 1 rfl) ?_
            refine lv_aload_n hx hb dX9_takeRows_47 rfl (lv_at hl 0 rfl) ?_
            refine va_callv (va_runV (As := [.ref q19]) (rest := []) ⟨hx, hb, hml, hown, (fun _ h9 => absurd h9 List.not_mem_nil : ∀ w ∈ ([] : List Cond), w.before _ s = true)⟩ (c_X9_takeNumberOf l D cy A X hst hXT e0 tk hXE G20 o ow ed qv k ks ss vs tn K S V f1 f2 f3 q19 0 0 0 0 none k21 k22 k23 k24 k25 hTP (by first | omega | (simp only []; omega)) k27) (tb_cw (C := RX9) 1 hT tw_586 tw_106 tw_583 tw_585 tw_15 rfl rfl hq_X9_takeNumberOf ⟨Nat.le_of_ble_eq_true rfl, Nat.le_of_ble_eq_true rfl⟩) (mk_preC hst hG hK hA hX hS vc_10 k21) rfl rfl hl.1 rfl (lv_room (Nat.le_of_ble_eq_true rfl)) dX9_takeRows_48 ⟨(by show _ ≤ 18; omega), (by show _ ≤ 55; have := sl0_le j; omega)⟩) hS (fun q _ h => h) (fun q h => h) (fun  G29 t H locs ht hvm hw hB hz1 hk1 hS => ?_)
            have hG : mm D vwCl A G29 H := by rw [← ht]; exact hB
            clear hB hz1 hk1 hvm ht
            obtain ⟨h30_1, h30_2, h30_f⟩ := hw
            obtain ⟨y31, ey31⟩ : ∃ y, y = q_num K S V 0 999999 qv := ⟨_, rfl⟩
            rw [← ey31] at h30_1 h30_2
            have ly31 : y31.2.1 ≤ qv.1 + 1 := by rw [ey31]; exact q_num_le
            have k32 : G29 k = some (.inr (13, [.ref ks, .ref ss, .ref vs, .int (nI tn)])) := h30_f _ _ k22 (mm_ne_oo k22 k21 (by decide)) (mm_ne_oo k22 k27 (by decide))
            have k33 : G29 ks = some (.inl (cy 5, 2001, .inr (.inr (.inr (.inr f1))))) := h30_f _ _ k23 (mm_ne_ao k23 k21) (mm_ne_ao k23 k27)
            have k34 : G29 ss = some (.inl (cy 1, 2001, .inl f2)) := h30_f _ _ k24 (mm_ne_ao k24 k21) (mm_ne_ao k24 k27)
            have k35 : G29 vs = some (.inl (cy 2, 2001, .inr (.inl f3))) := h30_f _ _ k25 (mm_ne_ao k25 k21) (mm_ne_ao k25 k27)
            have k36 : G29 ca = some (.inr (2, [.int nu, .int at_, .long cn, .ref rl, .int wd, .int 0, .int 0, .long 1, .long 1, .long 0])) := h30_f _ _ k26 (mm_ne_oo k26 k21 (by decide)) (mm_ne_oo k26 k27 (by decide))
            refine lv_aload_n hx hb dX9_takeRows_51 rfl (lv_at hl 1 rfl) ?_
            refine lv_aload_n hx hb dX9_takeRows_52 rfl (lv_at hl 0 rfl) ?_
            refine va_callv (va_runV (As := [.ref q19]) (rest := []) ⟨hx, hb, hml, hown, (fun _ h9 => absurd h9 List.not_mem_nil : ∀ w ∈ ([] : List Cond), w.before _ s = true)⟩ (c_X9_takeNameOf l D cy A X hst hXT e0 tk hXE G29 o ow ed y31.2 k ks ss vs tn K S V f1 f2 f3 q19 y31.1 (S qv.1) 0 0 none h30_1 k32 k33 k34 k35 hTP (by first | omega | (simp only []; omega)) h30_2) (tb_cw (C := RX9) 1 hT tw_591 tw_106 tw_588 tw_590 tw_16 rfl rfl hq_X9_takeNameOf ⟨Nat.le_of_ble_eq_true rfl, Nat.le_of_ble_eq_true rfl⟩) (mk_preC hst hG hK hA hX hS vc_10 h30_1) rfl rfl hl.1 rfl (lv_room (Nat.le_of_ble_eq_true rfl)) dX9_takeRows_53 ⟨(by show _ ≤ 18; omega), (by show _ ≤ 55; have := sl0_le j; omega)⟩) hS (fun q _ h => h) (fun q h => h) (fun  G37 t H locs ht hvm hw hB hz1 hk1 hS => ?_)
            have hG : mm D vwCl A G37 H := by rw [← ht]; exact hB
            clear hB hz1 hk1 hvm ht
            obtain ⟨h38_1, h38_2, h38_f⟩ := hw
            obtain ⟨y39, ey39⟩ : ∃ y, y = q_name K S V y31.2 := ⟨_, rfl⟩
            rw [← ey39] at h38_1 h38_2
            have ly39 : y39.2.1 ≤ y31.2.1 + 1 := by rw [ey39]; exact q_name_le
            have k40 : G37 k = some (.inr (13, [.ref ks, .ref ss, .ref vs, .int (nI tn)])) := h38_f _ _ k32 (mm_ne_oo k32 h30_1 (by decide)) (mm_ne_oo k32 h30_2 (by decide))
            have k41 : G37 ks = some (.inl (cy 5, 2001, .inr (.inr (.inr (.inr f1))))) := h38_f _ _ k33 (mm_ne_ao k33 h30_1) (mm_ne_ao k33 h30_2)
            have k42 : G37 ss = some (.inl (cy 1, 2001, .inl f2)) := h38_f _ _ k34 (mm_ne_ao k34 h30_1) (mm_ne_ao k34 h30_2)
            have k43 : G37 vs = some (.inl (cy 2, 2001, .inr (.inl f3))) := h38_f _ _ k35 (mm_ne_ao k35 h30_1) (mm_ne_ao k35 h30_2)
            have k44 : G37 ca = some (.inr (2, [.int nu, .int at_, .long cn, .ref rl, .int wd, .int 0, .int 0, .long 1, .long 1, .long 0])) := h38_f _ _ k36 (mm_ne_oo k36 h30_1 (by decide)) (mm_ne_oo k36 h30_2 (by decide))
            refine lv_aload_n hx hb dX9_takeRows_56 rfl (lv_at hl 1 rfl) ?_
            refine va_gets (v := .ref (tk 6)) hx hb (show va_Z "DescribeText$Token" "SEMICOLON" "LDescribeText$Token;" (.ref (tk 6)) A s s.heap from (hE.2.1 6 (by decide)).1) hS hown (tb_use hT tw_592) (fun _ h9 => h9) dX9_takeRows_57 ?_
            refine va_callv (va_runV (As := [.ref (tk 6)]) (rest := []) ⟨hx, hb, hml, hown, (fun _ h9 => absurd h9 List.not_mem_nil : ∀ w ∈ ([] : List Cond), w.before _ s = true)⟩ (c_X9_take l D cy A X hst hXT e0 tk hXE G37 o ow ed y39.2 k ks ss vs tn K S V f1 f2 f3 6 h38_1 k40 k41 k42 k43 hTP (by first | omega | (simp only []; omega)) (by decide)) (tb_cw (C := RX9) 1 hT tw_539 tw_106 tw_536 tw_538 tw_12 rfl rfl hq_X9_take ⟨Nat.le_of_ble_eq_true rfl, Nat.le_of_ble_eq_true rfl⟩) (mk_preC hst hG hK hA hX hS vc_10 h38_1) rfl rfl hl.1 rfl (lv_room (Nat.le_of_ble_eq_true rfl)) dX9_takeRows_60 ⟨(by show _ ≤ 18; omega), (by show _ ≤ 55; have := sl0_le j; omega)⟩) hS (fun q _ h => h) (fun q h => h) (fun  G45 t H locs ht hvm hw hB hz1 hk1 hS => ?_)
            have hG : mm D vwCl A G45 H := by rw [← ht]; exact hB
            clear hB hz1 hk1 hvm ht
            obtain ⟨y46, ey46⟩ : ∃ y, y = q_take K S 6 y39.2 := ⟨_, rfl⟩
            rw [← ey46] at hw
            have ly46 : y46.1 ≤ y39.2.1 + 1 := by rw [ey46]; exact q_take_le
            have eG45 := hw
            clear hw
            have k47 : G45 k = some (.inr (13, [.ref ks, .ref ss, .ref vs, .int (nI tn)])) := by rw [eG45]; exact mm_set_of k40 (mm_ne_oo k40 h38_1 (by decide))
            have k48 : G45 ks = some (.inl (cy 5, 2001, .inr (.inr (.inr (.inr f1))))) := by rw [eG45]; exact mm_set_of k41 (mm_ne_ao k41 h38_1)
            have k49 : G45 ss = some (.inl (cy 1, 2001, .inl f2)) := by rw [eG45]; exact mm_set_of k42 (mm_ne_ao k42 h38_1)
            have k50 : G45 vs = some (.inl (cy 2, 2001, .inr (.inl f3))) := by rw [eG45]; exact mm_set_of k43 (mm_ne_ao k43 h38_1)
            have k51 : G45 ca = some (.inr (2, [.int nu, .int at_, .long cn, .ref rl, .int wd, .int 0, .int 0, .long 1, .long 1, .long 0])) := by rw [eG45]; exact mm_set_of k44 (mm_ne_oo k44 h38_1 (by decide))
            have k52 : G45 o = some (.inr (10, [.ref k, .ref ow, .ref ed, .int (nI y46.1), .int y46.2])) := by rw [eG45]; exact mm_set_self
            have k53 : G45 q19 = some (.inr (4, [.int y31.1, .int (S qv.1), .long y39.1, .int (S y31.2.1), .null])) := by rw [eG45]; exact mm_set_of h38_2 (mm_ne_oo h38_2 h38_1 (by decide))
            refine lv_aload_n hx hb dX9_takeRows_63 rfl (lv_at hl 2 rfl) ?_
            refine mm_getN (v := .ref rl) hx hb hf_X1 (fun _ h9 => h9) hown hK hG k51 rfl 3 (by decide) (tb_use hT tw_499) (fun _ h9 => h9) rfl dX9_takeRows_64 ?_
            refine lv_aload_n hx hb dX9_takeRows_67 rfl (lv_at hl 0 rfl) ?_
            have hfB : ∀ (x : Nat) (e : va_E), Gv x = some e → x ≠ o → G45 x = some e := by
              intro x e z0 n_o
              have n_q19 : x ≠ q19 := fun z => by rw [z, hn_q19] at z0; cases z0
              have z1 : G20 x = some e := by rw [eG20]; exact mm_set_of z0 n_q19
              have z2 : G29 x = some e := h30_f x e z1 n_o n_q19
              have z3 : G37 x = some e := h38_f x e z2 n_o n_q19
              have z4 : G45 x = some e := by rw [eG45]; exact mm_set_of z3 n_o
              exact z4
            have hlsB : LiS cy e0 G45 rl ra j fv := LiS.fr2 (fun x => x ≠ o) hls hfB (hls.ne v_o (by decide)) (fun v _ hv => mm_ne_ao hv v_o)
            have henB : EN G45 j fv dv := fun i hi => hfB _ _ (hen i hi) (mm_ne_oo (hen i hi) v_o (by decide))
            have hLO : LO G45 j fv := fun i hi => ⟨4, _, _, henB i hi, rfl, tw_1914, by decide⟩
            obtain ⟨mo56, h_mo56, -⟩ := id hlsB
            refine va_calli (va_runV (As := [.ref q19]) (rest := []) ⟨hx, hb, hml, hown, (fun _ h9 => absurd h9 List.not_mem_nil : ∀ w ∈ ([] : List Cond), w.before _ s = true)⟩ (c_LS_add l D cy A X hst hXT e0 tk hXE mi hXL G45 rl ra j fv q19 4 _ _ hlsB hLO (by omega) k53 rfl (by decide) tw_1914) (tb_cw (C := RJx4a65c) 1 hT tw_597 tw_113 tw_594 tw_595 tw_596 rfl rfl hq_Jx4a65c_add_9ea2d ⟨Nat.le_of_ble_eq_true rfl, Nat.le_of_ble_eq_true rfl⟩) (mk_preC hst hG hK hA hX hS vc_1 h_mo56) rfl rfl hl.1 rfl (lv_room (Nat.le_of_ble_eq_true rfl)) dX9_takeRows_68 ⟨(by show _ ≤ 18; omega), (by show _ ≤ 55; have h1 := sl0_go j (by omega); have h2 := sl0_le (j + 1); omega)⟩) hS (fun q _ h => h) (fun q h => h) (fun r55 G54 t H locs ht hvm hw hB hz1 hk1 hS => ?_)
            have hG : mm D vwCl A G54 H := by rw [← ht]; exact hB
            clear hB hz1 hk1 hvm ht
            obtain ⟨ra2, hls2, hra2, hf2⟩ := hw
            have hf3 : ∀ (x ci : Nat) (fs : List Value), G45 x = some (.inr (ci, fs)) → ci ≠ 1 → G54 x = some (.inr (ci, fs)) := fun x ci fs h0 hc => hf2 x _ h0 (Ne.symm (hlsB.ne h0 hc)) (fun h1 => LiS.nea hlsB h1 h0)
            have k57 : G54 k = some (.inr (13, [.ref ks, .ref ss, .ref vs, .int (nI tn)])) := hf3 _ _ _ k47 (by decide)
            have k58 : G54 ks = some (.inl (cy 5, 2001, .inr (.inr (.inr (.inr f1))))) := hf2 _ _ k48 (Ne.symm (LiS.nal hlsB k48)) (fun h1 => LiS.nar hlsB h1 k48 (by intro gv9 z; have z2 := (Prod.mk.inj (Prod.mk.inj (Sum.inl.inj z)).2); first | (exact absurd z2.1 (cpf_ne _)) | (cases z2.2)))
            have k59 : G54 ss = some (.inl (cy 1, 2001, .inl f2)) := hf2 _ _ k49 (Ne.symm (LiS.nal hlsB k49)) (fun h1 => LiS.nar hlsB h1 k49 (by intro gv9 z; have z2 := (Prod.mk.inj (Prod.mk.inj (Sum.inl.inj z)).2); first | (exact absurd z2.1 (cpf_ne _)) | (cases z2.2)))
            have k60 : G54 vs = some (.inl (cy 2, 2001, .inr (.inl f3))) := hf2 _ _ k50 (Ne.symm (LiS.nal hlsB k50)) (fun h1 => LiS.nar hlsB h1 k50 (by intro gv9 z; have z2 := (Prod.mk.inj (Prod.mk.inj (Sum.inl.inj z)).2); first | (exact absurd z2.1 (cpf_ne _)) | (cases z2.2)))
            have k61 : G54 ca = some (.inr (2, [.int nu, .int at_, .long cn, .ref rl, .int wd, .int 0, .int 0, .long 1, .long 1, .long 0])) := hf3 _ _ _ k51 (by decide)
            have k62 : G54 o = some (.inr (10, [.ref k, .ref ow, .ref ed, .int (nI y46.1), .int y46.2])) := hf3 _ _ _ k52 (by decide)
            have k63 : G54 q19 = some (.inr (4, [.int y31.1, .int (S qv.1), .long y39.1, .int (S y31.2.1), .null])) := hf3 _ _ _ k53 (by decide)
            refine lv_pop hx hb dX9_takeRows_71 rfl ?_
            obtain ⟨x64, ex64⟩ : ∃ y : Int32, y = (nI j) + 1 := ⟨_, rfl⟩
            refine lv_iinc (v := x64) (lv' := [(2, .int x64), (3, .ref q19), (0, .ref o), (1, .ref ca)]) hx hb dX9_takeRows_72 hl (k := 3) rfl (by rw [ex64]; rfl) (by decide) rfl (fun ls hl => ?_)
            refine lv_goto (tgt := 12) hx hb dX9_takeRows_75 (by decide) ?_
            rw [show x64 = nI (j + 1) by rw [ex64]; exact (nI_succ j).symm] at hl
            have hse : se K qv.1 qv.2 1 = true := by rw [er9] at c_25; revert c_25; cases se K qv.1 qv.2 1 <;> simp [b2i]
            have hrow : q_row K S V j qv = ((y31.1, (S qv.1), y39.1, (S y31.2.1)), y46) := by
              simp only [q_row]
              rw [if_neg (show ¬ j = 8 from fun z => c_31 (by rw [z]; rfl))]
              simp only [ey31, ey39, ey46]
            have hq2 : q_rows K S V n (j + 1) y46 (dup' dv j (y31.1, (S qv.1), y39.1, (S y31.2.1))) = (nF, dF, qF) := by
              rw [← hq]
              show _ = q_rows K S V (n + 1) j qv dv
              rw [q_rows, if_pos hse, hrow]
            have hen2 : EN G54 (j + 1) (fup fv j q19) (dup' dv j (y31.1, (S qv.1), y39.1, (S y31.2.1))) := by
              intro i hi
              by_cases hz : i = j
              · rw [hz, fup_eq]
                simp only [dup', if_true]
                exact k63
              · rw [fup_lt (by omega)]
                simp only [dup', hz, if_false]
                exact hf3 _ _ _ (henB i (by omega)) (by decide)
            have hfr2 : ∀ (x : Nat) (e : va_E), G x = some e → x ≠ o → x ≠ rl → G54 x = some e := by
              intro x e z n_o n_rl
              have z1 := hfB x e (hfr x e z n_o n_rl) n_o
              refine hf2 x e z1 n_rl (fun h1 h2 => ?_)
              rw [h2, hra h1] at z
              cases z
            have hra3 : 1 ≤ j + 1 → G ra2 = none := by
              intro _
              rcases hra2 with ⟨h1, h2⟩ | h2
              · rw [h2]; exact hra h1
              · by_cases hz : ra2 = o
                · rw [hz, k52] at h2; cases h2
                · by_cases hz2 : ra2 = rl
                  · rw [hz2] at h2; obtain ⟨_, q9, -⟩ := hlsB; rw [q9] at h2; cases h2
                  · cases hg : G ra2 with
                    | none => rfl
                    | some e9 => rw [hfB _ _ (hfr _ _ hg hz hz2) hz] at h2; cases h2
            have fn65 : Gv q19 = none := by
              have z := hn_q19
              exact z
            have hg0 : G q19 = none := by
              cases hz : G q19 with
              | none => rfl
              | some e9 => have z2 := hfr _ _ hz (fun z => by rw [z, v_o] at fn65; cases fn65) (fun z => by obtain ⟨_, q9, -⟩ := hls; rw [z, q9] at fn65; cases fn65); rw [fn65] at z2; cases z2
            have hnw2 : NW G (j + 1) (fup fv j q19) := NW.up (Gv := Gv) hnw hg0 (fun i hi z => by have z2 := hen i hi; rw [z, fn65] at z2; cases z2)
            refine W.widen (k := 2 * (j + 1)) (n := 5 * (j + 1) + sl0 (j + 1)) (by omega) (by have := sl0_go j (by omega); omega) ?_
            exact ih (j + 1) y46 ra2 (fup fv j q19) (dup' dv j (y31.1, (S qv.1), y39.1, (S y31.2.1))) (by omega) hq2 (by omega) G54 k62 k57 k58 k59 k60 k61 hls2 hen2 hfr2 hra3 hnw2 _ _ hG hS ls (lv_sub hl [2, 3, 0] rfl)
          · skip
            refine lv_aload_n hx hb dX9_takeRows_34 rfl (lv_at hl 0 rfl) ?_
            refine va_callv (va_runV (As := []) (rest := []) ⟨hx, hb, hml, hown, (fun _ h9 => absurd h9 List.not_mem_nil : ∀ w ∈ ([] : List Cond), w.before _ s = true)⟩ (c_X9_fail l D cy A X hst hXT e0 tk hXE Gv o ow ed qv k ks ss vs tn K S V f1 f2 f3  v_o v_k v_ks v_ss v_vs hTP (by first | omega | (simp only []; omega)) ) (tb_cw (C := RX9) 0 hT tw_465 tw_106 tw_462 tw_464 tw_9 rfl rfl hq_X9_fail ⟨Nat.le_of_ble_eq_true rfl, Nat.le_of_ble_eq_true rfl⟩) (mk_preC hst hG hK hA hX hS vc_10 v_o) rfl rfl hl.1 rfl (lv_room (Nat.le_of_ble_eq_true rfl)) dX9_takeRows_35 ⟨(by show _ ≤ 18; omega), (by show _ ≤ 55; have := sl0_le j; omega)⟩) hS (fun q _ h => h) (fun q h => h) (fun  G66 t H locs ht hvm hw hB hz1 hk1 hS => ?_)
            have hG : mm D vwCl A G66 H := by rw [← ht]; exact hB
            clear hB hz1 hk1 hvm ht
            obtain ⟨y67, ey67⟩ : ∃ y, y = (qv.1, fl S qv.1 qv.2) := ⟨_, rfl⟩
            rw [← ey67] at hw
            have ly67 : y67.1 ≤ qv.1 + 0 := by rw [ey67]; exact (by simp)
            have eG66 := hw
            clear hw
            have k68 : G66 o = some (.inr (10, [.ref k, .ref ow, .ref ed, .int (nI y67.1), .int y67.2])) := by rw [eG66]; exact mm_set_self
            have k69 : G66 k = some (.inr (13, [.ref ks, .ref ss, .ref vs, .int (nI tn)])) := by rw [eG66]; exact mm_set_of v_k (mm_ne_oo v_k v_o (by decide))
            have k70 : G66 ks = some (.inl (cy 5, 2001, .inr (.inr (.inr (.inr f1))))) := by rw [eG66]; exact mm_set_of v_ks (mm_ne_ao v_ks v_o)
            have k71 : G66 ss = some (.inl (cy 1, 2001, .inl f2)) := by rw [eG66]; exact mm_set_of v_ss (mm_ne_ao v_ss v_o)
            have k72 : G66 vs = some (.inl (cy 2, 2001, .inr (.inl f3))) := by rw [eG66]; exact mm_set_of v_vs (mm_ne_ao v_vs v_o)
            have k73 : G66 ca = some (.inr (2, [.int nu, .int at_, .long cn, .ref rl, .int wd, .int 0, .int 0, .long 1, .long 1, .long 0])) := by rw [eG66]; exact mm_set_of v_ca (mm_ne_oo v_ca v_o (by decide))
            refine mm_new (ci := 4) (fs := [.int 0, .int 0, .long 0, .int 0, .null]) hx hb hf_X3 (fun _ h9 => h9) tyX3 tyX3_ok hown (tb_use hT tw_553) (tb_use hT tw_554) (tb_use hT tw_123) hK hG hS hA rfl (fun j hj => by rcases (show j = 0 ∨ j = 1 ∨ j = 2 ∨ j = 3 ∨ j = 4 by omega) with rfl | rfl | rfl | rfl | rfl <;> rfl) (by show _ ≤ 18; omega) (by show _ ≤ 55; have := sl0_le j; omega) dX9_takeRows_38 (fun q74 H hn_q74 hG hS => ?_)
            obtain ⟨G75, eG75⟩ : ∃ g, g = mm_set G66 q74 (.inr (4, [.int 0, .int 0, .long 0, .int 0, .null])) := ⟨_, rfl⟩
            have hG : mm D vwCl A G75 H := by rw [eG75]; exact hG
            have k76 : G75 o = some (.inr (10, [.ref k, .ref ow, .ref ed, .int (nI y67.1), .int y67.2])) := by rw [eG75]; exact mm_set_new k68 hn_q74
            have k77 : G75 k = some (.inr (13, [.ref ks, .ref ss, .ref vs, .int (nI tn)])) := by rw [eG75]; exact mm_set_new k69 hn_q74
            have k78 : G75 ks = some (.inl (cy 5, 2001, .inr (.inr (.inr (.inr f1))))) := by rw [eG75]; exact mm_set_new k70 hn_q74
            have k79 : G75 ss = some (.inl (cy 1, 2001, .inl f2)) := by rw [eG75]; exact mm_set_new k71 hn_q74
            have k80 : G75 vs = some (.inl (cy 2, 2001, .inr (.inl f3))) := by rw [eG75]; exact mm_set_new k72 hn_q74
            have k81 : G75 ca = some (.inr (2, [.int nu, .int at_, .long cn, .ref rl, .int wd, .int 0, .int 0, .long 1, .long 1, .long 0])) := by rw [eG75]; exact mm_set_new k73 hn_q74
            have k82 : G75 q74 = some (.inr (4, [.int 0, .int 0, .long 0, .int 0, .null])) := by rw [eG75]; exact mm_set_self
            refine lv_dup hx hb dX9_takeRows_41 rfl ?_
            refine va_callv (va_runIN (As := []) (rest := [.ref q74]) ⟨hx, hb, hml, hown, (fun _ h9 => absurd h9 List.not_mem_nil : ∀ w ∈ ([] : List Cond), w.before _ s = true)⟩ (c_X3_init l D cy A X hst hXT e0 tk hXE G75 q74 k82) ⟨tb_cn (host := "DescribeText") 0 hT tw_557 tw_123 tw_555 rfl rfl hq_X3_init ⟨Nat.le_of_ble_eq_true rfl, Nat.le_of_ble_eq_true rfl⟩, rfl, (tb_use hT tw_556)⟩ (mk_preS hst hG hK hA hX hS) rfl rfl hl.1 rfl (lv_room (Nat.le_of_ble_eq_true rfl)) dX9_takeRows_42 ⟨(by show _ ≤ 18; omega), (by show _ ≤ 55; have := sl0_le j; omega)⟩) hS (fun q _ h => h) (fun q h => h) (fun  G83 t H locs ht hvm hw hB hz1 hk1 hS => ?_)
            have hG : mm D vwCl A G83 H := by rw [← ht]; exact hB
            clear hB hz1 hk1 hvm ht
            rw [hw] at hG
            refine lv_astore_n (lv' := [(3, .ref q74), (0, .ref o), (1, .ref ca), (2, .int (nI j))]) hx hb dX9_takeRows_45 rfl hl (by decide) rfl (fun ls hl => ?_)
            refine lv_aload_n hx hb dX9_takeRows_46 rfl (lv_at hl 1 rfl) ?_
            refine lv_aload_n hx hb dX9_takeRows_47 rfl (lv_at hl 0 rfl) ?_
            refine va_callv (va_runV (As := [.ref q74]) (rest := []) ⟨hx, hb, hml, hown, (fun _ h9 => absurd h9 List.not_mem_nil : ∀ w ∈ ([] : List Cond), w.before _ s = true)⟩ (c_X9_takeNumberOf l D cy A X hst hXT e0 tk hXE G75 o ow ed y67 k ks ss vs tn K S V f1 f2 f3 q74 0 0 0 0 none k76 k77 k78 k79 k80 hTP (by first | omega | (simp only []; omega)) k82) (tb_cw (C := RX9) 1 hT tw_586 tw_106 tw_583 tw_585 tw_15 rfl rfl hq_X9_takeNumberOf ⟨Nat.le_of_ble_eq_true rfl, Nat.le_of_ble_eq_true rfl⟩) (mk_preC hst hG hK hA hX hS vc_10 k76) rfl rfl hl.1 rfl (lv_room (Nat.le_of_ble_eq_true rfl)) dX9_takeRows_48 ⟨(by show _ ≤ 18; omega), (by show _ ≤ 55; have := sl0_le j; omega)⟩) hS (fun q _ h => h) (fun q h => h) (fun  G84 t H locs ht hvm hw hB hz1 hk1 hS => ?_)
            have hG : mm D vwCl A G84 H := by rw [← ht]; exact hB
            clear hB hz1 hk1 hvm ht
            obtain ⟨h85_1, h85_2, h85_f⟩ := hw
            obtain ⟨y86, ey86⟩ : ∃ y, y = q_num K S V 0 999999 y67 := ⟨_, rfl⟩
            rw [← ey86] at h85_1 h85_2
            have ly86 : y86.2.1 ≤ y67.1 + 1 := by rw [ey86]; exact q_num_le
            have k87 : G84 k = some (.inr (13, [.ref ks, .ref ss, .ref vs, .int (nI tn)])) := h85_f _ _ k77 (mm_ne_oo k77 k76 (by decide)) (mm_ne_oo k77 k82 (by decide))
            have k88 : G84 ks = some (.inl (cy 5, 2001, .inr (.inr (.inr (.inr f1))))) := h85_f _ _ k78 (mm_ne_ao k78 k76) (mm_ne_ao k78 k82)
            have k89 : G84 ss = some (.inl (cy 1, 2001, .inl f2)) := h85_f _ _ k79 (mm_ne_ao k79 k76) (mm_ne_ao k79 k82)
            have k90 : G84 vs = some (.inl (cy 2, 2001, .inr (.inl f3))) := h85_f _ _ k80 (mm_ne_ao k80 k76) (mm_ne_ao k80 k82)
            have k91 : G84 ca = some (.inr (2, [.int nu, .int at_, .long cn, .ref rl, .int wd, .int 0, .int 0, .long 1, .long 1, .long 0])) := h85_f _ _ k81 (mm_ne_oo k81 k76 (by decide)) (mm_ne_oo k81 k82 (by decide))
            refine lv_aload_n hx hb dX9_takeRows_51 rfl (lv_at hl 1 rfl) ?_
            refine lv_aload_n hx hb dX9_takeRows_52 rfl (lv_at hl 0 rfl) ?_
            refine va_callv (va_runV (As := [.ref q74]) (rest := []) ⟨hx, hb, hml, hown, (fun _ h9 => absurd h9 List.not_mem_nil : ∀ w ∈ ([] : List Cond), w.before _ s = true)⟩ (c_X9_takeNameOf l D cy A X hst hXT e0 tk hXE G84 o ow ed y86.2 k ks ss vs tn K S V f1 f2 f3 q74 y86.1 (S y67.1) 0 0 none h85_1 k87 k88 k89 k90 hTP (by first | omega | (simp only []; omega)) h85_2) (tb_cw (C := RX9) 1 hT tw_591 tw_106 tw_588 tw_590 tw_16 rfl rfl hq_X9_takeNameOf ⟨Nat.le_of_ble_eq_true rfl, Nat.le_of_ble_eq_true rfl⟩) (mk_preC hst hG hK hA hX hS vc_10 h85_1) rfl rfl hl.1 rfl (lv_room (Nat.le_of_ble_eq_true rfl)) dX9_takeRows_53 ⟨(by show _ ≤ 18; omega), (by show _ ≤ 55; have := sl0_le j; omega)⟩) hS (fun q _ h => h) (fun q h => h) (fun  G92 t H locs ht hvm hw hB hz1 hk1 hS => ?_)
            have hG : mm D vwCl A G92 H := by rw [← ht]; exact hB
            clear hB hz1 hk1 hvm ht
            obtain ⟨h93_1, h93_2, h93_f⟩ := hw
            obtain ⟨y94, ey94⟩ : ∃ y, y = q_name K S V y86.2 := ⟨_, rfl⟩
            rw [← ey94] at h93_1 h93_2
            have ly94 : y94.2.1 ≤ y86.2.1 + 1 := by rw [ey94]; exact q_name_le
            have k95 : G92 k = some (.inr (13, [.ref ks, .ref ss, .ref vs, .int (nI tn)])) := h93_f _ _ k87 (mm_ne_oo k87 h85_1 (by decide)) (mm_ne_oo k87 h85_2 (by decide))
            have k96 : G92 ks = some (.inl (cy 5, 2001, .inr (.inr (.inr (.inr f1))))) := h93_f _ _ k88 (mm_ne_ao k88 h85_1) (mm_ne_ao k88 h85_2)
            have k97 : G92 ss = some (.inl (cy 1, 2001, .inl f2)) := h93_f _ _ k89 (mm_ne_ao k89 h85_1) (mm_ne_ao k89 h85_2)
            have k98 : G92 vs = some (.inl (cy 2, 2001, .inr (.inl f3))) := h93_f _ _ k90 (mm_ne_ao k90 h85_1) (mm_ne_ao k90 h85_2)
            have k99 : G92 ca = some (.inr (2, [.int nu, .int at_, .long cn, .ref rl, .int wd, .int 0, .int 0, .long 1, .long 1, .long 0])) := h93_f _ _ k91 (mm_ne_oo k91 h85_1 (by decide)) (mm_ne_oo k91 h85_2 (by decide))
            refine lv_aload_n hx hb dX9_takeRows_56 rfl (lv_at hl 1 rfl) ?_
            refine va_gets (v := .ref (tk 6)) hx hb (show va_Z "DescribeText$Token" "SEMICOLON" "LDescribeText$Token;" (.ref (tk 6)) A s s.heap from (hE.2.1 6 (by decide)).1) hS hown (tb_use hT tw_592) (fun _ h9 => h9) dX9_takeRows_57 ?_
            refine va_callv (va_runV (As := [.ref (tk 6)]) (rest := []) ⟨hx, hb, hml, hown, (fun _ h9 => absurd h9 List.not_mem_nil : ∀ w ∈ ([] : List Cond), w.before _ s = true)⟩ (c_X9_take l D cy A X hst hXT e0 tk hXE G92 o ow ed y94.2 k ks ss vs tn K S V f1 f2 f3 6 h93_1 k95 k96 k97 k98 hTP (by first | omega | (simp only []; omega)) (by decide)) (tb_cw (C := RX9) 1 hT tw_539 tw_106 tw_536 tw_538 tw_12 rfl rfl hq_X9_take ⟨Nat.le_of_ble_eq_true rfl, Nat.le_of_ble_eq_true rfl⟩) (mk_preC hst hG hK hA hX hS vc_10 h93_1) rfl rfl hl.1 rfl (lv_room (Nat.le_of_ble_eq_true rfl)) dX9_takeRows_60 ⟨(by show _ ≤ 18; omega), (by show _ ≤ 55; have := sl0_le j; omega)⟩) hS (fun q _ h => h) (fun q h => h) (fun  G100 t H locs ht hvm hw hB hz1 hk1 hS => ?_)
            have hG : mm D vwCl A G100 H := by rw [← ht]; exact hB
            clear hB hz1 hk1 hvm ht
            obtain ⟨y101, ey101⟩ : ∃ y, y = q_take K S 6 y94.2 := ⟨_, rfl⟩
            rw [← ey101] at hw
            have ly101 : y101.1 ≤ y94.2.1 + 1 := by rw [ey101]; exact q_take_le
            have eG100 := hw
            clear hw
            have k102 : G100 k = some (.inr (13, [.ref ks, .ref ss, .ref vs, .int (nI tn)])) := by rw [eG100]; exact mm_set_of k95 (mm_ne_oo k95 h93_1 (by decide))
            have k103 : G100 ks = some (.inl (cy 5, 2001, .inr (.inr (.inr (.inr f1))))) := by rw [eG100]; exact mm_set_of k96 (mm_ne_ao k96 h93_1)
            have k104 : G100 ss = some (.inl (cy 1, 2001, .inl f2)) := by rw [eG100]; exact mm_set_of k97 (mm_ne_ao k97 h93_1)
            have k105 : G100 vs = some (.inl (cy 2, 2001, .inr (.inl f3))) := by rw [eG100]; exact mm_set_of k98 (mm_ne_ao k98 h93_1)
            have k106 : G100 ca = some (.inr (2, [.int nu, .int at_, .long cn, .ref rl, .int wd, .int 0, .int 0, .long 1, .long 1, .long 0])) := by rw [eG100]; exact mm_set_of k99 (mm_ne_oo k99 h93_1 (by decide))
            have k107 : G100 o = some (.inr (10, [.ref k, .ref ow, .ref ed, .int (nI y101.1), .int y101.2])) := by rw [eG100]; exact mm_set_self
            have k108 : G100 q74 = some (.inr (4, [.int y86.1, .int (S y67.1), .long y94.1, .int (S y86.2.1), .null])) := by rw [eG100]; exact mm_set_of h93_2 (mm_ne_oo h93_2 h93_1 (by decide))
            refine lv_aload_n hx hb dX9_takeRows_63 rfl (lv_at hl 2 rfl) ?_
            refine mm_getN (v := .ref rl) hx hb hf_X1 (fun _ h9 => h9) hown hK hG k106 rfl 3 (by decide) (tb_use hT tw_499) (fun _ h9 => h9) rfl dX9_takeRows_64 ?_
            refine lv_aload_n hx hb dX9_takeRows_67 rfl (lv_at hl 0 rfl) ?_
            have hfB : ∀ (x : Nat) (e : va_E), Gv x = some e → x ≠ o → G100 x = some e := by
              intro x e z0 n_o
              have z1 : G66 x = some e := by rw [eG66]; exact mm_set_of z0 n_o
              have n_q74 : x ≠ q74 := fun z => by rw [z, hn_q74] at z1; cases z1
              have z2 : G75 x = some e := by rw [eG75]; exact mm_set_of z1 n_q74
              have z3 : G84 x = some e := h85_f x e z2 n_o n_q74
              have z4 : G92 x = some e := h93_f x e z3 n_o n_q74
              have z5 : G100 x = some e := by rw [eG100]; exact mm_set_of z4 n_o
              exact z5
            have hlsB : LiS cy e0 G100 rl ra j fv := LiS.fr2 (fun x => x ≠ o) hls hfB (hls.ne v_o (by decide)) (fun v _ hv => mm_ne_ao hv v_o)
            have henB : EN G100 j fv dv := fun i hi => hfB _ _ (hen i hi) (mm_ne_oo (hen i hi) v_o (by decide))
            have hLO : LO G100 j fv := fun i hi => ⟨4, _, _, henB i hi, rfl, tw_1914, by decide⟩
            obtain ⟨mo111, h_mo111, -⟩ := id hlsB
            refine va_calli (va_runV (As := [.ref q74]) (rest := []) ⟨hx, hb, hml, hown, (fun _ h9 => absurd h9 List.not_mem_nil : ∀ w ∈ ([] : List Cond), w.before _ s = true)⟩ (c_LS_add l D cy A X hst hXT e0 tk hXE mi hXL G100 rl ra j fv q74 4 _ _ hlsB hLO (by omega) k108 rfl (by decide) tw_1914) (tb_cw (C := RJx4a65c) 1 hT tw_597 tw_113 tw_594 tw_595 tw_596 rfl rfl hq_Jx4a65c_add_9ea2d ⟨Nat.le_of_ble_eq_true rfl, Nat.le_of_ble_eq_true rfl⟩) (mk_preC hst hG hK hA hX hS vc_1 h_mo111) rfl rfl hl.1 rfl (lv_room (Nat.le_of_ble_eq_true rfl)) dX9_takeRows_68 ⟨(by show _ ≤ 18; omega), (by show _ ≤ 55; have h1 := sl0_go j (by omega); have h2 := sl0_le (j + 1); omega)⟩) hS (fun q _ h => h) (fun q h => h) (fun r110 G109 t H locs ht hvm hw hB hz1 hk1 hS => ?_)
            have hG : mm D vwCl A G109 H := by rw [← ht]; exact hB
            clear hB hz1 hk1 hvm ht
            obtain ⟨ra2, hls2, hra2, hf2⟩ := hw
            have hf3 : ∀ (x ci : Nat) (fs : List Value), G100 x = some (.inr (ci, fs)) → ci ≠ 1 → G109 x = some (.inr (ci, fs)) := fun x ci fs h0 hc => hf2 x _ h0 (Ne.symm (hlsB.ne h0 hc)) (fun h1 => LiS.nea hlsB h1 h0)
            have k112 : G109 k = some (.inr (13, [.ref ks, .ref ss, .ref vs, .int (nI tn)])) := hf3 _ _ _ k102 (by decide)
            have k113 : G109 ks = some (.inl (cy 5, 2001, .inr (.inr (.inr (.inr f1))))) := hf2 _ _ k103 (Ne.symm (LiS.nal hlsB k103)) (fun h1 => LiS.nar hlsB h1 k103 (by intro gv9 z; have z2 := (Prod.mk.inj (Prod.mk.inj (Sum.inl.inj z)).2); first | (exact absurd z2.1 (cpf_ne _)) | (cases z2.2)))
            have k114 : G109 ss = some (.inl (cy 1, 2001, .inl f2)) := hf2 _ _ k104 (Ne.symm (LiS.nal hlsB k104)) (fun h1 => LiS.nar hlsB h1 k104 (by intro gv9 z; have z2 := (Prod.mk.inj (Prod.mk.inj (Sum.inl.inj z)).2); first | (exact absurd z2.1 (cpf_ne _)) | (cases z2.2)))
            have k115 : G109 vs = some (.inl (cy 2, 2001, .inr (.inl f3))) := hf2 _ _ k105 (Ne.symm (LiS.nal hlsB k105)) (fun h1 => LiS.nar hlsB h1 k105 (by intro gv9 z; have z2 := (Prod.mk.inj (Prod.mk.inj (Sum.inl.inj z)).2); first | (exact absurd z2.1 (cpf_ne _)) | (cases z2.2)))
            have k116 : G109 ca = some (.inr (2, [.int nu, .int at_, .long cn, .ref rl, .int wd, .int 0, .int 0, .long 1, .long 1, .long 0])) := hf3 _ _ _ k106 (by decide)
            have k117 : G109 o = some (.inr (10, [.ref k, .ref ow, .ref ed, .int (nI y101.1), .int y101.2])) := hf3 _ _ _ k107 (by decide)
            have k118 : G109 q74 = some (.inr (4, [.int y86.1, .int (S y67.1), .long y94.1, .int (S y86.2.1), .null])) := hf3 _ _ _ k108 (by decide)
            refine lv_pop hx hb dX9_takeRows_71 rfl ?_
            obtain ⟨x119, ex119⟩ : ∃ y : Int32, y = (nI j) + 1 := ⟨_, rfl⟩
            refine lv_iinc (v := x119) (lv' := [(2, .int x119), (3, .ref q74), (0, .ref o), (1, .ref ca)]) hx hb dX9_takeRows_72 hl (k := 3) rfl (by rw [ex119]; rfl) (by decide) rfl (fun ls hl => ?_)
            refine lv_goto (tgt := 12) hx hb dX9_takeRows_75 (by decide) ?_
            rw [show x119 = nI (j + 1) by rw [ex119]; exact (nI_succ j).symm] at hl
            have hse : se K qv.1 qv.2 1 = true := by rw [er9] at c_25; revert c_25; cases se K qv.1 qv.2 1 <;> simp [b2i]
            have hrow : q_row K S V j qv = ((y86.1, (S y67.1), y94.1, (S y86.2.1)), y101) := by
              simp only [q_row]
              rw [if_pos (show j = 8 from nI_inj (by omega) (by decide) c_31)]
              simp only [ey67, ey86, ey94, ey101]
            have hq2 : q_rows K S V n (j + 1) y101 (dup' dv j (y86.1, (S y67.1), y94.1, (S y86.2.1))) = (nF, dF, qF) := by
              rw [← hq]
              show _ = q_rows K S V (n + 1) j qv dv
              rw [q_rows, if_pos hse, hrow]
            have hen2 : EN G109 (j + 1) (fup fv j q74) (dup' dv j (y86.1, (S y67.1), y94.1, (S y86.2.1))) := by
              intro i hi
              by_cases hz : i = j
              · rw [hz, fup_eq]
                simp only [dup', if_true]
                exact k118
              · rw [fup_lt (by omega)]
                simp only [dup', hz, if_false]
                exact hf3 _ _ _ (henB i (by omega)) (by decide)
            have hfr2 : ∀ (x : Nat) (e : va_E), G x = some e → x ≠ o → x ≠ rl → G109 x = some e := by
              intro x e z n_o n_rl
              have z1 := hfB x e (hfr x e z n_o n_rl) n_o
              refine hf2 x e z1 n_rl (fun h1 h2 => ?_)
              rw [h2, hra h1] at z
              cases z
            have hra3 : 1 ≤ j + 1 → G ra2 = none := by
              intro _
              rcases hra2 with ⟨h1, h2⟩ | h2
              · rw [h2]; exact hra h1
              · by_cases hz : ra2 = o
                · rw [hz, k107] at h2; cases h2
                · by_cases hz2 : ra2 = rl
                  · rw [hz2] at h2; obtain ⟨_, q9, -⟩ := hlsB; rw [q9] at h2; cases h2
                  · cases hg : G ra2 with
                    | none => rfl
                    | some e9 => rw [hfB _ _ (hfr _ _ hg hz hz2) hz] at h2; cases h2
            have fn120 : Gv q74 = none := by
              have z := hn_q74
              rw [eG66] at z; replace z := mm_none z
              exact z
            have hg0 : G q74 = none := by
              cases hz : G q74 with
              | none => rfl
              | some e9 => have z2 := hfr _ _ hz (fun z => by rw [z, v_o] at fn120; cases fn120) (fun z => by obtain ⟨_, q9, -⟩ := hls; rw [z, q9] at fn120; cases fn120); rw [fn120] at z2; cases z2
            have hnw2 : NW G (j + 1) (fup fv j q74) := NW.up (Gv := Gv) hnw hg0 (fun i hi z => by have z2 := hen i hi; rw [z, fn120] at z2; cases z2)
            refine W.widen (k := 2 * (j + 1)) (n := 5 * (j + 1) + sl0 (j + 1)) (by omega) (by have := sl0_go j (by omega); omega) ?_
            exact ih (j + 1) y101 ra2 (fup fv j q74) (dup' dv j (y86.1, (S y67.1), y94.1, (S y86.2.1))) (by omega) hq2 (by omega) G109 k117 k112 k113 k114 k115 k116 hls2 hen2 hfr2 hra3 hnw2 _ _ hG hS ls (lv_sub hl [2, 3, 0] rfl)
  refine lv_aload_n hx hb dX9_takeRows_0 rfl (lv_at hl 0 rfl) ?_
  refine lv_dup hx hb dX9_takeRows_1 rfl ?_
  refine mm_get (v := .int (nI q.1)) hx hb hf_X9 (fun _ h9 => h9) hown hK hG h0 rfl 3 (by decide) (tb_use hT tw_180) (fun _ h9 => h9) rfl dX9_takeRows_2 ?_
  refine lv_iconst (v := 1) hx hb dX9_takeRows_5 (by decide) ?_
  refine lv_iadd hx hb dX9_takeRows_6 ?_
  rw [← nI_succ q.1]
  refine mm_put (v := .int (nI (q.1 + 1))) (ty := .int) hx hb hf_X9 (fun _ h9 => h9) tyX9 tyX9_ok nmX9 hown hK hG hS h0 rfl 3 (by decide) (tb_use hT tw_180) (fun _ h9 => h9) rfl (by decide +kernel) rfl rfl (Nat.le_of_ble_eq_true rfl) dX9_takeRows_7 (fun H locs hG hS => ?_)
  obtain ⟨G121, eG121⟩ : ∃ g, g = mm_set G o (.inr (10, [.ref k, .ref ow, .ref ed, .int (nI (q.1 + 1)), .int q.2])) := ⟨_, rfl⟩
  have hG : mm D vwCl A G121 H := by rw [eG121]; exact hG
  have k122 : G121 o = some (.inr (10, [.ref k, .ref ow, .ref ed, .int (nI (q.1 + 1)), .int q.2])) := by rw [eG121]; exact mm_set_self
  have k123 : G121 k = some (.inr (13, [.ref ks, .ref ss, .ref vs, .int (nI tn)])) := by rw [eG121]; exact mm_set_of q1 (mm_ne_oo q1 h0 (by decide))
  have k124 : G121 ks = some (.inl (cy 5, 2001, .inr (.inr (.inr (.inr f1))))) := by rw [eG121]; exact mm_set_of q2 (mm_ne_ao q2 h0)
  have k125 : G121 ss = some (.inl (cy 1, 2001, .inl f2)) := by rw [eG121]; exact mm_set_of q3 (mm_ne_ao q3 h0)
  have k126 : G121 vs = some (.inl (cy 2, 2001, .inr (.inl f3))) := by rw [eG121]; exact mm_set_of q4 (mm_ne_ao q4 h0)
  have k127 : G121 ca = some (.inr (2, [.int nu, .int at_, .long cn, .ref rl, .int wd, .int 0, .int 0, .long 1, .long 1, .long 0])) := by rw [eG121]; exact mm_set_of h9 (mm_ne_oo h9 h0 (by decide))
  refine lv_iconst (v := 0) hx hb dX9_takeRows_10 (by decide) ?_
  refine lv_istore_n (lv' := [(2, .int 0), (0, .ref o), (1, .ref ca)]) hx hb dX9_takeRows_11 rfl hl (by decide) rfl (fun ls hl => ?_)
  have hfr00 : ∀ (x : Nat) (e : va_E), G x = some e → x ≠ o → G121 x = some e := by
    intro x e z0 n_o
    have z1 : G121 x = some e := by rw [eG121]; exact mm_set_of z0 n_o
    exact z1
  have hfr0 : ∀ (x : Nat) (e : va_E), G x = some e → x ≠ o → x ≠ rl → G121 x = some e := fun x e h n1 _ => hfr00 x e h n1
  have hls0' : LiS cy e0 G121 rl e0 0 (fun _ => 0) := LiS.fr2 (fun x => x ≠ o) hls0 hfr00 (hls0.ne h0 (by decide)) (fun v _ hv => mm_ne_ao hv h0)
  refine W.widen (k := 2 * 0) (n := 5 * 0 + sl0 0) (by omega) (by omega) ?_
  exact hloop 9 0 (q.1 + 1, q.2) e0 (fun _ => 0) (fun _ => (0, 0, 0, 0)) (by omega) hR (by simp only []; omega) G121 k122 k123 k124 k125 k126 k127 hls0' (fun i hi => absurd hi (by omega)) hfr0 (fun h => absurd h (by omega)) ⟨fun i hi => absurd hi (Nat.not_lt_zero i), fun a b ha => absurd ha (Nat.not_lt_zero a)⟩ _ _ hG hS ls (lv_sub hl [1, 2, 0] rfl)
