/-! ===== a job's turns, on both sides ===== -/
theorem xor_neg {x y : Int64} (hy : 0 ≤ y.toInt) : (x ^^^ y) < 0 ↔ x.toInt < 0 := by
  rw [i64_lt, i64_z]
  have h1 : ∀ z : Int64, z.toBitVec.msb = decide (z.toInt < 0) := fun z => BitVec.msb_eq_toInt
  have e : (x ^^^ y).toBitVec.msb = (x.toBitVec.msb ^^ y.toBitVec.msb) := by
    show (x.toBitVec ^^^ y.toBitVec).msb = _
    exact BitVec.msb_xor
  rw [h1, h1, h1, decide_eq_false (show ¬ y.toInt < 0 by omega), Bool.xor_false] at e
  exact ⟨fun z => of_decide_eq_true (by rw [← e]; exact decide_eq_true z), fun z => of_decide_eq_true (by rw [e]; exact decide_eq_true z)⟩
theorem fdv_eq {x y : Int64} (h1 : -4611686018427387904 < x.toInt ∧ x.toInt < 4611686018427387904) (h2 : 1 ≤ y.toInt) : fdv x y = if x < x / y * y then x / y - 1 else x / y := by
  have e1 : (x / y).toInt = x.toInt.tdiv y.toInt := i64_div (by omega) (by omega)
  have q6 : (x.toInt.tdiv y.toInt * y.toInt).natAbs ≤ x.toInt.natAbs := by
    rw [Int.natAbs_mul, Int.natAbs_tdiv]
    exact Nat.div_mul_le_self _ _
  have e2 : (x / y * y).toInt = x.toInt.tdiv y.toInt * y.toInt := by
    rw [i64_mul (by rw [e1]; omega) (by rw [e1]; omega), e1]
  unfold fdv
  by_cases hx : x.toInt < 0
  · by_cases z : x / y * y = x
    · rw [if_neg (fun u => u.2 z), if_neg (by rw [z, i64_lt]; omega)]
    · rw [if_pos ⟨(xor_neg (by omega)).mpr hx, z⟩, if_pos]
      have u : ¬ x.toInt.tdiv y.toInt * y.toInt = x.toInt := fun u => z (Int64.toInt_inj.mp (by rw [e2]; exact u))
      rw [i64_lt, e2]
      omega
  · rw [if_neg (fun u => hx ((xor_neg (by omega)).mp u.1)), if_neg]
    rw [i64_lt, e2]
    omega
theorem fv_gt {v : EdV} {d : OpD} {s i ln : Nat} {f : Nat → Int32} {P : Nat → PdT} (hW : WDv v) (hC : CBv v) (hk : d.1 = 26) (hs : svN v d.2.2.1 = some s) (hp : paN v s d.2.2.2.2.1 = some i) : fvV v (teF v s ln f (P s)) s i = gtV v ln f P d := by
  have e : opK v d = (cdN v (v.P s i).2.2.1).map (fun k => (s, i, k)) := by
    unfold opK opP opS
    rw [if_pos hk, hs]
    dsimp only
    rw [hp]
    rfl
  unfold gtV fvV
  rw [e]
  cases hc : cdN v (v.P s i).2.2.1 with
  | none => rfl
  | some k =>
    dsimp only [Option.map]
    by_cases z : (teF v s ln f (P s) i).2.1 = 0
    · rw [if_pos z, if_pos z]
    · rw [if_neg z, if_neg z]
      have hb := hC k (cdN_lt hc)
      have hr := teF_b hW (c := s) (ln := ln) (f := f) (P := P s) (paN_lt hp)
      have hx := cWh_b hb hr
      have e2 : flr (v.C k).2.2.2.1 (v.C k).2.2.2.2.1 (v.C k).2.2.2.2.2 (teF v s ln f (P s) i).2.2.1 = fdv (cWh (v.C k).2.2.2.1 (v.C k).2.2.2.2.1 (v.C k).2.2.2.2.2 (teF v s ln f (P s) i).2.2.1) (v.C k).2.2.2.2.1 := if_neg (fun y => by have u := hb.1.1; rw [y, i64_z] at u; omega)
      rw [e2]
      exact (fdv_eq hx hb.1.1).symm
/-- what an op takes, and whether it lays -/
def wtN (k : Nat) : Nat := if k = 25 ∨ k = 26 then 0 else if k = 27 ∨ k = 28 ∨ k = 29 ∨ k = 31 then 2 else 1
def lyB (k : Nat) : Bool := decide (k = 25 ∨ k = 26 ∨ k = 30)
theorem rf_tab : ∀ k, k < 35 → 25 ≤ k → ∀ m, m < 17 → (decide (nI m < tkT k ∨ 16 < nI m - tkT k + tkL k) = (decide (m < wtN k) || (lyB k && decide (m = 16)))) := by decide +kernel
theorem rf_ok {k m sz : Nat} (h1 : 25 ≤ k) (h2 : k < 35) (hm : m ≤ 16) (hw : wtN k ≤ m) (hl : lyB k = true → m ≠ 16) (hs : k = 33 → sz < 64) : rfs m k sz = 0 := by
  have h := rf_tab k h2 h1 m (by omega)
  unfold rfs
  rw [if_neg, if_neg (fun y => by have := hs y.1; omega)]
  intro z
  rw [decide_eq_true z, decide_eq_false (by omega)] at h
  cases hq : lyB k with
  | false => rw [hq] at h; cases h
  | true => rw [hq, decide_eq_false (hl hq)] at h; cases h
theorem rf_n3 {k m sz : Nat} (h1 : 25 ≤ k) (h2 : k < 35) (hm : m ≤ 16) (hw : m < wtN k ∨ (lyB k = true ∧ m = 16)) : rfs m k sz = -3 := by
  have h := rf_tab k h2 h1 m (by omega)
  unfold rfs
  rw [if_pos]
  refine of_decide_eq_true (h.trans ?_)
  rcases hw with z | ⟨z, y⟩
  · rw [decide_eq_true z, Bool.true_or]
  · rw [z, decide_eq_true y, Bool.and_self, Bool.or_true]
theorem rf_n4 {m sz : Nat} (hm : m ≤ 16) (h1 : 1 ≤ m) (hs : 64 ≤ sz) : rfs m 33 sz = -4 := by
  have h := rf_tab 33 (by decide) (by decide) m (by omega)
  unfold rfs
  rw [if_neg, if_pos ⟨rfl, hs⟩]
  intro z
  rw [decide_eq_true z, decide_eq_false (show ¬ m < wtN 33 by show ¬ m < 1; omega)] at h
  cases h
section

variable {v : EdV} {c ln n lf p : Nat} {f : Nat → Int32} {s : JST}
theorem jr_1 (hb : v.nO c ≤ 80) (hq : p ≤ v.nO c) (hp : ¬ p < v.nO c) : jrF v c ln f (n + 1) lf (nI p) s = (1, s) := by
  rw [jrF, if_pos (Or.inr (nI_le (by omega) (by omega)))]
theorem jr_g (hb : v.nO c ≤ 80) (hp : p < v.nO c) : ¬ (nI p < 0 ∨ nI (v.nO c) ≤ nI p) := by
  rintro (z | z)
  · exact nI_pos (by omega) z
  · exact nI_ge hp (by omega) z
theorem jr_5 (hb : v.nO c ≤ 80) (hp : p < v.nO c) (hk : (v.O c p).1 = 5) : jrF v c ln f (n + 1) lf (nI p) s = jrF v c ln f n lf (v.O c p).2.2.2.2.2.2 s := by
  rw [jrF, if_neg (jr_g hb hp), nI_clamp (by omega), if_pos hk]
theorem jr_0 (hb : v.nO c ≤ 80) (hp : p < v.nO c) (hk : ¬ (v.O c p).1 = 5) (h0 : lf = 0) : jrF v c ln f (n + 1) lf (nI p) s = (0, s) := by
  rw [jrF, if_neg (jr_g hb hp), nI_clamp (by omega), if_neg hk, if_pos h0]
theorem jr_r (hb : v.nO c ≤ 80) (hp : p < v.nO c) (hk : ¬ (v.O c p).1 = 5) {x : Int32} (hr : rfs s.1.1 (v.O c p).1 s.2.2.1 = x) (hx : ¬ x = 0) : jrF v c ln f (n + 1) (lf + 1) (nI p) s = (x, s) := by
  rw [jrF, if_neg (jr_g hb hp), nI_clamp (by omega), if_neg hk, if_neg (by omega), hr, if_pos hx]
theorem jr_34 (hb : v.nO c ≤ 80) (hp : p < v.nO c) (hk : (v.O c p).1 = 34) (hr : rfs s.1.1 (v.O c p).1 s.2.2.1 = 0) : jrF v c ln f (n + 1) (lf + 1) (nI p) s = jrF v c ln f n lf (if lft s.1 = 0 then (v.O c p).2.2.2.2.2.2 else nI (p + 1)) (ldn s.1, s.2) := by
  rw [jrF, if_neg (jr_g hb hp), nI_clamp (by omega), if_neg (by omega), if_neg (by omega), hr, if_neg (fun z => z rfl), if_pos hk, nI_succ, Nat.add_sub_cancel]
theorem jr_st (hb : v.nO c ≤ 80) (hp : p < v.nO c) (hk : ¬ (v.O c p).1 = 5) (h34 : ¬ (v.O c p).1 = 34) (hr : rfs s.1.1 (v.O c p).1 s.2.2.1 = 0) : jrF v c ln f (n + 1) (lf + 1) (nI p) s = jrF v c ln f n lf (nI (p + 1)) (stF9 v ln f (v.O c p) s) := by
  rw [jrF, if_neg (jr_g hb hp), nI_clamp (by omega), if_neg hk, if_neg (by omega), hr, if_neg (fun z => z rfl), if_neg h34, nI_succ, Nat.add_sub_cancel]
end

section

variable {v : EdV} {ln : Nat} {f : Nat → Int32} {d : OpD} {s : JST}
theorem st_25 (h : d.1 = 25) : stF9 v ln f d s = (lyy d.2.1 s.1, s.2) := by rw [stF9, if_pos h]
theorem st_26 (h : d.1 = 26) : stF9 v ln f d s = (lyy (gtV v ln f s.2.1 d) s.1, gtP v ln f s.2.1 d, s.2.2) := by rw [stF9, if_neg (by omega), if_pos h]
theorem st_32 (h : d.1 = 32) : stF9 v ln f d s = (ldn s.1, s.2) := by rw [stF9, if_neg (by omega), if_neg (by omega), if_pos h]
theorem st_33 (h : d.1 = 33) : stF9 v ln f d s = (ldn s.1, s.2.1, s.2.2.1 + 1, upd s.2.2.2 s.2.2.1 (vp_nar .byte ((lft s.1).toInt32.toInt8.toInt32))) := by rw [stF9, if_neg (by omega), if_neg (by omega), if_neg (by omega), if_pos h]
theorem st_30 (h : d.1 = 30) : stF9 v ln f d s = (lyy (lft s.1) (lyy (lft s.1) (ldn s.1)), s.2) := by rw [stF9, if_neg (by omega), if_neg (by omega), if_neg (by omega), if_neg (by omega), if_pos h]
theorem st_j (h : d.1 = 27 ∨ d.1 = 28 ∨ d.1 = 29 ∨ d.1 = 31) : stF9 v ln f d s = (jnF d.1 s.1, s.2) := by rw [stF9, if_neg (by omega), if_neg (by omega), if_neg (by omega), if_neg (by omega), if_neg (by omega)]
theorem st_27 (h : d.1 = 27) : stF9 v ln f d s = (lyy (lft (ldn s.1) + lft s.1) (ldn (ldn s.1)), s.2) := by rw [st_j (Or.inl h), jnF, if_pos h]
theorem st_28 (h : d.1 = 28) : stF9 v ln f d s = (lyy (lft (ldn s.1) - lft s.1) (ldn (ldn s.1)), s.2) := by rw [st_j (Or.inr (Or.inl h)), jnF, if_neg (by omega), if_pos h]
theorem st_29 (h : d.1 = 29) : stF9 v ln f d s = (lyy (lft (ldn s.1) * lft s.1) (ldn (ldn s.1)), s.2) := by rw [st_j (Or.inr (Or.inr (Or.inl h))), jnF, if_neg (by omega), if_neg (by omega), if_pos h]
theorem st_31 (h : d.1 = 31) : stF9 v ln f d s = (lyy (lft (ldn s.1)) (lyy (lft s.1) (ldn (ldn s.1))), s.2) := by rw [st_j (Or.inr (Or.inr (Or.inr h))), jnF, if_neg (by omega), if_neg (by omega), if_neg (by omega)]
end
/-- the pile and what was sent, on both sides -/
def JP (a : Nat × (Nat → Int64)) (m : Nat) (L : Nat → Int64) : Prop := a.1 = m ∧ m ≤ 16 ∧ ∀ i, i < m → a.2 i = L i
section

variable {a : Nat × (Nat → Int64)} {m : Nat} {L L2 : Nat → Int64}
theorem JP.lf (h : JP a m L) (h1 : 1 ≤ m) : lft a = L (m - 1) := by
  unfold lft
  rw [h.1, if_neg (by omega)]
  exact h.2.2 _ (by omega)
theorem JP.dn (h : JP a m L) : JP (ldn a) (m - 1) L := by
  refine ⟨?_, by have := h.2.1; omega, fun i hi => h.2.2 i (by omega)⟩
  show a.1 - 1 = m - 1
  rw [h.1]
theorem JP.l2 (h : JP a m L) (h2 : 2 ≤ m) : lft (ldn a) = L (m - 2) := (h.dn.lf (by omega)).trans (by rw [show m - 1 - 1 = m - 2 by omega])
theorem JP.cg (h : JP a m L) (e : ∀ i, i < m → L2 i = L i) : JP a m L2 := ⟨h.1, h.2.1, fun i hi => (h.2.2 i hi).trans (e i hi).symm⟩
theorem JP.ly (h : JP a m L) (hm : m < 16) {x : Int64} : JP (lyy x a) (m + 1) (vp_updL L m x) := by
  unfold lyy
  rw [h.1, if_pos hm, if_pos hm]
  refine ⟨rfl, by omega, fun i hi => ?_⟩
  show vp_updL a.2 m x i = vp_updL L m x i
  by_cases e : i = m
  · rw [e, pk_uLs, pk_uLs]
  · rw [pk_uLn e, pk_uLn e]
    exact h.2.2 i (by omega)
theorem JP.dup (h : JP a m L) (h1 : 1 ≤ m) (h2 : m < 16) : JP (lyy (lft a) (lyy (lft a) (ldn a))) (m + 1) (vp_updL L m (L (m - 1))) := by
  have y := (h.dn.ly (x := lft a) (by omega)).ly (x := lft a) (by omega)
  rw [h.lf h1, show m - 1 + 1 = m by omega] at y
  rw [h.lf h1]
  refine y.cg (fun i hi => ?_)
  by_cases e : i = m
  · rw [e, pk_uLs, pk_uLs]
  · rw [pk_uLn e, pk_uLn e]
    by_cases u : i = m - 1
    · rw [u, pk_uLs]
    · rw [pk_uLn u]
theorem JP.op2 (h : JP a m L) (h2 : 2 ≤ m) {x : Int64} : JP (lyy x (ldn (ldn a))) (m - 1) (vp_updL L (m - 2) x) := by
  have y := h.dn.dn.ly (x := x) (by have := h.2.1; omega)
  rw [show m - 1 - 1 = m - 2 by omega, show m - 2 + 1 = m - 1 by omega] at y
  exact y
theorem JP.swap (h : JP a m L) (h2 : 2 ≤ m) : JP (lyy (lft (ldn a)) (lyy (lft a) (ldn (ldn a)))) m (vp_updL (vp_updL L (m - 1) (L (m - 2))) (m - 2) (L (m - 1))) := by
  have hm := h.2.1
  have y := (h.dn.dn.ly (x := lft a) (by omega)).ly (x := lft (ldn a)) (by omega)
  rw [show m - 1 - 1 = m - 2 by omega, show m - 2 + 1 = m - 1 by omega, show m - 1 + 1 = m by omega, h.lf (by omega), h.l2 h2] at y
  rw [h.lf (by omega), h.l2 h2]
  refine y.cg (fun i hi => ?_)
  by_cases e : i = m - 2
  · rw [e, pk_uLs, pk_uLn (by omega), pk_uLs]
  · rw [pk_uLn e]
    by_cases u : i = m - 1
    · rw [u, pk_uLs, pk_uLs]
    · rw [pk_uLn u, pk_uLn u, pk_uLn e]
end
/-- a turn at a CLOSE takes no step -/
def agN (v : EdV) (c p : Nat) : Nat := if p < v.nO c ∧ (v.O c p).1 = 5 then 1 else 0
theorem agN_le {v : EdV} {c p : Nat} : agN v c p ≤ 1 := by unfold agN; split <;> decide
theorem VLD.ge {v : EdV} (h : VLD v) {j i : Nat} (h80 : v.nO j ≤ 80) (hj : j < v.nJ) (hi : i < v.nO j) (hk : (v.O j i).1 = 26) : ∃ s p, svN v (v.O j i).2.2.1 = some s ∧ paN v s (v.O j i).2.2.2.2.1 = some p := by
  have h1 := h 13 (100 * j + i) 0 _ ⟨j, hj, i, hi, rfl, rfl, hk, rfl⟩
  have h2 := h 14 (100 * j + i) 0 _ ⟨j, hj, i, hi, rfl, rfl, hk, rfl⟩
  rw [w_13 (by omega)] at h1
  rw [w_14 (by omega)] at h2
  unfold opP opS at h2
  rw [if_pos hk] at h2
  cases hs : svN v (v.O j i).2.2.1 with
  | none => rw [hs] at h1; cases h1
  | some s =>
    rw [hs] at h2
    dsimp only at h2
    cases hp : paN v s (v.O j i).2.2.2.2.1 with
    | none => rw [hp] at h2; cases h2
    | some p => exact ⟨s, p, rfl, hp⟩
theorem kd11 {k : Nat} (h : (25 ≤ k ∧ k < 35) ∨ k = 5) : k = 25 ∨ k = 26 ∨ k = 27 ∨ k = 28 ∨ k = 29 ∨ k = 30 ∨ k = 31 ∨ k = 32 ∨ k = 33 ∨ k = 34 ∨ k = 5 := by omega
theorem i64_dec {n : Nat} (h : n < 2 ^ 40) : Int64.ofNat (n + 1) - 1 = Int64.ofNat n := by
  apply Int64.toInt_inj.mp
  have e1 := i64_on (n := n + 1) (by omega)
  have e2 := i64_on (n := n) (by omega)
  have e3 : (1 : Int64).toInt = 1 := by decide
  rw [i64_sub (by rw [e1, e3]; omega) (by rw [e1, e3]; omega), e1, e2, e3]
  omega
/-- a job's answer -/
def jbA (v : EdV) (ln : Nat) (f : Nat → Int32) (P : Nat → PdT) (pf : Nat → Int64) (sf : Nat → Int32) (iv : Int32) (xs : Int64) : Int32 := match oIx iv v.nJ with
  | none => -1
  | some k => if ¬ xs < 0 ∧ xs ≤ 5000 then (jrF v k ln f jbT xs.toInt.toNat 0 ((0, pf), P, 0, sf)).1 else -2
theorem oIx_n1 {i : Int32} {n : Nat} (h : i < 1) : oIx i n = none := by
  unfold oIx
  rw [if_neg]
  have y := Int32.lt_iff_toInt_lt.mp h
  rw [show (1 : Int32).toInt = 1 by decide] at y
  omega
theorem oIx_n2 {i : Int32} {n : Nat} (hn : n < 1000) (h : ¬ i ≤ nI n) : oIx i n = none := by
  unfold oIx
  rw [if_neg]
  have y := Int32.lt_iff_toInt_lt.mp (Int32.not_le.mp h)
  rw [nI_toInt (by omega)] at y
  omega
set_option maxHeartbeats 4000000 in
set_option maxRecDepth 100000 in
theorem c_M_job (l : Launch) (D : va_G) (cy : Nat → ClassId) (A : Nat → Prop) (X : State → Prop) (hst : mk_St A X) (hXT : ∀ U : State, X U → TB U) (G : Nat → Option va_E) (o : Nat) (Ar : Nat → Nat) (Iv : Nat → Int32) (F : Nat → Nat → Int32) (L : Nat → Nat → Int64) (ft : Nat → Int32) (en b9 n9 : Nat) (v9 : EdV) (nm : Int64 → Int32) (ln sl9 : Nat) (f9 : Nat → Int32) (P0 : Nat → PdT) (pf0 : Nat → Int64) (sf0 : Nat → Int32) (iv : Int32) (xs : Int64) (hM : MD cy G o Ar Iv F L) (hB : BK (tkK ft en) (tkV ft en) n9 F b9 v9) (hLS : LSv v9) (hVL : VLD v9) (hn30 : n9 < 2 ^ 30) (hb9 : b9 < 2) (hbk : Iv 42 = nI b9) (h43 : ¬ Iv 43 = 0) (hnm : ∀ r x, NMt (tkK ft en) (tkV ft en) n9 r x → r = nm x) (hWd : WDv v9) (hCB : CBv v9) (hJT : JTv v9) (h66 : Iv 66 = nI ln) (hln : ln ≤ 64) (h68 : Iv 68 = nI sl9) (hsl : sl9 ≤ 64) (hoc : ∀ i, i < ln → F 65 i = oc_at (nI ln) f9 (nI i) ∧ 0 ≤ (F 65 i).toInt ∧ (F 65 i).toInt < 256) : Met l yX14_job [.code yX14_job cX14_job 17 (some .int)] ({ frames := 4, cells := 0, slots := 0, locals := 180 }) (mk_Pre D vwCl (tyL cy) A X G [.ref o, .int iv, .long xs]) (va_Qi (fun (r : Int32) (G2 : Nat → Option va_E) => ∃ (I2 : Nat → Int32) (F2 : Nat → Nat → Int32) (L2 : Nat → Nat → Int64), MD cy G2 o Ar I2 F2 L2 ∧ MF G G2 o Ar ∧ (∀ j, ¬ j = 38 → ¬ j = 68 → I2 j = Iv j) ∧ I2 38 = 0 ∧ (∃ k, k ≤ 64 ∧ I2 68 = nI k) ∧ (∀ j, ¬ (j = 67 ∨ (71 ≤ j ∧ j ≤ 73)) → F2 j = F j) ∧ (∀ j, ¬ (j = 74 ∨ j = 75) → L2 j = L j) ∧ r = jbA v9 ln f9 P0 pf0 sf0 iv xs ∧ (∀ k9, oIx iv v9.nJ = some k9 → (¬ xs < 0 ∧ xs ≤ 5000) → ∃ sz, I2 68 = nI sz ∧ JS (jrF v9 k9 ln f9 jbT xs.toInt.toNat 0 ((0, pf0), P0, 0, sf0)).2.2.2 sz (F2 67)) ∧ ((oIx iv v9.nJ = none ∨ ¬ (¬ xs < 0 ∧ xs ≤ 5000)) → I2 68 = Iv 68 ∧ F2 67 = F 67)) (mk_B D vwCl A) A) 0 0 A := by
  refine Met.ofW (cc := cX14_job) (maxL := 17) (ret := (some .int)) (by decide) rfl ?_
  intro p e s m args below meth c s₁ B hml hv
  obtain ⟨rfl, hG, hK, hA, hX⟩ := hv
  have hx := B.exec
  have hb := B.bytes
  have hr := B.returns
  have hlocks := B.notSynchronized
  have hT := hXT s hX
  have hown : s.vm.findClass RX14 = some m.cls := findClass_of_methodNamed B.named
  have hf_X14 : ∀ w ∈ u_ws RX14 TX14 76, w.before ([.ref o, .int iv, .long xs] : List Value).toArray s = true := tb_list hT fX14
  have hS : va_S A s.heap s.heap [] := va_S.rf
  have hl := lv_entry ([.ref o, .int iv, .long xs]) (n := 17) (Nat.le_of_ble_eq_true rfl)
  rw [lg_entry_eq]
  generalize (lg_sl ([.ref o, .int iv, .long xs]) ++ List.replicate (17 - (lg_sl ([.ref o, .int iv, .long xs])).length) Slot.unset).toArray = ls at hl ⊢
  have hl : lv_has ls 17 [(0, .ref o), (1, .int iv), (2, .long xs)] := hl
  have hF : MF G G o Ar := MF.rf
  have hnJ4 := hB.2.2.2.2.2.2.1
  refine lv_aload_n hx hb dX14_job_0 rfl (lv_at hl 0 rfl) ?_
  refine lv_iconst (v := 0) hx hb dX14_job_1 (by decide) ?_
  refine mm_put (v := .int 0) (ty := .int) hx hb hf_X14 (fun _ h9 => h9) tyX14 tyX14_ok nmX14 hown hK hG hS hM.1 rfl 38 (by decide) (tb_use hT tw_1429) (fun _ h9 => h9) rfl (by decide +kernel) rfl rfl (mfs_l38 _ _) dX14_job_2 (fun H locs hG hS => ?_)
  have hM := MD.puti (k := 38) (v := 0) hM (mfs_s38 _ _ _)
  have hF := hF.wo (e' := .inr (15, (mfs Ar Iv).set 38 (.int 0)))
  obtain ⟨I1, eI1⟩ : ∃ g, g = upd Iv 38 0 := ⟨_, rfl⟩
  rw [← eI1] at hM
  have hgn := gn_MD hG hM hF
  clear hG hM hF
  obtain ⟨G2, hG, hM, hF⟩ := hgn
  refine lv_aload_n hx hb dX14_job_5 rfl (lv_at hl 0 rfl) ?_
  refine mm_get (v := .int (Iv 43)) hx hb hf_X14 (fun _ h9 => h9) hown hK hG hM.1 rfl 43 (by decide) (tb_use hT tw_1434) (fun _ h9 => h9) (by rw [mfs_g43, eI1] <;> rfl) dX14_job_6 ?_
  refine lv_if_eq (tgt := 30) hx hb dX14_job_9 (by decide) (fun c_9 => ?_) (fun c_9 => ?_)
  · skip
    exact absurd c_9 h43
  · skip
    refine lv_iload_n hx hb dX14_job_12 rfl (lv_at hl 1 rfl) ?_
    refine lv_iconst (v := 1) hx hb dX14_job_13 (by decide) ?_
    refine lv_icmp_lt (tgt := 30) hx hb dX14_job_14 (by decide) (fun c_14 => ?_) (fun c_14 => ?_)
    · skip
      refine lv_iconst (v := (-1)) hx hb dX14_job_30 (by decide) ?_
      have hoN : oIx iv v9.nJ = none := oIx_n1 c_14
      exact W.iret (v := (-1)) hx hb hr (fun t ht hW => ⟨⟨_, _, rfl, ⟨I1, F, L, hM, hF, (fun j h1 h2 => by rw [eI1, pk_un h1]), (by rw [eI1, pk_us]), ⟨sl9, hsl, (by rw [eI1, pk_un (by decide)]; exact h68)⟩, (fun _ _ => rfl), (fun _ _ => rfl), (by unfold jbA; rw [hoN]), (fun k hk _ => by rw [hoN] at hk; cases hk), (fun _ => ⟨by rw [eI1, pk_un (by decide)], rfl⟩)⟩, mk_end hG ht⟩, hS.F ht⟩) hS.2.2 dX14_job_31
    · skip
      refine lv_iload_n hx hb dX14_job_17 rfl (lv_at hl 1 rfl) ?_
      refine lv_aload_n hx hb dX14_job_18 rfl (lv_at hl 0 rfl) ?_
      refine mm_get (v := .ref (Ar 6)) hx hb hf_X14 (fun _ h9 => h9) hown hK hG hM.1 rfl 6 (by decide) (tb_use hT tw_1397) (fun _ h9 => h9) (mfs_g6 _ _) dX14_job_19 ?_
      refine lv_aload_n hx hb dX14_job_22 rfl (lv_at hl 0 rfl) ?_
      refine mm_get (v := .int (Iv 42)) hx hb hf_X14 (fun _ h9 => h9) hown hK hG hM.1 rfl 42 (by decide) (tb_use hT tw_1433) (fun _ h9 => h9) (by rw [mfs_g42, eI1] <;> rfl) dX14_job_23 ?_
      refine mm_iald (n := 2) (f := F 6) hx hb hK hG 1 (hM.2.1 6 rfl) rfl (by rw [hbk]; exact nI_in (N := 2) hb9 (by decide)) dX14_job_26 ?_
      refine lv_topi (fun x3 ex3 => ?_)
      refine lv_icmp_le (tgt := 32) hx hb dX14_job_27 (by decide) (fun c_27 => ?_) (fun c_27 => ?_)
      · skip
        refine lv_lload_n hx hb dX14_job_32 rfl (lv_at hl 2 rfl) ?_
        refine lv_lconst (v := 0) hx hb dX14_job_33 (by decide) ?_
        refine W.lcmp hx hb dX14_job_34 ?_
        refine lv_if_lt (tgt := 46) hx hb dX14_job_35 (by decide) (fun c_35 => ?_) (fun c_35 => ?_)
        · skip
          refine lv_bipush (v := (-2)) hx hb dX14_job_46 (by decide) ?_
          have hbad : ¬ (¬ xs < 0 ∧ xs ≤ 5000) := fun z => z.1 ((lg_cmp_lt _ _).mp c_35)
          obtain ⟨j9, hj9, hjv, hoI⟩ := ix_of (i := iv) (n := v9.nJ) (by omega) c_14 (by have z := c_27; rw [ex3, hbk, nI_clamp (by omega), hB.2.2.2.2.2.1] at z; exact z)
          exact W.iret (v := (-2)) hx hb hr (fun t ht hW => ⟨⟨_, _, rfl, ⟨I1, F, L, hM, hF, (fun j h1 h2 => by rw [eI1, pk_un h1]), (by rw [eI1, pk_us]), ⟨sl9, hsl, (by rw [eI1, pk_un (by decide)]; exact h68)⟩, (fun _ _ => rfl), (fun _ _ => rfl), (by unfold jbA; rw [hoI]; dsimp only; rw [if_neg hbad]), (fun _ _ z => absurd z hbad), (fun _ => ⟨by rw [eI1, pk_un (by decide)], rfl⟩)⟩, mk_end hG ht⟩, hS.F ht⟩) hS.2.2 dX14_job_48
        · skip
          refine lv_lload_n hx hb dX14_job_38 rfl (lv_at hl 2 rfl) ?_
          refine lv_ldc2 hx hb hown (tb_use hT tw_1870) dX14_job_39 ?_
          refine W.lcmp hx hb dX14_job_42 ?_
          refine lv_if_le (tgt := 49) hx hb dX14_job_43 (by decide) (fun c_43 => ?_) (fun c_43 => ?_)
          · skip
            obtain ⟨j9, hj9, hjv, hoI⟩ := ix_of (i := iv) (n := v9.nJ) (by omega) c_14 (by have z := c_27; rw [ex3, hbk, nI_clamp (by omega), hB.2.2.2.2.2.1] at z; exact z)
            obtain ⟨hnO, hJO⟩ := hJT j9 hj9
            have hjr9 := hB.2.2.2.2.2.2.2 j9 hj9
            refine lv_iload_n hx hb dX14_job_49 rfl (lv_at hl 1 rfl) ?_
            refine lv_iconst (v := 1) hx hb dX14_job_50 (by decide) ?_
            refine lv_isub hx hb dX14_job_51 ?_
            rw [show iv - 1 = nI j9 by rw [hjv]; exact nI_pred j9]
            refine lv_istore (lv' := [(4, .int (nI j9)), (0, .ref o), (1, .int iv), (2, .long xs)]) hx hb dX14_job_52 hl (by decide) rfl (fun ls hl => ?_)
            refine lv_aload_n hx hb dX14_job_54 rfl (lv_at hl 1 rfl) ?_
            refine lv_iconst (v := 0) hx hb dX14_job_55 (by decide) ?_
            refine mm_put (v := .int 0) (ty := .int) hx hb hf_X14 (fun _ h9 => h9) tyX14 tyX14_ok nmX14 hown hK hG hS hM.1 rfl 68 (by decide) (tb_use hT tw_1459) (fun _ h9 => h9) rfl (by decide +kernel) rfl rfl (mfs_l68 _ _) dX14_job_56 (fun H locs hG hS => ?_)
            have hM := MD.puti (k := 68) (v := 0) hM (mfs_s68 _ _ _)
            have hF := hF.wo (e' := .inr (15, (mfs Ar I1).set 68 (.int 0)))
            obtain ⟨I6, eI6⟩ : ∃ g, g = upd I1 68 0 := ⟨_, rfl⟩
            rw [← eI6] at hM
            have hgn := gn_MD hG hM hF
            clear hG hM hF
            obtain ⟨G7, hG, hM, hF⟩ := hgn
            have hx0 : ∃ n : Nat, n ≤ 5000 ∧ xs = Int64.ofNat n := ⟨xs.toInt.toNat, (by have y := Int64.le_iff_toInt_le.mp ((lg_cmp_le _ _).mp c_43); rw [show (5000 : Int64).toInt = 5000 by decide] at y; omega), Int64.toInt_inj.mp (by have y := Int64.not_lt.mp (fun z => c_35 ((lg_cmp_lt _ _).mpr z)); have u := Int64.le_iff_toInt_le.mp y; rw [show (0 : Int64).toInt = 0 by decide] at u; have w := Int64.le_iff_toInt_le.mp ((lg_cmp_le _ _).mp c_43); rw [show (5000 : Int64).toInt = 5000 by decide] at w; rw [i64_on (by omega)]; omega)⟩
            obtain ⟨lf0, hlf0, hxs⟩ := hx0
            obtain ⟨RJ, eRJ⟩ : ∃ y, jrF v9 j9 ln f9 jbT lf0 (nI 0) ((0, pf0), P0, 0, sf0) = y := ⟨_, rfl⟩
            have hxr : ¬ xs < 0 ∧ xs ≤ 5000 := ⟨fun z => c_35 ((lg_cmp_lt _ _).mpr z), (lg_cmp_le _ _).mp c_43⟩
            have hE9 : jrF v9 j9 ln f9 jbT xs.toInt.toNat 0 ((0, pf0), P0, 0, sf0) = RJ := by rw [hxs, i64_on (by omega), show ((lf0 : Nat) : Int).toNat = lf0 from rfl, show (0 : Int32) = nI 0 from rfl]; exact eRJ
            have hA9 : jbA v9 ln f9 P0 pf0 sf0 iv xs = RJ.1 := by unfold jbA; rw [hoI]; dsimp only; rw [if_pos hxr, hE9]
            have hlj : ∀ (n : Nat) (p9 m9 lf9 sz : Nat) (Ij : Nat → Int32) (Fj : Nat → Nat → Int32) (Lj : Nat → Nat → Int64) (js : JST), (2 * lf9 + agN v9 j9 p9 < n) → (jrF v9 j9 ln f9 n lf9 (nI p9) js = RJ) → (JP js.1 m9 (Lj 75)) → (JS js.2.2 sz (Fj 67)) → (m9 ≤ 16) → (p9 ≤ v9.nO j9 ∧ lf9 ≤ 5000) → (∀ j, ¬ j = 38 → ¬ j = 68 → Ij j = Iv j) → (Ij 38 = 0) → (Ij 42 = nI b9) → (Ij 66 = nI ln) → (Ij 68 = nI sz) → (sz ≤ 64) → (∀ j, ¬ (j = 67 ∨ (71 ≤ j ∧ j ≤ 73)) → Fj j = F j) → (∀ j, ¬ (j = 74 ∨ j = 75) → Lj j = L j) → ∀ (Gv : Nat → Option va_E), (MD cy Gv o Ar Ij Fj Lj) → (MF G Gv o Ar) → ∀ (H : Heap) (locs : List Loc), mm D vwCl A Gv H → va_S A s.heap H locs → ∀ ls : Array Slot, lv_has ls 17 [(0, .ref o), (4, .int (nI j9)), (5, .int (nI m9)), (6, .long (Int64.ofNat lf9)), (8, .int (nI p9))] → W p l e (headSpec [.code yX14_job cX14_job 17 (some .int)] ({ frames := 4, cells := 0, slots := 0, locals := 180 })).room s m ([.ref o, .int iv, .long xs] : List Value).toArray below meth c H locs 0 0 (MQ below (va_Qi (fun (r : Int32) (G2 : Nat → Option va_E) => ∃ (I2 : Nat → Int32) (F2 : Nat → Nat → Int32) (L2 : Nat → Nat → Int64), MD cy G2 o Ar I2 F2 L2 ∧ MF G G2 o Ar ∧ (∀ j, ¬ j = 38 → ¬ j = 68 → I2 j = Iv j) ∧ I2 38 = 0 ∧ (∃ k, k ≤ 64 ∧ I2 68 = nI k) ∧ (∀ j, ¬ (j = 67 ∨ (71 ≤ j ∧ j ≤ 73)) → F2 j = F j) ∧ (∀ j, ¬ (j = 74 ∨ j = 75) → L2 j = L j) ∧ r = jbA v9 ln f9 P0 pf0 sf0 iv xs ∧ (∀ k9, oIx iv v9.nJ = some k9 → (¬ xs < 0 ∧ xs ≤ 5000) → ∃ sz, I2 68 = nI sz ∧ JS (jrF v9 k9 ln f9 jbT xs.toInt.toNat 0 ((0, pf0), P0, 0, sf0)).2.2.2 sz (F2 67)) ∧ ((oIx iv v9.nJ = none ∨ ¬ (¬ xs < 0 ∧ xs ≤ 5000)) → I2 68 = Iv 68 ∧ F2 67 = F 67)) (mk_B D vwCl A) A) ([.ref o, .int iv, .long xs] : List Value).toArray s 0 0 A) (F0 m 68 ls []) := by
              intro n
              induction n with
              | zero =>
                intro p9 m9 lf9 sz Ij Fj Lj js hmu hjr hjp hjo hm16b hpl hIo h38j hbj h66j h68j hsz64 hFo hLo Gv hM hF H locs hG hS ls hl
                exact absurd hmu (Nat.not_lt_zero _)
              | succ n ih =>
                intro p9 m9 lf9 sz Ij Fj Lj js hmu hjr hjp hjo hm16b hpl hIo h38j hbj h66j h68j hsz64 hFo hLo Gv hM hF H locs hG hS ls hl
                refine lv_iload hx hb dX14_job_68 (lv_at hl 4 rfl) ?_
                refine lv_aload_n hx hb dX14_job_70 rfl (lv_at hl 0 rfl) ?_
                refine mm_get (v := .ref (Ar 34)) hx hb hf_X14 (fun _ h9 => h9) hown hK hG hM.1 rfl 34 (by decide) (tb_use hT tw_1425) (fun _ h9 => h9) (mfs_g34 _ _) dX14_job_71 ?_
                refine lv_iconst (v := 4) hx hb dX14_job_74 (by decide) ?_
                refine lv_aload_n hx hb dX14_job_75 rfl (lv_at hl 0 rfl) ?_
                refine mm_get (v := .int (Ij 42)) hx hb hf_X14 (fun _ h9 => h9) hown hK hG hM.1 rfl 42 (by decide) (tb_use hT tw_1433) (fun _ h9 => h9) (mfs_g42 _ _) dX14_job_76 ?_
                rw [show (Ij 42) = nI b9 from hbj]
                refine lv_imul hx hb dX14_job_79 ?_
                refine lv_iload hx hb dX14_job_80 (lv_at hl 1 rfl) ?_
                refine lv_iadd hx hb dX14_job_82 ?_
                refine mm_iald (n := 8) (f := Fj 34) hx hb hK hG 1 (hM.2.1 34 rfl) rfl (by rw [show (4 : Int32) * nI b9 + nI j9 = nI (4 * b9 + j9) from nI_ma 4 b9 j9]; exact nI_in (N := 8) (by omega) (by decide)) dX14_job_83 ?_
                refine lv_topi (fun x8 ex8 => ?_)
                refine lv_icmp_ge (tgt := 585) hx hb dX14_job_84 (by decide) (fun c_84 => ?_) (fun c_84 => ?_)
                · skip
                  refine lv_iconst (v := 1) hx hb dX14_job_585 (by decide) ?_
                  have hnp : ¬ p9 < v9.nO j9 := Nat.not_lt.mpr (nI_ge_of (by omega) (by omega) (by have z := c_84; rw [ex8, show (4 : Int32) * nI b9 + nI j9 = nI (4 * b9 + j9) from nI_ma 4 b9 j9, nI_clamp (by omega), hFo 34 (by decide), hjr9.2.1] at z; exact z))
                  have hRJ : RJ = (1, js) := by rw [← hjr]; exact jr_1 hnO hpl.1 hnp
                  exact W.iret (v := 1) hx hb hr (fun t ht hW => ⟨⟨_, _, rfl, ⟨Ij, Fj, Lj, hM, hF, hIo, h38j, ⟨sz, hsz64, h68j⟩, hFo, hLo, (by rw [hA9, hRJ]), (fun k hk _ => by rw [hoI] at hk; rw [← Option.some.inj hk, hE9, hRJ]; exact ⟨sz, h68j, hjo⟩), (fun z => z.elim (fun z => by rw [hoI] at z; cases z) (fun z => absurd hxr z))⟩, mk_end hG ht⟩, hS.F ht⟩) hS.2.2 dX14_job_586
                · skip
                  have hp9 : p9 < v9.nO j9 := nI_lt_of (by omega) (by omega) (by have z := c_84; rw [ex8, show (4 : Int32) * nI b9 + nI j9 = nI (4 * b9 + j9) from nI_ma 4 b9 j9, nI_clamp (by omega), hFo 34 (by decide), hjr9.2.1] at z; exact z)
                  have hop := hjr9.2.2.2 p9 hp9
                  obtain ⟨hk0, hk5, hk34⟩ := hJO p9 hp9
                  have hBj : BK (tkK ft en) (tkV ft en) n9 Fj b9 v9 := ⟨hB.1.mv (Nat.le_refl _) (fun k i hk => by rw [hFo k (by omega)]) rfl rfl rfl rfl, hB.2.1.mv (Nat.le_refl _) (fun k i hk => by rw [hFo k (by omega)]) rfl rfl, hB.2.2.1.mv (Nat.le_refl _) (fun k i hk => by rw [hFo k (by omega)]) rfl rfl rfl rfl, hB.2.2.2.1.mv (Nat.le_refl _) (fun k i hk => by rw [hFo k (by omega)]) rfl rfl, hB.2.2.2.2.1.mv (Nat.le_refl _) (fun k i hk => by rw [hFo k (by omega)]) rfl rfl, hB.2.2.2.2.2.mv (Nat.le_refl _) (fun k i hk => by rw [hFo k (by omega)]) rfl rfl rfl rfl⟩
                  have hop := (hBj.2.2.2.2.2.2.2 j9 hj9).2.2.2 p9 hp9
                  refine lv_bipush (v := 100) hx hb dX14_job_87 (by decide) ?_
                  refine lv_iload hx hb dX14_job_89 (lv_at hl 1 rfl) ?_
                  refine lv_imul hx hb dX14_job_91 ?_
                  refine lv_iload hx hb dX14_job_92 (lv_at hl 4 rfl) ?_
                  refine lv_iadd hx hb dX14_job_94 ?_
                  rw [show ((100 * (nI j9)) + (nI p9)) = nI (100 * j9 + p9) from nI_ma 100 j9 p9]
                  refine lv_istore (lv' := [(9, .int (nI (100 * j9 + p9))), (0, .ref o), (4, .int (nI j9)), (5, .int (nI m9)), (6, .long (Int64.ofNat lf9)), (8, .int (nI p9))]) hx hb dX14_job_95 hl (by decide) rfl (fun ls hl => ?_)
                  refine lv_aload_n hx hb dX14_job_97 rfl (lv_at hl 1 rfl) ?_
                  refine mm_get (v := .ref (Ar 35)) hx hb hf_X14 (fun _ h9 => h9) hown hK hG hM.1 rfl 35 (by decide) (tb_use hT tw_1426) (fun _ h9 => h9) (mfs_g35 _ _) dX14_job_98 ?_
                  refine lv_sipush (v := 400) hx hb dX14_job_101 (by decide) ?_
                  refine lv_aload_n hx hb dX14_job_104 rfl (lv_at hl 1 rfl) ?_
                  refine mm_get (v := .int (Ij 42)) hx hb hf_X14 (fun _ h9 => h9) hown hK hG hM.1 rfl 42 (by decide) (tb_use hT tw_1433) (fun _ h9 => h9) (mfs_g42 _ _) dX14_job_105 ?_
                  rw [show (Ij 42) = nI b9 from hbj]
                  refine lv_imul hx hb dX14_job_108 ?_
                  refine lv_iload hx hb dX14_job_109 (lv_at hl 0 rfl) ?_
                  refine lv_iadd hx hb dX14_job_111 ?_
                  refine mm_iald (n := 800) (f := Fj 35) hx hb hK hG 1 (hM.2.1 35 rfl) rfl (by rw [show (400 : Int32) * nI b9 + nI (100 * j9 + p9) = nI (400 * b9 + (100 * j9 + p9)) from nI_ma 400 b9 (100 * j9 + p9)]; exact nI_in (N := 800) (by omega) (by decide)) dX14_job_112 ?_
                  refine lv_topi (fun x9 ex9 => ?_)
                  refine lv_istore (lv' := [(10, .int x9), (9, .int (nI (100 * j9 + p9))), (0, .ref o), (4, .int (nI j9)), (5, .int (nI m9)), (6, .long (Int64.ofNat lf9)), (8, .int (nI p9))]) hx hb dX14_job_113 hl (by decide) rfl (fun ls hl => ?_)
                  have hx35 : x9 = (if (v9.O j9 p9).1 = 5 then 25 else nI ((v9.O j9 p9).1 - 10)) := by rw [ex9, show (400 : Int32) * nI b9 + nI (100 * j9 + p9) = nI (400 * b9 + (100 * j9 + p9)) from nI_ma 400 b9 (100 * j9 + p9), nI_clamp (by omega)]; exact hop.1
                  obtain ⟨kd9, hkde⟩ : ∃ y, (v9.O j9 p9).1 = y := ⟨_, rfl⟩
                  have hcs : kd9 = 25 ∨ kd9 = 26 ∨ kd9 = 27 ∨ kd9 = 28 ∨ kd9 = 29 ∨ kd9 = 30 ∨ kd9 = 31 ∨ kd9 = 32 ∨ kd9 = 33 ∨ kd9 = 34 ∨ kd9 = 5 := kd11 (by rw [← hkde]; exact hk0)
                  rcases hcs with hkd | hkd | hkd | hkd | hkd | hkd | hkd | hkd | hkd | hkd | hkd
                  · skip
                    replace hkd := hkde.trans hkd
                    rw [show x9 = 15 by rw [hx35, hkd]; rfl] at hl
                    refine lv_iload hx hb dX14_job_115 (lv_at hl 0 rfl) ?_
                    refine lv_bipush (v := 25) hx hb dX14_job_117 (by decide) ?_
                    refine lv_icmp_ne (tgt := 143) hx hb dX14_job_119 (by decide) (fun c_119 => ?_) (fun c_119 => ?_)
                    · skip
                      refine lv_lload hx hb dX14_job_143 (lv_at hl 5 rfl) ?_
                      refine lv_lconst (v := 0) hx hb dX14_job_145 (by decide) ?_
                      refine W.lcmp hx hb dX14_job_146 ?_
                      refine lv_if_ne (tgt := 152) hx hb dX14_job_147 (by decide) (fun c_147 => ?_) (fun c_147 => ?_)
                      · skip
                        obtain ⟨lf, hlf⟩ : ∃ y, lf9 = y + 1 := ⟨lf9 - 1, by have y : lf9 ≠ 0 := fun z => c_147 ((lg_cmp_eq _ _).mpr (by rw [z]; rfl)); omega⟩
                        rw [hlf] at hl hmu hjr
                        refine lv_lload hx hb dX14_job_152 (lv_at hl 5 rfl) ?_
                        refine lv_lconst (v := 1) hx hb dX14_job_154 (by decide) ?_
                        refine lv_lsub hx hb dX14_job_155 ?_
                        rw [i64_dec (by omega)]
                        refine lv_topl (fun x11 ex11 => ?_)
                        refine lv_lstore (lv' := [(6, .long x11), (10, .int 15), (9, .int (nI (100 * j9 + p9))), (0, .ref o), (4, .int (nI j9)), (5, .int (nI m9)), (8, .int (nI p9))]) hx hb dX14_job_156 hl (by decide) rfl (fun ls hl => ?_)
                        refine lv_iload hx hb dX14_job_158 (lv_at hl 1 rfl) ?_
                        refine lv_bipush (v := 15) hx hb dX14_job_160 (by decide) ?_
                        refine lv_icmp_eq (tgt := 172) hx hb dX14_job_162 (by decide) (fun c_162 => ?_) (fun c_162 => ?_)
                        · skip
                          refine lv_iconst (v := 0) hx hb dX14_job_172 (by decide) ?_
                          refine lv_goto (tgt := 209) hx hb dX14_job_173 (by decide) ?_
                          refine lv_istore (lv' := [(11, .int 0), (6, .long x11), (10, .int 15), (9, .int (nI (100 * j9 + p9))), (0, .ref o), (4, .int (nI j9)), (5, .int (nI m9)), (8, .int (nI p9))]) hx hb dX14_job_209 hl (by decide) rfl (fun ls hl => ?_)
                          refine lv_iload hx hb dX14_job_211 (lv_at hl 2 rfl) ?_
                          refine lv_bipush (v := 15) hx hb dX14_job_213 (by decide) ?_
                          refine lv_icmp_eq (tgt := 232) hx hb dX14_job_215 (by decide) (fun c_215 => ?_) (fun c_215 => ?_)
                          · skip
                            refine lv_iconst (v := 1) hx hb dX14_job_232 (by decide) ?_
                            refine lv_goto (tgt := 237) hx hb dX14_job_233 (by decide) ?_
                            refine lv_istore (lv' := [(12, .int 1), (11, .int 0), (6, .long x11), (10, .int 15), (9, .int (nI (100 * j9 + p9))), (0, .ref o), (4, .int (nI j9)), (5, .int (nI m9)), (8, .int (nI p9))]) hx hb dX14_job_237 hl (by decide) rfl (fun ls hl => ?_)
                            refine lv_iload hx hb dX14_job_239 (lv_at hl 7 rfl) ?_
                            refine lv_iload hx hb dX14_job_241 (lv_at hl 1 rfl) ?_
                            refine lv_icmp_lt (tgt := 258) hx hb dX14_job_243 (by decide) (fun c_243 => ?_) (fun c_243 => ?_)
                            · skip
                              exact absurd c_243 (nI_pos (by omega))
                            · skip
                              refine lv_iload hx hb dX14_job_246 (lv_at hl 0 rfl) ?_
                              refine lv_if_eq (tgt := 261) hx hb dX14_job_248 (by decide) (fun c_248 => ?_) (fun c_248 => ?_)
                              · skip
                                exact absurd c_248 (by decide)
                              · skip
                                refine lv_iload hx hb dX14_job_251 (lv_at hl 7 rfl) ?_
                                refine lv_bipush (v := 16) hx hb dX14_job_253 (by decide) ?_
                                refine lv_icmp_ne (tgt := 261) hx hb dX14_job_255 (by decide) (fun c_255 => ?_) (fun c_255 => ?_)
                                · skip
                                  have hm16 : m9 < 16 := by have y : m9 ≠ 16 := fun z => c_255 (by rw [z]; rfl); omega
                                  refine lv_iload hx hb dX14_job_261 (lv_at hl 7 rfl) ?_
                                  refine lv_if_le (tgt := 278) hx hb dX14_job_263 (by decide) (fun c_263 => ?_) (fun c_263 => ?_)
                                  · skip
                                    refine lv_lconst (v := 0) hx hb dX14_job_278 (by decide) ?_
                                    refine lv_lstore (lv' := [(13, .long 0), (12, .int 1), (11, .int 0), (6, .long x11), (10, .int 15), (9, .int (nI (100 * j9 + p9))), (0, .ref o), (4, .int (nI j9)), (5, .int (nI m9)), (8, .int (nI p9))]) hx hb dX14_job_279 hl (by decide) rfl (fun ls hl => ?_)
                                    refine lv_iload hx hb dX14_job_281 (lv_at hl 8 rfl) ?_
                                    refine lv_iconst (v := 1) hx hb dX14_job_283 (by decide) ?_
                                    refine lv_icmp_le (tgt := 299) hx hb dX14_job_284 (by decide) (fun c_284 => ?_) (fun c_284 => ?_)
                                    · skip
                                      refine lv_lconst (v := 0) hx hb dX14_job_299 (by decide) ?_
                                      refine lv_lstore (lv' := [(15, .long 0), (13, .long 0), (12, .int 1), (11, .int 0), (6, .long x11), (10, .int 15), (9, .int (nI (100 * j9 + p9))), (0, .ref o), (4, .int (nI j9)), (5, .int (nI m9)), (8, .int (nI p9))]) hx hb dX14_job_300 hl (by decide) rfl (fun ls hl => ?_)
                                      obtain ⟨x12, ex12⟩ : ∃ y : Int32, y = (nI p9) + 1 := ⟨_, rfl⟩
                                      refine lv_iinc (v := x12) (lv' := [(8, .int x12), (15, .long 0), (13, .long 0), (12, .int 1), (11, .int 0), (6, .long x11), (10, .int 15), (9, .int (nI (100 * j9 + p9))), (0, .ref o), (4, .int (nI j9)), (5, .int (nI m9))]) hx hb dX14_job_302 hl (k := 10) rfl (by rw [ex12]; rfl) (by decide) rfl (fun ls hl => ?_)
                                      refine lv_iload hx hb dX14_job_305 (lv_at hl 6 rfl) ?_
                                      refine lv_tableIn (tgt := 360) hx hb dX14_job_307 (by decide) (by decide) (off := 53) rfl (by decide) ?_
                                      refine lv_aload_n hx hb dX14_job_360 rfl (lv_at hl 8 rfl) ?_
                                      refine mm_get (v := .ref (Ar 75)) hx hb hf_X14 (fun _ h9 => h9) hown hK hG hM.1 rfl 75 (by decide) (tb_use hT tw_1466) (fun _ h9 => h9) (mfs_g75 _ _) dX14_job_361 ?_
                                      refine lv_iload hx hb dX14_job_364 (lv_at hl 10 rfl) ?_
                                      refine lv_aload_n hx hb dX14_job_366 rfl (lv_at hl 8 rfl) ?_
                                      refine mm_get (v := .ref (Ar 36)) hx hb hf_X14 (fun _ h9 => h9) hown hK hG hM.1 rfl 36 (by decide) (tb_use hT tw_1427) (fun _ h9 => h9) (mfs_g36 _ _) dX14_job_367 ?_
                                      refine lv_sipush (v := 400) hx hb dX14_job_370 (by decide) ?_
                                      refine lv_aload_n hx hb dX14_job_373 rfl (lv_at hl 8 rfl) ?_
                                      refine mm_get (v := .int (Ij 42)) hx hb hf_X14 (fun _ h9 => h9) hown hK hG hM.1 rfl 42 (by decide) (tb_use hT tw_1433) (fun _ h9 => h9) (mfs_g42 _ _) dX14_job_374 ?_
                                      rw [show (Ij 42) = nI b9 from hbj]
                                      refine lv_imul hx hb dX14_job_377 ?_
                                      refine lv_iload hx hb dX14_job_378 (lv_at hl 7 rfl) ?_
                                      refine lv_iadd hx hb dX14_job_380 ?_
                                      refine mm_iald (n := 800) (f := Fj 36) hx hb hK hG 1 (hM.2.1 36 rfl) rfl (by rw [show (400 : Int32) * nI b9 + nI (100 * j9 + p9) = nI (400 * b9 + (100 * j9 + p9)) from nI_ma 400 b9 (100 * j9 + p9)]; exact nI_in (N := 800) (by omega) (by decide)) dX14_job_381 ?_
                                      refine lv_topi (fun x13 ex13 => ?_)
                                      obtain ⟨x14, ex14⟩ : ∃ y, y = (x13 : Int32).toInt64 := ⟨_, rfl⟩
                                      refine lv_i2l (v := x14) hx hb dX14_job_382 ex14.symm ?_
                                      refine mm_last (n := mdN 75) (f := Lj 75) hx hb hK hG hS 2 (hM.2.2.1 75 rfl) rfl (nI_in (N := mdN 75) (by show _ < 16; omega) (by decide)) dX14_job_383 (fun H locs hG hS => ?_)
                                      have hM := MD.setj (k := 75) (vp_updL (Lj 75) (nI m9).toNatClampNeg x14) hM rfl
                                      have hF := hF.wa (k := 75) (e' := .inl (cy 2, mdN 75, .inr (.inl (vp_updL (Lj 75) (nI m9).toNatClampNeg x14)))) rfl
                                      obtain ⟨L15, eL15⟩ : ∃ g, g = va_up Lj 75 (vp_updL (Lj 75) (nI m9).toNatClampNeg x14) := ⟨_, rfl⟩
                                      rw [← eL15] at hM
                                      have hgn := gn_MD hG hM hF
                                      clear hG hM hF
                                      obtain ⟨G16, hG, hM, hF⟩ := hgn
                                      obtain ⟨x17, ex17⟩ : ∃ y : Int32, y = (nI m9) + 1 := ⟨_, rfl⟩
                                      refine lv_iinc (v := x17) (lv' := [(5, .int x17), (8, .int x12), (15, .long 0), (13, .long 0), (12, .int 1), (11, .int 0), (6, .long x11), (10, .int 15), (9, .int (nI (100 * j9 + p9))), (0, .ref o), (4, .int (nI j9))]) hx hb dX14_job_384 hl (k := 10) rfl (by rw [ex17]; rfl) (by decide) rfl (fun ls hl => ?_)
                                      refine lv_goto (tgt := 582) hx hb dX14_job_387 (by decide) ?_
                                      refine lv_goto (tgt := 68) hx hb dX14_job_582 (by decide) ?_
                                      have hrf : rfs js.1.1 (v9.O j9 p9).1 js.2.2.1 = 0 := by rw [hkd, hjp.1, hjo.1]; exact rf_ok (by decide) (by decide) hm16b (show 0 ≤ m9 by omega) (fun _ => by omega) (fun z => absurd z (by decide))
                                      have hjr2 : jrF v9 j9 ln f9 n lf (nI (p9 + 1)) (lyy (v9.O j9 p9).2.1 js.1, js.2) = RJ := by rw [← hjr, jr_st hnO hp9 (by rw [hkd]; decide) (by rw [hkd]; decide) hrf, st_25 hkd]
                                      have hval : x14 = (v9.O j9 p9).2.1 := by rw [ex14, ex13, show (400 : Int32) * nI b9 + nI (100 * j9 + p9) = nI (400 * b9 + (100 * j9 + p9)) from nI_ma 400 b9 (100 * j9 + p9), nI_clamp (by omega)]; exact hop.2.1 hkd
                                      have hjp2 : JP (lyy (v9.O j9 p9).2.1 js.1) (m9 + 1) (L15 75) := by rw [eL15, va_up_self, nI_clamp (by omega), hval]; exact hjp.ly hm16
                                      rw [show x12 = nI (p9 + 1) by rw [ex12]; exact (nI_succ p9).symm] at hl
                                      rw [show x17 = nI (m9 + 1) by rw [ex17]; exact (nI_succ m9).symm] at hl
                                      rw [ex11] at hl
                                      have hmu2 : 2 * lf + agN v9 j9 (p9 + 1) < n := by have y := @agN_le v9 j9 (p9 + 1); omega
                                      exact ih (p9 + 1) (m9 + 1) lf sz Ij Fj L15 (lyy (v9.O j9 p9).2.1 js.1, js.2) hmu2 hjr2 hjp2 hjo (by omega) (by omega) hIo h38j hbj h66j h68j hsz64 hFo (fun j hj => by rw [eL15, va_up_ne _ _ (by omega)]; exact hLo j hj) G16 hM hF _ _ hG hS ls (lv_sub hl [9, 10, 0, 6, 1] rfl)
                                    · skip
                                      have hm2 : 1 < m9 := Nat.lt_of_not_le (fun y => c_284 (nI_le (b := 1) y (by decide)))
                                      refine lv_aload_n hx hb dX14_job_287 rfl (lv_at hl 6 rfl) ?_
                                      refine mm_get (v := .ref (Ar 75)) hx hb hf_X14 (fun _ h9 => h9) hown hK hG hM.1 rfl 75 (by decide) (tb_use hT tw_1466) (fun _ h9 => h9) (mfs_g75 _ _) dX14_job_288 ?_
                                      refine lv_iload hx hb dX14_job_291 (lv_at hl 8 rfl) ?_
                                      refine lv_iconst (v := 2) hx hb dX14_job_293 (by decide) ?_
                                      refine lv_isub hx hb dX14_job_294 ?_
                                      rw [show ((nI m9) - 2) = nI (m9 - 2) from nI_sb (a := 2) (b := m9) (by omega)]
                                      refine mm_lald (n := 16) (f := Lj 75) hx hb hK hG 2 (hM.2.2.1 75 rfl) rfl (nI_in (N := 16) (by omega) (by decide)) dX14_job_295 ?_
                                      refine lv_topl (fun x18 ex18 => ?_)
                                      refine lv_goto (tgt := 300) hx hb dX14_job_296 (by decide) ?_
                                      refine lv_lstore (lv' := [(15, .long x18), (13, .long 0), (12, .int 1), (11, .int 0), (6, .long x11), (10, .int 15), (9, .int (nI (100 * j9 + p9))), (0, .ref o), (4, .int (nI j9)), (5, .int (nI m9)), (8, .int (nI p9))]) hx hb dX14_job_300 hl (by decide) rfl (fun ls hl => ?_)
                                      obtain ⟨x19, ex19⟩ : ∃ y : Int32, y = (nI p9) + 1 := ⟨_, rfl⟩
                                      refine lv_iinc (v := x19) (lv' := [(8, .int x19), (15, .long x18), (13, .long 0), (12, .int 1), (11, .int 0), (6, .long x11), (10, .int 15), (9, .int (nI (100 * j9 + p9))), (0, .ref o), (4, .int (nI j9)), (5, .int (nI m9))]) hx hb dX14_job_302 hl (k := 10) rfl (by rw [ex19]; rfl) (by decide) rfl (fun ls hl => ?_)
                                      refine lv_iload hx hb dX14_job_305 (lv_at hl 6 rfl) ?_
                                      refine lv_tableIn (tgt := 360) hx hb dX14_job_307 (by decide) (by decide) (off := 53) rfl (by decide) ?_
                                      refine lv_aload_n hx hb dX14_job_360 rfl (lv_at hl 8 rfl) ?_
                                      refine mm_get (v := .ref (Ar 75)) hx hb hf_X14 (fun _ h9 => h9) hown hK hG hM.1 rfl 75 (by decide) (tb_use hT tw_1466) (fun _ h9 => h9) (mfs_g75 _ _) dX14_job_361 ?_
                                      refine lv_iload hx hb dX14_job_364 (lv_at hl 10 rfl) ?_
                                      refine lv_aload_n hx hb dX14_job_366 rfl (lv_at hl 8 rfl) ?_
                                      refine mm_get (v := .ref (Ar 36)) hx hb hf_X14 (fun _ h9 => h9) hown hK hG hM.1 rfl 36 (by decide) (tb_use hT tw_1427) (fun _ h9 => h9) (mfs_g36 _ _) dX14_job_367 ?_
                                      refine lv_sipush (v := 400) hx hb dX14_job_370 (by decide) ?_
                                      refine lv_aload_n hx hb dX14_job_373 rfl (lv_at hl 8 rfl) ?_
                                      refine mm_get (v := .int (Ij 42)) hx hb hf_X14 (fun _ h9 => h9) hown hK hG hM.1 rfl 42 (by decide) (tb_use hT tw_1433) (fun _ h9 => h9) (mfs_g42 _ _) dX14_job_374 ?_
                                      rw [show (Ij 42) = nI b9 from hbj]
                                      refine lv_imul hx hb dX14_job_377 ?_
                                      refine lv_iload hx hb dX14_job_378 (lv_at hl 7 rfl) ?_
                                      refine lv_iadd hx hb dX14_job_380 ?_
                                      refine mm_iald (n := 800) (f := Fj 36) hx hb hK hG 1 (hM.2.1 36 rfl) rfl (by rw [show (400 : Int32) * nI b9 + nI (100 * j9 + p9) = nI (400 * b9 + (100 * j9 + p9)) from nI_ma 400 b9 (100 * j9 + p9)]; exact nI_in (N := 800) (by omega) (by decide)) dX14_job_381 ?_
                                      refine lv_topi (fun x20 ex20 => ?_)
                                      obtain ⟨x21, ex21⟩ : ∃ y, y = (x20 : Int32).toInt64 := ⟨_, rfl⟩
                                      refine lv_i2l (v := x21) hx hb dX14_job_382 ex21.symm ?_
                                      refine mm_last (n := mdN 75) (f := Lj 75) hx hb hK hG hS 2 (hM.2.2.1 75 rfl) rfl (nI_in (N := mdN 75) (by show _ < 16; omega) (by decide)) dX14_job_383 (fun H locs hG hS => ?_)
                                      have hM := MD.setj (k := 75) (vp_updL (Lj 75) (nI m9).toNatClampNeg x21) hM rfl
                                      have hF := hF.wa (k := 75) (e' := .inl (cy 2, mdN 75, .inr (.inl (vp_updL (Lj 75) (nI m9).toNatClampNeg x21)))) rfl
                                      obtain ⟨L22, eL22⟩ : ∃ g, g = va_up Lj 75 (vp_updL (Lj 75) (nI m9).toNatClampNeg x21) := ⟨_, rfl⟩
                                      rw [← eL22] at hM
                                      have hgn := gn_MD hG hM hF
                                      clear hG hM hF
                                      obtain ⟨G23, hG, hM, hF⟩ := hgn
                                      obtain ⟨x24, ex24⟩ : ∃ y : Int32, y = (nI m9) + 1 := ⟨_, rfl⟩
                                      refine lv_iinc (v := x24) (lv' := [(5, .int x24), (8, .int x19), (15, .long x18), (13, .long 0), (12, .int 1), (11, .int 0), (6, .long x11), (10, .int 15), (9, .int (nI (100 * j9 + p9))), (0, .ref o), (4, .int (nI j9))]) hx hb dX14_job_384 hl (k := 10) rfl (by rw [ex24]; rfl) (by decide) rfl (fun ls hl => ?_)
                                      refine lv_goto (tgt := 582) hx hb dX14_job_387 (by decide) ?_
                                      refine lv_goto (tgt := 68) hx hb dX14_job_582 (by decide) ?_
                                      have hrf : rfs js.1.1 (v9.O j9 p9).1 js.2.2.1 = 0 := by rw [hkd, hjp.1, hjo.1]; exact rf_ok (by decide) (by decide) hm16b (show 0 ≤ m9 by omega) (fun _ => by omega) (fun z => absurd z (by decide))
                                      have hjr2 : jrF v9 j9 ln f9 n lf (nI (p9 + 1)) (lyy (v9.O j9 p9).2.1 js.1, js.2) = RJ := by rw [← hjr, jr_st hnO hp9 (by rw [hkd]; decide) (by rw [hkd]; decide) hrf, st_25 hkd]
                                      have hval : x21 = (v9.O j9 p9).2.1 := by rw [ex21, ex20, show (400 : Int32) * nI b9 + nI (100 * j9 + p9) = nI (400 * b9 + (100 * j9 + p9)) from nI_ma 400 b9 (100 * j9 + p9), nI_clamp (by omega)]; exact hop.2.1 hkd
                                      have hjp2 : JP (lyy (v9.O j9 p9).2.1 js.1) (m9 + 1) (L22 75) := by rw [eL22, va_up_self, nI_clamp (by omega), hval]; exact hjp.ly hm16
                                      rw [show x19 = nI (p9 + 1) by rw [ex19]; exact (nI_succ p9).symm] at hl
                                      rw [show x24 = nI (m9 + 1) by rw [ex24]; exact (nI_succ m9).symm] at hl
                                      rw [ex11] at hl
                                      have hmu2 : 2 * lf + agN v9 j9 (p9 + 1) < n := by have y := @agN_le v9 j9 (p9 + 1); omega
                                      exact ih (p9 + 1) (m9 + 1) lf sz Ij Fj L22 (lyy (v9.O j9 p9).2.1 js.1, js.2) hmu2 hjr2 hjp2 hjo (by omega) (by omega) hIo h38j hbj h66j h68j hsz64 hFo (fun j hj => by rw [eL22, va_up_ne _ _ (by omega)]; exact hLo j hj) G23 hM hF _ _ hG hS ls (lv_sub hl [9, 10, 0, 6, 1] rfl)
                                  · skip
                                    have hm1 : 0 < m9 := Nat.pos_of_ne_zero (fun y => c_263 (by rw [y]; exact Int32.le_refl 0))
                                    refine lv_aload_n hx hb dX14_job_266 rfl (lv_at hl 5 rfl) ?_
                                    refine mm_get (v := .ref (Ar 75)) hx hb hf_X14 (fun _ h9 => h9) hown hK hG hM.1 rfl 75 (by decide) (tb_use hT tw_1466) (fun _ h9 => h9) (mfs_g75 _ _) dX14_job_267 ?_
                                    refine lv_iload hx hb dX14_job_270 (lv_at hl 7 rfl) ?_
                                    refine lv_iconst (v := 1) hx hb dX14_job_272 (by decide) ?_
                                    refine lv_isub hx hb dX14_job_273 ?_
                                    rw [show ((nI m9) - 1) = nI (m9 - 1) from nI_sb (a := 1) (b := m9) (by omega)]
                                    refine mm_lald (n := 16) (f := Lj 75) hx hb hK hG 2 (hM.2.2.1 75 rfl) rfl (nI_in (N := 16) (by omega) (by decide)) dX14_job_274 ?_
                                    refine lv_topl (fun x25 ex25 => ?_)
                                    refine lv_goto (tgt := 279) hx hb dX14_job_275 (by decide) ?_
                                    refine lv_lstore (lv' := [(13, .long x25), (12, .int 1), (11, .int 0), (6, .long x11), (10, .int 15), (9, .int (nI (100 * j9 + p9))), (0, .ref o), (4, .int (nI j9)), (5, .int (nI m9)), (8, .int (nI p9))]) hx hb dX14_job_279 hl (by decide) rfl (fun ls hl => ?_)
                                    refine lv_iload hx hb dX14_job_281 (lv_at hl 8 rfl) ?_
                                    refine lv_iconst (v := 1) hx hb dX14_job_283 (by decide) ?_
                                    refine lv_icmp_le (tgt := 299) hx hb dX14_job_284 (by decide) (fun c_284 => ?_) (fun c_284 => ?_)
                                    · skip
                                      refine lv_lconst (v := 0) hx hb dX14_job_299 (by decide) ?_
                                      refine lv_lstore (lv' := [(15, .long 0), (13, .long x25), (12, .int 1), (11, .int 0), (6, .long x11), (10, .int 15), (9, .int (nI (100 * j9 + p9))), (0, .ref o), (4, .int (nI j9)), (5, .int (nI m9)), (8, .int (nI p9))]) hx hb dX14_job_300 hl (by decide) rfl (fun ls hl => ?_)
                                      obtain ⟨x26, ex26⟩ : ∃ y : Int32, y = (nI p9) + 1 := ⟨_, rfl⟩
                                      refine lv_iinc (v := x26) (lv' := [(8, .int x26), (15, .long 0), (13, .long x25), (12, .int 1), (11, .int 0), (6, .long x11), (10, .int 15), (9, .int (nI (100 * j9 + p9))), (0, .ref o), (4, .int (nI j9)), (5, .int (nI m9))]) hx hb dX14_job_302 hl (k := 10) rfl (by rw [ex26]; rfl) (by decide) rfl (fun ls hl => ?_)
                                      refine lv_iload hx hb dX14_job_305 (lv_at hl 6 rfl) ?_
                                      refine lv_tableIn (tgt := 360) hx hb dX14_job_307 (by decide) (by decide) (off := 53) rfl (by decide) ?_
                                      refine lv_aload_n hx hb dX14_job_360 rfl (lv_at hl 8 rfl) ?_
                                      refine mm_get (v := .ref (Ar 75)) hx hb hf_X14 (fun _ h9 => h9) hown hK hG hM.1 rfl 75 (by decide) (tb_use hT tw_1466) (fun _ h9 => h9) (mfs_g75 _ _) dX14_job_361 ?_
                                      refine lv_iload hx hb dX14_job_364 (lv_at hl 10 rfl) ?_
                                      refine lv_aload_n hx hb dX14_job_366 rfl (lv_at hl 8 rfl) ?_
                                      refine mm_get (v := .ref (Ar 36)) hx hb hf_X14 (fun _ h9 => h9) hown hK hG hM.1 rfl 36 (by decide) (tb_use hT tw_1427) (fun _ h9 => h9) (mfs_g36 _ _) dX14_job_367 ?_
                                      refine lv_sipush (v := 400) hx hb dX14_job_370 (by decide) ?_
                                      refine lv_aload_n hx hb dX14_job_373 rfl (lv_at hl 8 rfl) ?_
                                      refine mm_get (v := .int (Ij 42)) hx hb hf_X14 (fun _ h9 => h9) hown hK hG hM.1 rfl 42 (by decide) (tb_use hT tw_1433) (fun _ h9 => h9) (mfs_g42 _ _) dX14_job_374 ?_
                                      rw [show (Ij 42) = nI b9 from hbj]
                                      refine lv_imul hx hb dX14_job_377 ?_
                                      refine lv_iload hx hb dX14_job_378 (lv_at hl 7 rfl) ?_
                                      refine lv_iadd hx hb dX14_job_380 ?_
                                      refine mm_iald (n := 800) (f := Fj 36) hx hb hK hG 1 (hM.2.1 36 rfl) rfl (by rw [show (400 : Int32) * nI b9 + nI (100 * j9 + p9) = nI (400 * b9 + (100 * j9 + p9)) from nI_ma 400 b9 (100 * j9 + p9)]; exact nI_in (N := 800) (by omega) (by decide)) dX14_job_381 ?_
                                      refine lv_topi (fun x27 ex27 => ?_)
                                      obtain ⟨x28, ex28⟩ : ∃ y, y = (x27 : Int32).toInt64 := ⟨_, rfl⟩
                                      refine lv_i2l (v := x28) hx hb dX14_job_382 ex28.symm ?_
                                      refine mm_last (n := mdN 75) (f := Lj 75) hx hb hK hG hS 2 (hM.2.2.1 75 rfl) rfl (nI_in (N := mdN 75) (by show _ < 16; omega) (by decide)) dX14_job_383 (fun H locs hG hS => ?_)
                                      have hM := MD.setj (k := 75) (vp_updL (Lj 75) (nI m9).toNatClampNeg x28) hM rfl
                                      have hF := hF.wa (k := 75) (e' := .inl (cy 2, mdN 75, .inr (.inl (vp_updL (Lj 75) (nI m9).toNatClampNeg x28)))) rfl
                                      obtain ⟨L29, eL29⟩ : ∃ g, g = va_up Lj 75 (vp_updL (Lj 75) (nI m9).toNatClampNeg x28) := ⟨_, rfl⟩
                                      rw [← eL29] at hM
                                      have hgn := gn_MD hG hM hF
                                      clear hG hM hF
                                      obtain ⟨G30, hG, hM, hF⟩ := hgn
                                      obtain ⟨x31, ex31⟩ : ∃ y : Int32, y = (nI m9) + 1 := ⟨_, rfl⟩
                                      refine lv_iinc (v := x31) (lv' := [(5, .int x31), (8, .int x26), (15, .long 0), (13, .long x25), (12, .int 1), (11, .int 0), (6, .long x11), (10, .int 15), (9, .int (nI (100 * j9 + p9))), (0, .ref o), (4, .int (nI j9))]) hx hb dX14_job_384 hl (k := 10) rfl (by rw [ex31]; rfl) (by decide) rfl (fun ls hl => ?_)
                                      refine lv_goto (tgt := 582) hx hb dX14_job_387 (by decide) ?_
                                      refine lv_goto (tgt := 68) hx hb dX14_job_582 (by decide) ?_
                                      have hrf : rfs js.1.1 (v9.O j9 p9).1 js.2.2.1 = 0 := by rw [hkd, hjp.1, hjo.1]; exact rf_ok (by decide) (by decide) hm16b (show 0 ≤ m9 by omega) (fun _ => by omega) (fun z => absurd z (by decide))
                                      have hjr2 : jrF v9 j9 ln f9 n lf (nI (p9 + 1)) (lyy (v9.O j9 p9).2.1 js.1, js.2) = RJ := by rw [← hjr, jr_st hnO hp9 (by rw [hkd]; decide) (by rw [hkd]; decide) hrf, st_25 hkd]
                                      have hval : x28 = (v9.O j9 p9).2.1 := by rw [ex28, ex27, show (400 : Int32) * nI b9 + nI (100 * j9 + p9) = nI (400 * b9 + (100 * j9 + p9)) from nI_ma 400 b9 (100 * j9 + p9), nI_clamp (by omega)]; exact hop.2.1 hkd
                                      have hjp2 : JP (lyy (v9.O j9 p9).2.1 js.1) (m9 + 1) (L29 75) := by rw [eL29, va_up_self, nI_clamp (by omega), hval]; exact hjp.ly hm16
                                      rw [show x26 = nI (p9 + 1) by rw [ex26]; exact (nI_succ p9).symm] at hl
                                      rw [show x31 = nI (m9 + 1) by rw [ex31]; exact (nI_succ m9).symm] at hl
                                      rw [ex11] at hl
                                      have hmu2 : 2 * lf + agN v9 j9 (p9 + 1) < n := by have y := @agN_le v9 j9 (p9 + 1); omega
                                      exact ih (p9 + 1) (m9 + 1) lf sz Ij Fj L29 (lyy (v9.O j9 p9).2.1 js.1, js.2) hmu2 hjr2 hjp2 hjo (by omega) (by omega) hIo h38j hbj h66j h68j hsz64 hFo (fun j hj => by rw [eL29, va_up_ne _ _ (by omega)]; exact hLo j hj) G30 hM hF _ _ hG hS ls (lv_sub hl [9, 10, 0, 6, 1] rfl)
                                    · skip
                                      have hm2 : 1 < m9 := Nat.lt_of_not_le (fun y => c_284 (nI_le (b := 1) y (by decide)))
                                      refine lv_aload_n hx hb dX14_job_287 rfl (lv_at hl 6 rfl) ?_
                                      refine mm_get (v := .ref (Ar 75)) hx hb hf_X14 (fun _ h9 => h9) hown hK hG hM.1 rfl 75 (by decide) (tb_use hT tw_1466) (fun _ h9 => h9) (mfs_g75 _ _) dX14_job_288 ?_
                                      refine lv_iload hx hb dX14_job_291 (lv_at hl 8 rfl) ?_
                                      refine lv_iconst (v := 2) hx hb dX14_job_293 (by decide) ?_
                                      refine lv_isub hx hb dX14_job_294 ?_
                                      rw [show ((nI m9) - 2) = nI (m9 - 2) from nI_sb (a := 2) (b := m9) (by omega)]
                                      refine mm_lald (n := 16) (f := Lj 75) hx hb hK hG 2 (hM.2.2.1 75 rfl) rfl (nI_in (N := 16) (by omega) (by decide)) dX14_job_295 ?_
                                      refine lv_topl (fun x32 ex32 => ?_)
                                      refine lv_goto (tgt := 300) hx hb dX14_job_296 (by decide) ?_
                                      refine lv_lstore (lv' := [(15, .long x32), (13, .long x25), (12, .int 1), (11, .int 0), (6, .long x11), (10, .int 15), (9, .int (nI (100 * j9 + p9))), (0, .ref o), (4, .int (nI j9)), (5, .int (nI m9)), (8, .int (nI p9))]) hx hb dX14_job_300 hl (by decide) rfl (fun ls hl => ?_)
                                      obtain ⟨x33, ex33⟩ : ∃ y : Int32, y = (nI p9) + 1 := ⟨_, rfl⟩
                                      refine lv_iinc (v := x33) (lv' := [(8, .int x33), (15, .long x32), (13, .long x25), (12, .int 1), (11, .int 0), (6, .long x11), (10, .int 15), (9, .int (nI (100 * j9 + p9))), (0, .ref o), (4, .int (nI j9)), (5, .int (nI m9))]) hx hb dX14_job_302 hl (k := 10) rfl (by rw [ex33]; rfl) (by decide) rfl (fun ls hl => ?_)
                                      refine lv_iload hx hb dX14_job_305 (lv_at hl 6 rfl) ?_
                                      refine lv_tableIn (tgt := 360) hx hb dX14_job_307 (by decide) (by decide) (off := 53) rfl (by decide) ?_
                                      refine lv_aload_n hx hb dX14_job_360 rfl (lv_at hl 8 rfl) ?_
                                      refine mm_get (v := .ref (Ar 75)) hx hb hf_X14 (fun _ h9 => h9) hown hK hG hM.1 rfl 75 (by decide) (tb_use hT tw_1466) (fun _ h9 => h9) (mfs_g75 _ _) dX14_job_361 ?_
                                      refine lv_iload hx hb dX14_job_364 (lv_at hl 10 rfl) ?_
                                      refine lv_aload_n hx hb dX14_job_366 rfl (lv_at hl 8 rfl) ?_
                                      refine mm_get (v := .ref (Ar 36)) hx hb hf_X14 (fun _ h9 => h9) hown hK hG hM.1 rfl 36 (by decide) (tb_use hT tw_1427) (fun _ h9 => h9) (mfs_g36 _ _) dX14_job_367 ?_
                                      refine lv_sipush (v := 400) hx hb dX14_job_370 (by decide) ?_
                                      refine lv_aload_n hx hb dX14_job_373 rfl (lv_at hl 8 rfl) ?_
                                      refine mm_get (v := .int (Ij 42)) hx hb hf_X14 (fun _ h9 => h9) hown hK hG hM.1 rfl 42 (by decide) (tb_use hT tw_1433) (fun _ h9 => h9) (mfs_g42 _ _) dX14_job_374 ?_
                                      rw [show (Ij 42) = nI b9 from hbj]
                                      refine lv_imul hx hb dX14_job_377 ?_
                                      refine lv_iload hx hb dX14_job_378 (lv_at hl 7 rfl) ?_
                                      refine lv_iadd hx hb dX14_job_380 ?_
                                      refine mm_iald (n := 800) (f := Fj 36) hx hb hK hG 1 (hM.2.1 36 rfl) rfl (by rw [show (400 : Int32) * nI b9 + nI (100 * j9 + p9) = nI (400 * b9 + (100 * j9 + p9)) from nI_ma 400 b9 (100 * j9 + p9)]; exact nI_in (N := 800) (by omega) (by decide)) dX14_job_381 ?_
                                      refine lv_topi (fun x34 ex34 => ?_)
                                      obtain ⟨x35, ex35⟩ : ∃ y, y = (x34 : Int32).toInt64 := ⟨_, rfl⟩
                                      refine lv_i2l (v := x35) hx hb dX14_job_382 ex35.symm ?_
                                      refine mm_last (n := mdN 75) (f := Lj 75) hx hb hK hG hS 2 (hM.2.2.1 75 rfl) rfl (nI_in (N := mdN 75) (by show _ < 16; omega) (by decide)) dX14_job_383 (fun H locs hG hS => ?_)
                                      have hM := MD.setj (k := 75) (vp_updL (Lj 75) (nI m9).toNatClampNeg x35) hM rfl
                                      have hF := hF.wa (k := 75) (e' := .inl (cy 2, mdN 75, .inr (.inl (vp_updL (Lj 75) (nI m9).toNatClampNeg x35)))) rfl
                                      obtain ⟨L36, eL36⟩ : ∃ g, g = va_up Lj 75 (vp_updL (Lj 75) (nI m9).toNatClampNeg x35) := ⟨_, rfl⟩
                                      rw [← eL36] at hM
                                      have hgn := gn_MD hG hM hF
                                      clear hG hM hF
                                      obtain ⟨G37, hG, hM, hF⟩ := hgn
                                      obtain ⟨x38, ex38⟩ : ∃ y : Int32, y = (nI m9) + 1 := ⟨_, rfl⟩
                                      refine lv_iinc (v := x38) (lv' := [(5, .int x38), (8, .int x33), (15, .long x32), (13, .long x25), (12, .int 1), (11, .int 0), (6, .long x11), (10, .int 15), (9, .int (nI (100 * j9 + p9))), (0, .ref o), (4, .int (nI j9))]) hx hb dX14_job_384 hl (k := 10) rfl (by rw [ex38]; rfl) (by decide) rfl (fun ls hl => ?_)
                                      refine lv_goto (tgt := 582) hx hb dX14_job_387 (by decide) ?_
                                      refine lv_goto (tgt := 68) hx hb dX14_job_582 (by decide) ?_
                                      have hrf : rfs js.1.1 (v9.O j9 p9).1 js.2.2.1 = 0 := by rw [hkd, hjp.1, hjo.1]; exact rf_ok (by decide) (by decide) hm16b (show 0 ≤ m9 by omega) (fun _ => by omega) (fun z => absurd z (by decide))
                                      have hjr2 : jrF v9 j9 ln f9 n lf (nI (p9 + 1)) (lyy (v9.O j9 p9).2.1 js.1, js.2) = RJ := by rw [← hjr, jr_st hnO hp9 (by rw [hkd]; decide) (by rw [hkd]; decide) hrf, st_25 hkd]
                                      have hval : x35 = (v9.O j9 p9).2.1 := by rw [ex35, ex34, show (400 : Int32) * nI b9 + nI (100 * j9 + p9) = nI (400 * b9 + (100 * j9 + p9)) from nI_ma 400 b9 (100 * j9 + p9), nI_clamp (by omega)]; exact hop.2.1 hkd
                                      have hjp2 : JP (lyy (v9.O j9 p9).2.1 js.1) (m9 + 1) (L36 75) := by rw [eL36, va_up_self, nI_clamp (by omega), hval]; exact hjp.ly hm16
                                      rw [show x33 = nI (p9 + 1) by rw [ex33]; exact (nI_succ p9).symm] at hl
                                      rw [show x38 = nI (m9 + 1) by rw [ex38]; exact (nI_succ m9).symm] at hl
                                      rw [ex11] at hl
                                      have hmu2 : 2 * lf + agN v9 j9 (p9 + 1) < n := by have y := @agN_le v9 j9 (p9 + 1); omega
                                      exact ih (p9 + 1) (m9 + 1) lf sz Ij Fj L36 (lyy (v9.O j9 p9).2.1 js.1, js.2) hmu2 hjr2 hjp2 hjo (by omega) (by omega) hIo h38j hbj h66j h68j hsz64 hFo (fun j hj => by rw [eL36, va_up_ne _ _ (by omega)]; exact hLo j hj) G37 hM hF _ _ hG hS ls (lv_sub hl [9, 10, 0, 6, 1] rfl)
                                · skip
                                  refine lv_bipush (v := (-3)) hx hb dX14_job_258 (by decide) ?_
                                  have hRJ : RJ = (-3, js) := by rw [← hjr]; exact jr_r hnO hp9 (by rw [hkd]; decide) (by rw [hkd, hjp.1, hjo.1]; exact rf_n3 (by decide) (by decide) hm16b (Or.inr ⟨rfl, nI_inj (b := 16) (by omega) (by decide) c_255⟩)) (by decide)
                                  exact W.iret (v := (-3)) hx hb hr (fun t ht hW => ⟨⟨_, _, rfl, ⟨Ij, Fj, Lj, hM, hF, hIo, h38j, ⟨sz, hsz64, h68j⟩, hFo, hLo, (by rw [hA9, hRJ]), (fun k hk _ => by rw [hoI] at hk; rw [← Option.some.inj hk, hE9, hRJ]; exact ⟨sz, h68j, hjo⟩), (fun z => z.elim (fun z => by rw [hoI] at z; cases z) (fun z => absurd hxr z))⟩, mk_end hG ht⟩, hS.F ht⟩) hS.2.2 dX14_job_260
                          · skip
                            exact absurd (by decide) c_215
                        · skip
                          exact absurd (by decide) c_162
                      · skip
                        refine lv_iconst (v := 0) hx hb dX14_job_150 (by decide) ?_
                        have hz0 : lf9 = 0 := by have z := congrArg Int64.toInt ((lg_cmp_eq _ _).mp c_147); rw [i64_on (by omega), show (0 : Int64).toInt = 0 by decide] at z; omega
                        have hRJ : RJ = (0, js) := by rw [← hjr]; exact jr_0 hnO hp9 (by rw [hkd]; decide) hz0
                        exact W.iret (v := 0) hx hb hr (fun t ht hW => ⟨⟨_, _, rfl, ⟨Ij, Fj, Lj, hM, hF, hIo, h38j, ⟨sz, hsz64, h68j⟩, hFo, hLo, (by rw [hA9, hRJ]), (fun k hk _ => by rw [hoI] at hk; rw [← Option.some.inj hk, hE9, hRJ]; exact ⟨sz, h68j, hjo⟩), (fun z => z.elim (fun z => by rw [hoI] at z; cases z) (fun z => absurd hxr z))⟩, mk_end hG ht⟩, hS.F ht⟩) hS.2.2 dX14_job_151
                    · skip
                      exact absurd c_119 (by decide)
                  · skip
                    replace hkd := hkde.trans hkd
                    rw [show x9 = 16 by rw [hx35, hkd]; rfl] at hl
                    refine lv_iload hx hb dX14_job_115 (lv_at hl 0 rfl) ?_
                    refine lv_bipush (v := 25) hx hb dX14_job_117 (by decide) ?_
                    refine lv_icmp_ne (tgt := 143) hx hb dX14_job_119 (by decide) (fun c_119 => ?_) (fun c_119 => ?_)
                    · skip
                      refine lv_lload hx hb dX14_job_143 (lv_at hl 5 rfl) ?_
                      refine lv_lconst (v := 0) hx hb dX14_job_145 (by decide) ?_
                      refine W.lcmp hx hb dX14_job_146 ?_
                      refine lv_if_ne (tgt := 152) hx hb dX14_job_147 (by decide) (fun c_147 => ?_) (fun c_147 => ?_)
                      · skip
                        obtain ⟨lf, hlf⟩ : ∃ y, lf9 = y + 1 := ⟨lf9 - 1, by have y : lf9 ≠ 0 := fun z => c_147 ((lg_cmp_eq _ _).mpr (by rw [z]; rfl)); omega⟩
                        rw [hlf] at hl hmu hjr
                        refine lv_lload hx hb dX14_job_152 (lv_at hl 5 rfl) ?_
                        refine lv_lconst (v := 1) hx hb dX14_job_154 (by decide) ?_
                        refine lv_lsub hx hb dX14_job_155 ?_
                        rw [i64_dec (by omega)]
                        refine lv_topl (fun x40 ex40 => ?_)
                        refine lv_lstore (lv' := [(6, .long x40), (10, .int 16), (9, .int (nI (100 * j9 + p9))), (0, .ref o), (4, .int (nI j9)), (5, .int (nI m9)), (8, .int (nI p9))]) hx hb dX14_job_156 hl (by decide) rfl (fun ls hl => ?_)
                        refine lv_iload hx hb dX14_job_158 (lv_at hl 1 rfl) ?_
                        refine lv_bipush (v := 15) hx hb dX14_job_160 (by decide) ?_
                        refine lv_icmp_eq (tgt := 172) hx hb dX14_job_162 (by decide) (fun c_162 => ?_) (fun c_162 => ?_)
                        · skip
                          exact absurd c_162 (by decide)
                        · skip
                          refine lv_iload hx hb dX14_job_165 (lv_at hl 1 rfl) ?_
                          refine lv_bipush (v := 16) hx hb dX14_job_167 (by decide) ?_
                          refine lv_icmp_ne (tgt := 176) hx hb dX14_job_169 (by decide) (fun c_169 => ?_) (fun c_169 => ?_)
                          · skip
                            exact absurd (by decide) c_169
                          · skip
                            refine lv_iconst (v := 0) hx hb dX14_job_172 (by decide) ?_
                            refine lv_goto (tgt := 209) hx hb dX14_job_173 (by decide) ?_
                            refine lv_istore (lv' := [(11, .int 0), (6, .long x40), (10, .int 16), (9, .int (nI (100 * j9 + p9))), (0, .ref o), (4, .int (nI j9)), (5, .int (nI m9)), (8, .int (nI p9))]) hx hb dX14_job_209 hl (by decide) rfl (fun ls hl => ?_)
                            refine lv_iload hx hb dX14_job_211 (lv_at hl 2 rfl) ?_
                            refine lv_bipush (v := 15) hx hb dX14_job_213 (by decide) ?_
                            refine lv_icmp_eq (tgt := 232) hx hb dX14_job_215 (by decide) (fun c_215 => ?_) (fun c_215 => ?_)
                            · skip
                              exact absurd c_215 (by decide)
                            · skip
                              refine lv_iload hx hb dX14_job_218 (lv_at hl 2 rfl) ?_
                              refine lv_bipush (v := 16) hx hb dX14_job_220 (by decide) ?_
                              refine lv_icmp_eq (tgt := 232) hx hb dX14_job_222 (by decide) (fun c_222 => ?_) (fun c_222 => ?_)
                              · skip
                                refine lv_iconst (v := 1) hx hb dX14_job_232 (by decide) ?_
                                refine lv_goto (tgt := 237) hx hb dX14_job_233 (by decide) ?_
                                refine lv_istore (lv' := [(12, .int 1), (11, .int 0), (6, .long x40), (10, .int 16), (9, .int (nI (100 * j9 + p9))), (0, .ref o), (4, .int (nI j9)), (5, .int (nI m9)), (8, .int (nI p9))]) hx hb dX14_job_237 hl (by decide) rfl (fun ls hl => ?_)
                                refine lv_iload hx hb dX14_job_239 (lv_at hl 7 rfl) ?_
                                refine lv_iload hx hb dX14_job_241 (lv_at hl 1 rfl) ?_
                                refine lv_icmp_lt (tgt := 258) hx hb dX14_job_243 (by decide) (fun c_243 => ?_) (fun c_243 => ?_)
                                · skip
                                  exact absurd c_243 (nI_pos (by omega))
                                · skip
                                  refine lv_iload hx hb dX14_job_246 (lv_at hl 0 rfl) ?_
                                  refine lv_if_eq (tgt := 261) hx hb dX14_job_248 (by decide) (fun c_248 => ?_) (fun c_248 => ?_)
                                  · skip
                                    exact absurd c_248 (by decide)
                                  · skip
                                    refine lv_iload hx hb dX14_job_251 (lv_at hl 7 rfl) ?_
                                    refine lv_bipush (v := 16) hx hb dX14_job_253 (by decide) ?_
                                    refine lv_icmp_ne (tgt := 261) hx hb dX14_job_255 (by decide) (fun c_255 => ?_) (fun c_255 => ?_)
                                    · skip
                                      have hm16 : m9 < 16 := by have y : m9 ≠ 16 := fun z => c_255 (by rw [z]; rfl); omega
                                      refine lv_iload hx hb dX14_job_261 (lv_at hl 7 rfl) ?_
                                      refine lv_if_le (tgt := 278) hx hb dX14_job_263 (by decide) (fun c_263 => ?_) (fun c_263 => ?_)
                                      · skip
                                        refine lv_lconst (v := 0) hx hb dX14_job_278 (by decide) ?_
                                        refine lv_lstore (lv' := [(13, .long 0), (12, .int 1), (11, .int 0), (6, .long x40), (10, .int 16), (9, .int (nI (100 * j9 + p9))), (0, .ref o), (4, .int (nI j9)), (5, .int (nI m9)), (8, .int (nI p9))]) hx hb dX14_job_279 hl (by decide) rfl (fun ls hl => ?_)
                                        refine lv_iload hx hb dX14_job_281 (lv_at hl 8 rfl) ?_
                                        refine lv_iconst (v := 1) hx hb dX14_job_283 (by decide) ?_
                                        refine lv_icmp_le (tgt := 299) hx hb dX14_job_284 (by decide) (fun c_284 => ?_) (fun c_284 => ?_)
                                        · skip
                                          refine lv_lconst (v := 0) hx hb dX14_job_299 (by decide) ?_
                                          refine lv_lstore (lv' := [(15, .long 0), (13, .long 0), (12, .int 1), (11, .int 0), (6, .long x40), (10, .int 16), (9, .int (nI (100 * j9 + p9))), (0, .ref o), (4, .int (nI j9)), (5, .int (nI m9)), (8, .int (nI p9))]) hx hb dX14_job_300 hl (by decide) rfl (fun ls hl => ?_)
                                          obtain ⟨x41, ex41⟩ : ∃ y : Int32, y = (nI p9) + 1 := ⟨_, rfl⟩
                                          refine lv_iinc (v := x41) (lv' := [(8, .int x41), (15, .long 0), (13, .long 0), (12, .int 1), (11, .int 0), (6, .long x40), (10, .int 16), (9, .int (nI (100 * j9 + p9))), (0, .ref o), (4, .int (nI j9)), (5, .int (nI m9))]) hx hb dX14_job_302 hl (k := 10) rfl (by rw [ex41]; rfl) (by decide) rfl (fun ls hl => ?_)
                                          refine lv_iload hx hb dX14_job_305 (lv_at hl 6 rfl) ?_
                                          refine lv_tableIn (tgt := 390) hx hb dX14_job_307 (by decide) (by decide) (off := 83) rfl (by decide) ?_
                                          refine lv_aload_n hx hb dX14_job_390 rfl (lv_at hl 8 rfl) ?_
                                          refine mm_get (v := .ref (Ar 75)) hx hb hf_X14 (fun _ h9 => h9) hown hK hG hM.1 rfl 75 (by decide) (tb_use hT tw_1466) (fun _ h9 => h9) (mfs_g75 _ _) dX14_job_391 ?_
                                          refine lv_iload hx hb dX14_job_394 (lv_at hl 10 rfl) ?_
                                          refine lv_aload_n hx hb dX14_job_396 rfl (lv_at hl 8 rfl) ?_
                                          refine lv_iload hx hb dX14_job_397 (lv_at hl 7 rfl) ?_
                                          obtain ⟨s9, i9, hs0, hi0⟩ := hVL.ge hnO hj9 hp9 hkd
                                          refine va_calll (va_runV (As := [.int (nI (100 * j9 + p9))]) (rest := [.int (nI m9), .ref (Ar 75)]) ⟨hx, hb, hml, hown, (fun _ h9 => absurd h9 List.not_mem_nil : ∀ w ∈ ([] : List Cond), w.before _ s = true)⟩ (c_M_floor l D cy A X hst hXT Gv o Ar Ij Fj Lj ft en b9 n9 v9 s9 i9 j9 p9 ln f9 js.2.1 hM hBj hVL hn30 hb9 (by exact hbj) hWd hCB (by exact h66j) hln (fun i hi => by rw [hFo 65 (by decide)]; exact hoc i hi) (by omega) (by omega) (hop.2.2.1 hkd) hs0 hi0) (tb_cw (C := RX14) 1 hT tw_1874 tw_109 tw_1871 tw_1873 tw_100 rfl rfl hq_X14_floorValue ⟨Nat.le_of_ble_eq_true rfl, Nat.le_of_ble_eq_true rfl⟩) (mk_preC hst hG hK hA hX hS vc_15 hM.1) rfl rfl hl.1 rfl (lv_room (Nat.le_of_ble_eq_true rfl)) dX14_job_399 ⟨Nat.le_of_ble_eq_true rfl, Nat.le_of_ble_eq_true rfl⟩) hS (fun q _ h => h) (fun q h => h) (fun r42 G43 t H locs ht hvm hw hB hz1 hk1 hS => ?_)
                                          have hG : mm D vwCl A G43 H := by rw [← ht]; exact hB
                                          clear hB hz1 hk1 hvm ht
                                          obtain ⟨er42, F9, L9, hM2, hF2, hf9, hL9⟩ := hw
                                          replace hF := hF.tr hF2; replace hM := hM2; clear hM2 hF2
                                          have hFo9 : ∀ j, ¬ (j = 67 ∨ (71 ≤ j ∧ j ≤ 73)) → F9 j = F j := fun j hj => by rw [hf9 j (by omega)]; exact hFo j hj
                                          have hLo9 : ∀ j, ¬ (j = 74 ∨ j = 75) → L9 j = L j := fun j hj => by rw [hL9 j (by omega)]; exact hLo j hj
                                          refine mm_last (n := mdN 75) (f := L9 75) hx hb hK hG hS 2 (hM.2.2.1 75 rfl) rfl (nI_in (N := mdN 75) (by show _ < 16; omega) (by decide)) dX14_job_402 (fun H locs hG hS => ?_)
                                          have hM := MD.setj (k := 75) (vp_updL (L9 75) (nI m9).toNatClampNeg r42) hM rfl
                                          have hF := hF.wa (k := 75) (e' := .inl (cy 2, mdN 75, .inr (.inl (vp_updL (L9 75) (nI m9).toNatClampNeg r42)))) rfl
                                          obtain ⟨L44, eL44⟩ : ∃ g, g = va_up L9 75 (vp_updL (L9 75) (nI m9).toNatClampNeg r42) := ⟨_, rfl⟩
                                          rw [← eL44] at hM
                                          have hgn := gn_MD hG hM hF
                                          clear hG hM hF
                                          obtain ⟨G45, hG, hM, hF⟩ := hgn
                                          obtain ⟨x46, ex46⟩ : ∃ y : Int32, y = (nI m9) + 1 := ⟨_, rfl⟩
                                          refine lv_iinc (v := x46) (lv' := [(5, .int x46), (8, .int x41), (15, .long 0), (13, .long 0), (12, .int 1), (11, .int 0), (6, .long x40), (10, .int 16), (9, .int (nI (100 * j9 + p9))), (0, .ref o), (4, .int (nI j9))]) hx hb dX14_job_403 hl (k := 10) rfl (by rw [ex46]; rfl) (by decide) rfl (fun ls hl => ?_)
                                          refine lv_goto (tgt := 582) hx hb dX14_job_406 (by decide) ?_
                                          refine lv_goto (tgt := 68) hx hb dX14_job_582 (by decide) ?_
                                          have hrf : rfs js.1.1 (v9.O j9 p9).1 js.2.2.1 = 0 := by rw [hkd, hjp.1, hjo.1]; exact rf_ok (by decide) (by decide) hm16b (show 0 ≤ m9 by omega) (fun _ => by omega) (fun z => absurd z (by decide))
                                          have hjr2 : jrF v9 j9 ln f9 n lf (nI (p9 + 1)) (lyy (gtV v9 ln f9 js.2.1 (v9.O j9 p9)) js.1, gtP v9 ln f9 js.2.1 (v9.O j9 p9), js.2.2) = RJ := by rw [← hjr, jr_st hnO hp9 (by rw [hkd]; decide) (by rw [hkd]; decide) hrf, st_26 hkd]
                                          have hval : r42 = gtV v9 ln f9 js.2.1 (v9.O j9 p9) := er42.trans (fv_gt hWd hCB hkd hs0 hi0)
                                          have hjp2 : JP (lyy (gtV v9 ln f9 js.2.1 (v9.O j9 p9)) js.1) (m9 + 1) (L44 75) := by rw [eL44, va_up_self, hL9 75 (by decide), nI_clamp (by omega), hval]; exact hjp.ly hm16
                                          have hjo2 : JS js.2.2 sz (F9 67) := by rw [hf9 67 (by decide)]; exact hjo
                                          rw [show x41 = nI (p9 + 1) by rw [ex41]; exact (nI_succ p9).symm] at hl
                                          rw [show x46 = nI (m9 + 1) by rw [ex46]; exact (nI_succ m9).symm] at hl
                                          rw [ex40] at hl
                                          have hmu2 : 2 * lf + agN v9 j9 (p9 + 1) < n := by have y := @agN_le v9 j9 (p9 + 1); omega
                                          exact ih (p9 + 1) (m9 + 1) lf sz Ij F9 L44 (lyy (gtV v9 ln f9 js.2.1 (v9.O j9 p9)) js.1, gtP v9 ln f9 js.2.1 (v9.O j9 p9), js.2.2) hmu2 hjr2 hjp2 hjo2 (by omega) (by omega) hIo h38j hbj h66j h68j hsz64 hFo9 (fun j hj => by rw [eL44, va_up_ne _ _ (by omega)]; exact hLo9 j hj) G45 hM hF _ _ hG hS ls (lv_sub hl [9, 10, 0, 6, 1] rfl)
                                        · skip
                                          have hm2 : 1 < m9 := Nat.lt_of_not_le (fun y => c_284 (nI_le (b := 1) y (by decide)))
                                          refine lv_aload_n hx hb dX14_job_287 rfl (lv_at hl 6 rfl) ?_
                                          refine mm_get (v := .ref (Ar 75)) hx hb hf_X14 (fun _ h9 => h9) hown hK hG hM.1 rfl 75 (by decide) (tb_use hT tw_1466) (fun _ h9 => h9) (mfs_g75 _ _) dX14_job_288 ?_
                                          refine lv_iload hx hb dX14_job_291 (lv_at hl 8 rfl) ?_
                                          refine lv_iconst (v := 2) hx hb dX14_job_293 (by decide) ?_
                                          refine lv_isub hx hb dX14_job_294 ?_
                                          rw [show ((nI m9) - 2) = nI (m9 - 2) from nI_sb (a := 2) (b := m9) (by omega)]
                                          refine mm_lald (n := 16) (f := Lj 75) hx hb hK hG 2 (hM.2.2.1 75 rfl) rfl (nI_in (N := 16) (by omega) (by decide)) dX14_job_295 ?_
                                          refine lv_topl (fun x47 ex47 => ?_)
                                          refine lv_goto (tgt := 300) hx hb dX14_job_296 (by decide) ?_
                                          refine lv_lstore (lv' := [(15, .long x47), (13, .long 0), (12, .int 1), (11, .int 0), (6, .long x40), (10, .int 16), (9, .int (nI (100 * j9 + p9))), (0, .ref o), (4, .int (nI j9)), (5, .int (nI m9)), (8, .int (nI p9))]) hx hb dX14_job_300 hl (by decide) rfl (fun ls hl => ?_)
                                          obtain ⟨x48, ex48⟩ : ∃ y : Int32, y = (nI p9) + 1 := ⟨_, rfl⟩
                                          refine lv_iinc (v := x48) (lv' := [(8, .int x48), (15, .long x47), (13, .long 0), (12, .int 1), (11, .int 0), (6, .long x40), (10, .int 16), (9, .int (nI (100 * j9 + p9))), (0, .ref o), (4, .int (nI j9)), (5, .int (nI m9))]) hx hb dX14_job_302 hl (k := 10) rfl (by rw [ex48]; rfl) (by decide) rfl (fun ls hl => ?_)
                                          refine lv_iload hx hb dX14_job_305 (lv_at hl 6 rfl) ?_
                                          refine lv_tableIn (tgt := 390) hx hb dX14_job_307 (by decide) (by decide) (off := 83) rfl (by decide) ?_
                                          refine lv_aload_n hx hb dX14_job_390 rfl (lv_at hl 8 rfl) ?_
                                          refine mm_get (v := .ref (Ar 75)) hx hb hf_X14 (fun _ h9 => h9) hown hK hG hM.1 rfl 75 (by decide) (tb_use hT tw_1466) (fun _ h9 => h9) (mfs_g75 _ _) dX14_job_391 ?_
                                          refine lv_iload hx hb dX14_job_394 (lv_at hl 10 rfl) ?_
                                          refine lv_aload_n hx hb dX14_job_396 rfl (lv_at hl 8 rfl) ?_
                                          refine lv_iload hx hb dX14_job_397 (lv_at hl 7 rfl) ?_
                                          obtain ⟨s9, i9, hs0, hi0⟩ := hVL.ge hnO hj9 hp9 hkd
                                          refine va_calll (va_runV (As := [.int (nI (100 * j9 + p9))]) (rest := [.int (nI m9), .ref (Ar 75)]) ⟨hx, hb, hml, hown, (fun _ h9 => absurd h9 List.not_mem_nil : ∀ w ∈ ([] : List Cond), w.before _ s = true)⟩ (c_M_floor l D cy A X hst hXT Gv o Ar Ij Fj Lj ft en b9 n9 v9 s9 i9 j9 p9 ln f9 js.2.1 hM hBj hVL hn30 hb9 (by exact hbj) hWd hCB (by exact h66j) hln (fun i hi => by rw [hFo 65 (by decide)]; exact hoc i hi) (by omega) (by omega) (hop.2.2.1 hkd) hs0 hi0) (tb_cw (C := RX14) 1 hT tw_1874 tw_109 tw_1871 tw_1873 tw_100 rfl rfl hq_X14_floorValue ⟨Nat.le_of_ble_eq_true rfl, Nat.le_of_ble_eq_true rfl⟩) (mk_preC hst hG hK hA hX hS vc_15 hM.1) rfl rfl hl.1 rfl (lv_room (Nat.le_of_ble_eq_true rfl)) dX14_job_399 ⟨Nat.le_of_ble_eq_true rfl, Nat.le_of_ble_eq_true rfl⟩) hS (fun q _ h => h) (fun q h => h) (fun r49 G50 t H locs ht hvm hw hB hz1 hk1 hS => ?_)
                                          have hG : mm D vwCl A G50 H := by rw [← ht]; exact hB
                                          clear hB hz1 hk1 hvm ht
                                          obtain ⟨er49, F9, L9, hM2, hF2, hf9, hL9⟩ := hw
                                          replace hF := hF.tr hF2; replace hM := hM2; clear hM2 hF2
                                          have hFo9 : ∀ j, ¬ (j = 67 ∨ (71 ≤ j ∧ j ≤ 73)) → F9 j = F j := fun j hj => by rw [hf9 j (by omega)]; exact hFo j hj
                                          have hLo9 : ∀ j, ¬ (j = 74 ∨ j = 75) → L9 j = L j := fun j hj => by rw [hL9 j (by omega)]; exact hLo j hj
                                          refine mm_last (n := mdN 75) (f := L9 75) hx hb hK hG hS 2 (hM.2.2.1 75 rfl) rfl (nI_in (N := mdN 75) (by show _ < 16; omega) (by decide)) dX14_job_402 (fun H locs hG hS => ?_)
                                          have hM := MD.setj (k := 75) (vp_updL (L9 75) (nI m9).toNatClampNeg r49) hM rfl
                                          have hF := hF.wa (k := 75) (e' := .inl (cy 2, mdN 75, .inr (.inl (vp_updL (L9 75) (nI m9).toNatClampNeg r49)))) rfl
                                          obtain ⟨L51, eL51⟩ : ∃ g, g = va_up L9 75 (vp_updL (L9 75) (nI m9).toNatClampNeg r49) := ⟨_, rfl⟩
                                          rw [← eL51] at hM
                                          have hgn := gn_MD hG hM hF
                                          clear hG hM hF
                                          obtain ⟨G52, hG, hM, hF⟩ := hgn
                                          obtain ⟨x53, ex53⟩ : ∃ y : Int32, y = (nI m9) + 1 := ⟨_, rfl⟩
                                          refine lv_iinc (v := x53) (lv' := [(5, .int x53), (8, .int x48), (15, .long x47), (13, .long 0), (12, .int 1), (11, .int 0), (6, .long x40), (10, .int 16), (9, .int (nI (100 * j9 + p9))), (0, .ref o), (4, .int (nI j9))]) hx hb dX14_job_403 hl (k := 10) rfl (by rw [ex53]; rfl) (by decide) rfl (fun ls hl => ?_)
                                          refine lv_goto (tgt := 582) hx hb dX14_job_406 (by decide) ?_
                                          refine lv_goto (tgt := 68) hx hb dX14_job_582 (by decide) ?_
                                          have hrf : rfs js.1.1 (v9.O j9 p9).1 js.2.2.1 = 0 := by rw [hkd, hjp.1, hjo.1]; exact rf_ok (by decide) (by decide) hm16b (show 0 ≤ m9 by omega) (fun _ => by omega) (fun z => absurd z (by decide))
                                          have hjr2 : jrF v9 j9 ln f9 n lf (nI (p9 + 1)) (lyy (gtV v9 ln f9 js.2.1 (v9.O j9 p9)) js.1, gtP v9 ln f9 js.2.1 (v9.O j9 p9), js.2.2) = RJ := by rw [← hjr, jr_st hnO hp9 (by rw [hkd]; decide) (by rw [hkd]; decide) hrf, st_26 hkd]
                                          have hval : r49 = gtV v9 ln f9 js.2.1 (v9.O j9 p9) := er49.trans (fv_gt hWd hCB hkd hs0 hi0)
                                          have hjp2 : JP (lyy (gtV v9 ln f9 js.2.1 (v9.O j9 p9)) js.1) (m9 + 1) (L51 75) := by rw [eL51, va_up_self, hL9 75 (by decide), nI_clamp (by omega), hval]; exact hjp.ly hm16
                                          have hjo2 : JS js.2.2 sz (F9 67) := by rw [hf9 67 (by decide)]; exact hjo
                                          rw [show x48 = nI (p9 + 1) by rw [ex48]; exact (nI_succ p9).symm] at hl
                                          rw [show x53 = nI (m9 + 1) by rw [ex53]; exact (nI_succ m9).symm] at hl
                                          rw [ex40] at hl
                                          have hmu2 : 2 * lf + agN v9 j9 (p9 + 1) < n := by have y := @agN_le v9 j9 (p9 + 1); omega
                                          exact ih (p9 + 1) (m9 + 1) lf sz Ij F9 L51 (lyy (gtV v9 ln f9 js.2.1 (v9.O j9 p9)) js.1, gtP v9 ln f9 js.2.1 (v9.O j9 p9), js.2.2) hmu2 hjr2 hjp2 hjo2 (by omega) (by omega) hIo h38j hbj h66j h68j hsz64 hFo9 (fun j hj => by rw [eL51, va_up_ne _ _ (by omega)]; exact hLo9 j hj) G52 hM hF _ _ hG hS ls (lv_sub hl [9, 10, 0, 6, 1] rfl)
                                      · skip
                                        have hm1 : 0 < m9 := Nat.pos_of_ne_zero (fun y => c_263 (by rw [y]; exact Int32.le_refl 0))
                                        refine lv_aload_n hx hb dX14_job_266 rfl (lv_at hl 5 rfl) ?_
                                        refine mm_get (v := .ref (Ar 75)) hx hb hf_X14 (fun _ h9 => h9) hown hK hG hM.1 rfl 75 (by decide) (tb_use hT tw_1466) (fun _ h9 => h9) (mfs_g75 _ _) dX14_job_267 ?_
                                        refine lv_iload hx hb dX14_job_270 (lv_at hl 7 rfl) ?_
                                        refine lv_iconst (v := 1) hx hb dX14_job_272 (by decide) ?_
                                        refine lv_isub hx hb dX14_job_273 ?_
                                        rw [show ((nI m9) - 1) = nI (m9 - 1) from nI_sb (a := 1) (b := m9) (by omega)]
                                        refine mm_lald (n := 16) (f := Lj 75) hx hb hK hG 2 (hM.2.2.1 75 rfl) rfl (nI_in (N := 16) (by omega) (by decide)) dX14_job_274 ?_
                                        refine lv_topl (fun x54 ex54 => ?_)
                                        refine lv_goto (tgt := 279) hx hb dX14_job_275 (by decide) ?_
                                        refine lv_lstore (lv' := [(13, .long x54), (12, .int 1), (11, .int 0), (6, .long x40), (10, .int 16), (9, .int (nI (100 * j9 + p9))), (0, .ref o), (4, .int (nI j9)), (5, .int (nI m9)), (8, .int (nI p9))]) hx hb dX14_job_279 hl (by decide) rfl (fun ls hl => ?_)
                                        refine lv_iload hx hb dX14_job_281 (lv_at hl 8 rfl) ?_
                                        refine lv_iconst (v := 1) hx hb dX14_job_283 (by decide) ?_
                                        refine lv_icmp_le (tgt := 299) hx hb dX14_job_284 (by decide) (fun c_284 => ?_) (fun c_284 => ?_)
                                        · skip
                                          refine lv_lconst (v := 0) hx hb dX14_job_299 (by decide) ?_
                                          refine lv_lstore (lv' := [(15, .long 0), (13, .long x54), (12, .int 1), (11, .int 0), (6, .long x40), (10, .int 16), (9, .int (nI (100 * j9 + p9))), (0, .ref o), (4, .int (nI j9)), (5, .int (nI m9)), (8, .int (nI p9))]) hx hb dX14_job_300 hl (by decide) rfl (fun ls hl => ?_)
                                          obtain ⟨x55, ex55⟩ : ∃ y : Int32, y = (nI p9) + 1 := ⟨_, rfl⟩
                                          refine lv_iinc (v := x55) (lv' := [(8, .int x55), (15, .long 0), (13, .long x54), (12, .int 1), (11, .int 0), (6, .long x40), (10, .int 16), (9, .int (nI (100 * j9 + p9))), (0, .ref o), (4, .int (nI j9)), (5, .int (nI m9))]) hx hb dX14_job_302 hl (k := 10) rfl (by rw [ex55]; rfl) (by decide) rfl (fun ls hl => ?_)
                                          refine lv_iload hx hb dX14_job_305 (lv_at hl 6 rfl) ?_
                                          refine lv_tableIn (tgt := 390) hx hb dX14_job_307 (by decide) (by decide) (off := 83) rfl (by decide) ?_
                                          refine lv_aload_n hx hb dX14_job_390 rfl (lv_at hl 8 rfl) ?_
                                          refine mm_get (v := .ref (Ar 75)) hx hb hf_X14 (fun _ h9 => h9) hown hK hG hM.1 rfl 75 (by decide) (tb_use hT tw_1466) (fun _ h9 => h9) (mfs_g75 _ _) dX14_job_391 ?_
                                          refine lv_iload hx hb dX14_job_394 (lv_at hl 10 rfl) ?_
                                          refine lv_aload_n hx hb dX14_job_396 rfl (lv_at hl 8 rfl) ?_
                                          refine lv_iload hx hb dX14_job_397 (lv_at hl 7 rfl) ?_
                                          obtain ⟨s9, i9, hs0, hi0⟩ := hVL.ge hnO hj9 hp9 hkd
                                          refine va_calll (va_runV (As := [.int (nI (100 * j9 + p9))]) (rest := [.int (nI m9), .ref (Ar 75)]) ⟨hx, hb, hml, hown, (fun _ h9 => absurd h9 List.not_mem_nil : ∀ w ∈ ([] : List Cond), w.before _ s = true)⟩ (c_M_floor l D cy A X hst hXT Gv o Ar Ij Fj Lj ft en b9 n9 v9 s9 i9 j9 p9 ln f9 js.2.1 hM hBj hVL hn30 hb9 (by exact hbj) hWd hCB (by exact h66j) hln (fun i hi => by rw [hFo 65 (by decide)]; exact hoc i hi) (by omega) (by omega) (hop.2.2.1 hkd) hs0 hi0) (tb_cw (C := RX14) 1 hT tw_1874 tw_109 tw_1871 tw_1873 tw_100 rfl rfl hq_X14_floorValue ⟨Nat.le_of_ble_eq_true rfl, Nat.le_of_ble_eq_true rfl⟩) (mk_preC hst hG hK hA hX hS vc_15 hM.1) rfl rfl hl.1 rfl (lv_room (Nat.le_of_ble_eq_true rfl)) dX14_job_399 ⟨Nat.le_of_ble_eq_true rfl, Nat.le_of_ble_eq_true rfl⟩) hS (fun q _ h => h) (fun q h => h) (fun r56 G57 t H locs ht hvm hw hB hz1 hk1 hS => ?_)
                                          have hG : mm D vwCl A G57 H := by rw [← ht]; exact hB
                                          clear hB hz1 hk1 hvm ht
                                          obtain ⟨er56, F9, L9, hM2, hF2, hf9, hL9⟩ := hw
                                          replace hF := hF.tr hF2; replace hM := hM2; clear hM2 hF2
                                          have hFo9 : ∀ j, ¬ (j = 67 ∨ (71 ≤ j ∧ j ≤ 73)) → F9 j = F j := fun j hj => by rw [hf9 j (by omega)]; exact hFo j hj
                                          have hLo9 : ∀ j, ¬ (j = 74 ∨ j = 75) → L9 j = L j := fun j hj => by rw [hL9 j (by omega)]; exact hLo j hj
                                          refine mm_last (n := mdN 75) (f := L9 75) hx hb hK hG hS 2 (hM.2.2.1 75 rfl) rfl (nI_in (N := mdN 75) (by show _ < 16; omega) (by decide)) dX14_job_402 (fun H locs hG hS => ?_)
                                          have hM := MD.setj (k := 75) (vp_updL (L9 75) (nI m9).toNatClampNeg r56) hM rfl
                                          have hF := hF.wa (k := 75) (e' := .inl (cy 2, mdN 75, .inr (.inl (vp_updL (L9 75) (nI m9).toNatClampNeg r56)))) rfl
                                          obtain ⟨L58, eL58⟩ : ∃ g, g = va_up L9 75 (vp_updL (L9 75) (nI m9).toNatClampNeg r56) := ⟨_, rfl⟩
                                          rw [← eL58] at hM
                                          have hgn := gn_MD hG hM hF
                                          clear hG hM hF
                                          obtain ⟨G59, hG, hM, hF⟩ := hgn
                                          obtain ⟨x60, ex60⟩ : ∃ y : Int32, y = (nI m9) + 1 := ⟨_, rfl⟩
                                          refine lv_iinc (v := x60) (lv' := [(5, .int x60), (8, .int x55), (15, .long 0), (13, .long x54), (12, .int 1), (11, .int 0), (6, .long x40), (10, .int 16), (9, .int (nI (100 * j9 + p9))), (0, .ref o), (4, .int (nI j9))]) hx hb dX14_job_403 hl (k := 10) rfl (by rw [ex60]; rfl) (by decide) rfl (fun ls hl => ?_)
                                          refine lv_goto (tgt := 582) hx hb dX14_job_406 (by decide) ?_
                                          refine lv_goto (tgt := 68) hx hb dX14_job_582 (by decide) ?_
                                          have hrf : rfs js.1.1 (v9.O j9 p9).1 js.2.2.1 = 0 := by rw [hkd, hjp.1, hjo.1]; exact rf_ok (by decide) (by decide) hm16b (show 0 ≤ m9 by omega) (fun _ => by omega) (fun z => absurd z (by decide))
                                          have hjr2 : jrF v9 j9 ln f9 n lf (nI (p9 + 1)) (lyy (gtV v9 ln f9 js.2.1 (v9.O j9 p9)) js.1, gtP v9 ln f9 js.2.1 (v9.O j9 p9), js.2.2) = RJ := by rw [← hjr, jr_st hnO hp9 (by rw [hkd]; decide) (by rw [hkd]; decide) hrf, st_26 hkd]
                                          have hval : r56 = gtV v9 ln f9 js.2.1 (v9.O j9 p9) := er56.trans (fv_gt hWd hCB hkd hs0 hi0)
                                          have hjp2 : JP (lyy (gtV v9 ln f9 js.2.1 (v9.O j9 p9)) js.1) (m9 + 1) (L58 75) := by rw [eL58, va_up_self, hL9 75 (by decide), nI_clamp (by omega), hval]; exact hjp.ly hm16
                                          have hjo2 : JS js.2.2 sz (F9 67) := by rw [hf9 67 (by decide)]; exact hjo
                                          rw [show x55 = nI (p9 + 1) by rw [ex55]; exact (nI_succ p9).symm] at hl
                                          rw [show x60 = nI (m9 + 1) by rw [ex60]; exact (nI_succ m9).symm] at hl
                                          rw [ex40] at hl
                                          have hmu2 : 2 * lf + agN v9 j9 (p9 + 1) < n := by have y := @agN_le v9 j9 (p9 + 1); omega
                                          exact ih (p9 + 1) (m9 + 1) lf sz Ij F9 L58 (lyy (gtV v9 ln f9 js.2.1 (v9.O j9 p9)) js.1, gtP v9 ln f9 js.2.1 (v9.O j9 p9), js.2.2) hmu2 hjr2 hjp2 hjo2 (by omega) (by omega) hIo h38j hbj h66j h68j hsz64 hFo9 (fun j hj => by rw [eL58, va_up_ne _ _ (by omega)]; exact hLo9 j hj) G59 hM hF _ _ hG hS ls (lv_sub hl [9, 10, 0, 6, 1] rfl)
                                        · skip
                                          have hm2 : 1 < m9 := Nat.lt_of_not_le (fun y => c_284 (nI_le (b := 1) y (by decide)))
                                          refine lv_aload_n hx hb dX14_job_287 rfl (lv_at hl 6 rfl) ?_
                                          refine mm_get (v := .ref (Ar 75)) hx hb hf_X14 (fun _ h9 => h9) hown hK hG hM.1 rfl 75 (by decide) (tb_use hT tw_1466) (fun _ h9 => h9) (mfs_g75 _ _) dX14_job_288 ?_
                                          refine lv_iload hx hb dX14_job_291 (lv_at hl 8 rfl) ?_
                                          refine lv_iconst (v := 2) hx hb dX14_job_293 (by decide) ?_
                                          refine lv_isub hx hb dX14_job_294 ?_
                                          rw [show ((nI m9) - 2) = nI (m9 - 2) from nI_sb (a := 2) (b := m9) (by omega)]
                                          refine mm_lald (n := 16) (f := Lj 75) hx hb hK hG 2 (hM.2.2.1 75 rfl) rfl (nI_in (N := 16) (by omega) (by decide)) dX14_job_295 ?_
                                          refine lv_topl (fun x61 ex61 => ?_)
                                          refine lv_goto (tgt := 300) hx hb dX14_job_296 (by decide) ?_
                                          refine lv_lstore (lv' := [(15, .long x61), (13, .long x54), (12, .int 1), (11, .int 0), (6, .long x40), (10, .int 16), (9, .int (nI (100 * j9 + p9))), (0, .ref o), (4, .int (nI j9)), (5, .int (nI m9)), (8, .int (nI p9))]) hx hb dX14_job_300 hl (by decide) rfl (fun ls hl => ?_)
                                          obtain ⟨x62, ex62⟩ : ∃ y : Int32, y = (nI p9) + 1 := ⟨_, rfl⟩
                                          refine lv_iinc (v := x62) (lv' := [(8, .int x62), (15, .long x61), (13, .long x54), (12, .int 1), (11, .int 0), (6, .long x40), (10, .int 16), (9, .int (nI (100 * j9 + p9))), (0, .ref o), (4, .int (nI j9)), (5, .int (nI m9))]) hx hb dX14_job_302 hl (k := 10) rfl (by rw [ex62]; rfl) (by decide) rfl (fun ls hl => ?_)
                                          refine lv_iload hx hb dX14_job_305 (lv_at hl 6 rfl) ?_
                                          refine lv_tableIn (tgt := 390) hx hb dX14_job_307 (by decide) (by decide) (off := 83) rfl (by decide) ?_
                                          refine lv_aload_n hx hb dX14_job_390 rfl (lv_at hl 8 rfl) ?_
                                          refine mm_get (v := .ref (Ar 75)) hx hb hf_X14 (fun _ h9 => h9) hown hK hG hM.1 rfl 75 (by decide) (tb_use hT tw_1466) (fun _ h9 => h9) (mfs_g75 _ _) dX14_job_391 ?_
                                          refine lv_iload hx hb dX14_job_394 (lv_at hl 10 rfl) ?_
                                          refine lv_aload_n hx hb dX14_job_396 rfl (lv_at hl 8 rfl) ?_
                                          refine lv_iload hx hb dX14_job_397 (lv_at hl 7 rfl) ?_
                                          obtain ⟨s9, i9, hs0, hi0⟩ := hVL.ge hnO hj9 hp9 hkd
                                          refine va_calll (va_runV (As := [.int (nI (100 * j9 + p9))]) (rest := [.int (nI m9), .ref (Ar 75)]) ⟨hx, hb, hml, hown, (fun _ h9 => absurd h9 List.not_mem_nil : ∀ w ∈ ([] : List Cond), w.before _ s = true)⟩ (c_M_floor l D cy A X hst hXT Gv o Ar Ij Fj Lj ft en b9 n9 v9 s9 i9 j9 p9 ln f9 js.2.1 hM hBj hVL hn30 hb9 (by exact hbj) hWd hCB (by exact h66j) hln (fun i hi => by rw [hFo 65 (by decide)]; exact hoc i hi) (by omega) (by omega) (hop.2.2.1 hkd) hs0 hi0) (tb_cw (C := RX14) 1 hT tw_1874 tw_109 tw_1871 tw_1873 tw_100 rfl rfl hq_X14_floorValue ⟨Nat.le_of_ble_eq_true rfl, Nat.le_of_ble_eq_true rfl⟩) (mk_preC hst hG hK hA hX hS vc_15 hM.1) rfl rfl hl.1 rfl (lv_room (Nat.le_of_ble_eq_true rfl)) dX14_job_399 ⟨Nat.le_of_ble_eq_true rfl, Nat.le_of_ble_eq_true rfl⟩) hS (fun q _ h => h) (fun q h => h) (fun r63 G64 t H locs ht hvm hw hB hz1 hk1 hS => ?_)
                                          have hG : mm D vwCl A G64 H := by rw [← ht]; exact hB
                                          clear hB hz1 hk1 hvm ht
                                          obtain ⟨er63, F9, L9, hM2, hF2, hf9, hL9⟩ := hw
                                          replace hF := hF.tr hF2; replace hM := hM2; clear hM2 hF2
                                          have hFo9 : ∀ j, ¬ (j = 67 ∨ (71 ≤ j ∧ j ≤ 73)) → F9 j = F j := fun j hj => by rw [hf9 j (by omega)]; exact hFo j hj
                                          have hLo9 : ∀ j, ¬ (j = 74 ∨ j = 75) → L9 j = L j := fun j hj => by rw [hL9 j (by omega)]; exact hLo j hj
                                          refine mm_last (n := mdN 75) (f := L9 75) hx hb hK hG hS 2 (hM.2.2.1 75 rfl) rfl (nI_in (N := mdN 75) (by show _ < 16; omega) (by decide)) dX14_job_402 (fun H locs hG hS => ?_)
                                          have hM := MD.setj (k := 75) (vp_updL (L9 75) (nI m9).toNatClampNeg r63) hM rfl
                                          have hF := hF.wa (k := 75) (e' := .inl (cy 2, mdN 75, .inr (.inl (vp_updL (L9 75) (nI m9).toNatClampNeg r63)))) rfl
                                          obtain ⟨L65, eL65⟩ : ∃ g, g = va_up L9 75 (vp_updL (L9 75) (nI m9).toNatClampNeg r63) := ⟨_, rfl⟩
                                          rw [← eL65] at hM
                                          have hgn := gn_MD hG hM hF
                                          clear hG hM hF
                                          obtain ⟨G66, hG, hM, hF⟩ := hgn
                                          obtain ⟨x67, ex67⟩ : ∃ y : Int32, y = (nI m9) + 1 := ⟨_, rfl⟩
                                          refine lv_iinc (v := x67) (lv' := [(5, .int x67), (8, .int x62), (15, .long x61), (13, .long x54), (12, .int 1), (11, .int 0), (6, .long x40), (10, .int 16), (9, .int (nI (100 * j9 + p9))), (0, .ref o), (4, .int (nI j9))]) hx hb dX14_job_403 hl (k := 10) rfl (by rw [ex67]; rfl) (by decide) rfl (fun ls hl => ?_)
                                          refine lv_goto (tgt := 582) hx hb dX14_job_406 (by decide) ?_
                                          refine lv_goto (tgt := 68) hx hb dX14_job_582 (by decide) ?_
                                          have hrf : rfs js.1.1 (v9.O j9 p9).1 js.2.2.1 = 0 := by rw [hkd, hjp.1, hjo.1]; exact rf_ok (by decide) (by decide) hm16b (show 0 ≤ m9 by omega) (fun _ => by omega) (fun z => absurd z (by decide))
                                          have hjr2 : jrF v9 j9 ln f9 n lf (nI (p9 + 1)) (lyy (gtV v9 ln f9 js.2.1 (v9.O j9 p9)) js.1, gtP v9 ln f9 js.2.1 (v9.O j9 p9), js.2.2) = RJ := by rw [← hjr, jr_st hnO hp9 (by rw [hkd]; decide) (by rw [hkd]; decide) hrf, st_26 hkd]
                                          have hval : r63 = gtV v9 ln f9 js.2.1 (v9.O j9 p9) := er63.trans (fv_gt hWd hCB hkd hs0 hi0)
                                          have hjp2 : JP (lyy (gtV v9 ln f9 js.2.1 (v9.O j9 p9)) js.1) (m9 + 1) (L65 75) := by rw [eL65, va_up_self, hL9 75 (by decide), nI_clamp (by omega), hval]; exact hjp.ly hm16
                                          have hjo2 : JS js.2.2 sz (F9 67) := by rw [hf9 67 (by decide)]; exact hjo
                                          rw [show x62 = nI (p9 + 1) by rw [ex62]; exact (nI_succ p9).symm] at hl
                                          rw [show x67 = nI (m9 + 1) by rw [ex67]; exact (nI_succ m9).symm] at hl
                                          rw [ex40] at hl
                                          have hmu2 : 2 * lf + agN v9 j9 (p9 + 1) < n := by have y := @agN_le v9 j9 (p9 + 1); omega
                                          exact ih (p9 + 1) (m9 + 1) lf sz Ij F9 L65 (lyy (gtV v9 ln f9 js.2.1 (v9.O j9 p9)) js.1, gtP v9 ln f9 js.2.1 (v9.O j9 p9), js.2.2) hmu2 hjr2 hjp2 hjo2 (by omega) (by omega) hIo h38j hbj h66j h68j hsz64 hFo9 (fun j hj => by rw [eL65, va_up_ne _ _ (by omega)]; exact hLo9 j hj) G66 hM hF _ _ hG hS ls (lv_sub hl [9, 10, 0, 6, 1] rfl)
                                    · skip
                                      refine lv_bipush (v := (-3)) hx hb dX14_job_258 (by decide) ?_
                                      have hRJ : RJ = (-3, js) := by rw [← hjr]; exact jr_r hnO hp9 (by rw [hkd]; decide) (by rw [hkd, hjp.1, hjo.1]; exact rf_n3 (by decide) (by decide) hm16b (Or.inr ⟨rfl, nI_inj (b := 16) (by omega) (by decide) c_255⟩)) (by decide)
                                      exact W.iret (v := (-3)) hx hb hr (fun t ht hW => ⟨⟨_, _, rfl, ⟨Ij, Fj, Lj, hM, hF, hIo, h38j, ⟨sz, hsz64, h68j⟩, hFo, hLo, (by rw [hA9, hRJ]), (fun k hk _ => by rw [hoI] at hk; rw [← Option.some.inj hk, hE9, hRJ]; exact ⟨sz, h68j, hjo⟩), (fun z => z.elim (fun z => by rw [hoI] at z; cases z) (fun z => absurd hxr z))⟩, mk_end hG ht⟩, hS.F ht⟩) hS.2.2 dX14_job_260
                              · skip
                                exact absurd (by decide) c_222
                      · skip
                        refine lv_iconst (v := 0) hx hb dX14_job_150 (by decide) ?_
                        have hz0 : lf9 = 0 := by have z := congrArg Int64.toInt ((lg_cmp_eq _ _).mp c_147); rw [i64_on (by omega), show (0 : Int64).toInt = 0 by decide] at z; omega
                        have hRJ : RJ = (0, js) := by rw [← hjr]; exact jr_0 hnO hp9 (by rw [hkd]; decide) hz0
                        exact W.iret (v := 0) hx hb hr (fun t ht hW => ⟨⟨_, _, rfl, ⟨Ij, Fj, Lj, hM, hF, hIo, h38j, ⟨sz, hsz64, h68j⟩, hFo, hLo, (by rw [hA9, hRJ]), (fun k hk _ => by rw [hoI] at hk; rw [← Option.some.inj hk, hE9, hRJ]; exact ⟨sz, h68j, hjo⟩), (fun z => z.elim (fun z => by rw [hoI] at z; cases z) (fun z => absurd hxr z))⟩, mk_end hG ht⟩, hS.F ht⟩) hS.2.2 dX14_job_151
                    · skip
                      exact absurd c_119 (by decide)
                  · skip
                    replace hkd := hkde.trans hkd
                    rw [show x9 = 17 by rw [hx35, hkd]; rfl] at hl
                    refine lv_iload hx hb dX14_job_115 (lv_at hl 0 rfl) ?_
                    refine lv_bipush (v := 25) hx hb dX14_job_117 (by decide) ?_
                    refine lv_icmp_ne (tgt := 143) hx hb dX14_job_119 (by decide) (fun c_119 => ?_) (fun c_119 => ?_)
                    · skip
                      refine lv_lload hx hb dX14_job_143 (lv_at hl 5 rfl) ?_
                      refine lv_lconst (v := 0) hx hb dX14_job_145 (by decide) ?_
                      refine W.lcmp hx hb dX14_job_146 ?_
                      refine lv_if_ne (tgt := 152) hx hb dX14_job_147 (by decide) (fun c_147 => ?_) (fun c_147 => ?_)
                      · skip
                        obtain ⟨lf, hlf⟩ : ∃ y, lf9 = y + 1 := ⟨lf9 - 1, by have y : lf9 ≠ 0 := fun z => c_147 ((lg_cmp_eq _ _).mpr (by rw [z]; rfl)); omega⟩
                        rw [hlf] at hl hmu hjr
                        refine lv_lload hx hb dX14_job_152 (lv_at hl 5 rfl) ?_
                        refine lv_lconst (v := 1) hx hb dX14_job_154 (by decide) ?_
                        refine lv_lsub hx hb dX14_job_155 ?_
                        rw [i64_dec (by omega)]
                        refine lv_topl (fun x69 ex69 => ?_)
                        refine lv_lstore (lv' := [(6, .long x69), (10, .int 17), (9, .int (nI (100 * j9 + p9))), (0, .ref o), (4, .int (nI j9)), (5, .int (nI m9)), (8, .int (nI p9))]) hx hb dX14_job_156 hl (by decide) rfl (fun ls hl => ?_)
                        refine lv_iload hx hb dX14_job_158 (lv_at hl 1 rfl) ?_
                        refine lv_bipush (v := 15) hx hb dX14_job_160 (by decide) ?_
                        refine lv_icmp_eq (tgt := 172) hx hb dX14_job_162 (by decide) (fun c_162 => ?_) (fun c_162 => ?_)
                        · skip
                          exact absurd c_162 (by decide)
                        · skip
                          refine lv_iload hx hb dX14_job_165 (lv_at hl 1 rfl) ?_
                          refine lv_bipush (v := 16) hx hb dX14_job_167 (by decide) ?_
                          refine lv_icmp_ne (tgt := 176) hx hb dX14_job_169 (by decide) (fun c_169 => ?_) (fun c_169 => ?_)
                          · skip
                            refine lv_iload hx hb dX14_job_176 (lv_at hl 1 rfl) ?_
                            refine lv_bipush (v := 17) hx hb dX14_job_178 (by decide) ?_
                            refine lv_icmp_eq (tgt := 204) hx hb dX14_job_180 (by decide) (fun c_180 => ?_) (fun c_180 => ?_)
                            · skip
                              refine lv_iconst (v := 2) hx hb dX14_job_204 (by decide) ?_
                              refine lv_goto (tgt := 209) hx hb dX14_job_205 (by decide) ?_
                              refine lv_istore (lv' := [(11, .int 2), (6, .long x69), (10, .int 17), (9, .int (nI (100 * j9 + p9))), (0, .ref o), (4, .int (nI j9)), (5, .int (nI m9)), (8, .int (nI p9))]) hx hb dX14_job_209 hl (by decide) rfl (fun ls hl => ?_)
                              refine lv_iload hx hb dX14_job_211 (lv_at hl 2 rfl) ?_
                              refine lv_bipush (v := 15) hx hb dX14_job_213 (by decide) ?_
                              refine lv_icmp_eq (tgt := 232) hx hb dX14_job_215 (by decide) (fun c_215 => ?_) (fun c_215 => ?_)
                              · skip
                                exact absurd c_215 (by decide)
                              · skip
                                refine lv_iload hx hb dX14_job_218 (lv_at hl 2 rfl) ?_
                                refine lv_bipush (v := 16) hx hb dX14_job_220 (by decide) ?_
                                refine lv_icmp_eq (tgt := 232) hx hb dX14_job_222 (by decide) (fun c_222 => ?_) (fun c_222 => ?_)
                                · skip
                                  exact absurd c_222 (by decide)
                                · skip
                                  refine lv_iload hx hb dX14_job_225 (lv_at hl 2 rfl) ?_
                                  refine lv_bipush (v := 20) hx hb dX14_job_227 (by decide) ?_
                                  refine lv_icmp_ne (tgt := 236) hx hb dX14_job_229 (by decide) (fun c_229 => ?_) (fun c_229 => ?_)
                                  · skip
                                    refine lv_iconst (v := 0) hx hb dX14_job_236 (by decide) ?_
                                    refine lv_istore (lv' := [(12, .int 0), (11, .int 2), (6, .long x69), (10, .int 17), (9, .int (nI (100 * j9 + p9))), (0, .ref o), (4, .int (nI j9)), (5, .int (nI m9)), (8, .int (nI p9))]) hx hb dX14_job_237 hl (by decide) rfl (fun ls hl => ?_)
                                    refine lv_iload hx hb dX14_job_239 (lv_at hl 7 rfl) ?_
                                    refine lv_iload hx hb dX14_job_241 (lv_at hl 1 rfl) ?_
                                    refine lv_icmp_lt (tgt := 258) hx hb dX14_job_243 (by decide) (fun c_243 => ?_) (fun c_243 => ?_)
                                    · skip
                                      refine lv_bipush (v := (-3)) hx hb dX14_job_258 (by decide) ?_
                                      have hRJ : RJ = (-3, js) := by rw [← hjr]; exact jr_r hnO hp9 (by rw [hkd]; decide) (by rw [hkd, hjp.1, hjo.1]; exact rf_n3 (by decide) (by decide) hm16b (Or.inl ((nI_ltI (b := 2) (by omega) (by decide)).mp c_243))) (by decide)
                                      exact W.iret (v := (-3)) hx hb hr (fun t ht hW => ⟨⟨_, _, rfl, ⟨Ij, Fj, Lj, hM, hF, hIo, h38j, ⟨sz, hsz64, h68j⟩, hFo, hLo, (by rw [hA9, hRJ]), (fun k hk _ => by rw [hoI] at hk; rw [← Option.some.inj hk, hE9, hRJ]; exact ⟨sz, h68j, hjo⟩), (fun z => z.elim (fun z => by rw [hoI] at z; cases z) (fun z => absurd hxr z))⟩, mk_end hG ht⟩, hS.F ht⟩) hS.2.2 dX14_job_260
                                    · skip
                                      refine lv_iload hx hb dX14_job_246 (lv_at hl 0 rfl) ?_
                                      refine lv_if_eq (tgt := 261) hx hb dX14_job_248 (by decide) (fun c_248 => ?_) (fun c_248 => ?_)
                                      · skip
                                        have hmw : 2 ≤ m9 := Nat.le_of_not_lt (fun y => c_243 (nI_lt (b := 2) y (by decide)))
                                        refine lv_iload hx hb dX14_job_261 (lv_at hl 7 rfl) ?_
                                        refine lv_if_le (tgt := 278) hx hb dX14_job_263 (by decide) (fun c_263 => ?_) (fun c_263 => ?_)
                                        · skip
                                          exact absurd c_263 (nI_nle (by omega) (by omega))
                                        · skip
                                          have hm1 : 0 < m9 := Nat.pos_of_ne_zero (fun y => c_263 (by rw [y]; exact Int32.le_refl 0))
                                          refine lv_aload_n hx hb dX14_job_266 rfl (lv_at hl 5 rfl) ?_
                                          refine mm_get (v := .ref (Ar 75)) hx hb hf_X14 (fun _ h9 => h9) hown hK hG hM.1 rfl 75 (by decide) (tb_use hT tw_1466) (fun _ h9 => h9) (mfs_g75 _ _) dX14_job_267 ?_
                                          refine lv_iload hx hb dX14_job_270 (lv_at hl 7 rfl) ?_
                                          refine lv_iconst (v := 1) hx hb dX14_job_272 (by decide) ?_
                                          refine lv_isub hx hb dX14_job_273 ?_
                                          rw [show ((nI m9) - 1) = nI (m9 - 1) from nI_sb (a := 1) (b := m9) (by omega)]
                                          refine mm_lald (n := 16) (f := Lj 75) hx hb hK hG 2 (hM.2.2.1 75 rfl) rfl (nI_in (N := 16) (by omega) (by decide)) dX14_job_274 ?_
                                          refine lv_topl (fun x70 ex70 => ?_)
                                          refine lv_goto (tgt := 279) hx hb dX14_job_275 (by decide) ?_
                                          refine lv_lstore (lv' := [(13, .long x70), (12, .int 0), (11, .int 2), (6, .long x69), (10, .int 17), (9, .int (nI (100 * j9 + p9))), (0, .ref o), (4, .int (nI j9)), (5, .int (nI m9)), (8, .int (nI p9))]) hx hb dX14_job_279 hl (by decide) rfl (fun ls hl => ?_)
                                          refine lv_iload hx hb dX14_job_281 (lv_at hl 8 rfl) ?_
                                          refine lv_iconst (v := 1) hx hb dX14_job_283 (by decide) ?_
                                          refine lv_icmp_le (tgt := 299) hx hb dX14_job_284 (by decide) (fun c_284 => ?_) (fun c_284 => ?_)
                                          · skip
                                            exact absurd c_284 (nI_ge (a := 1) (b := m9) (by omega) (by omega))
                                          · skip
                                            have hm2 : 1 < m9 := Nat.lt_of_not_le (fun y => c_284 (nI_le (b := 1) y (by decide)))
                                            refine lv_aload_n hx hb dX14_job_287 rfl (lv_at hl 6 rfl) ?_
                                            refine mm_get (v := .ref (Ar 75)) hx hb hf_X14 (fun _ h9 => h9) hown hK hG hM.1 rfl 75 (by decide) (tb_use hT tw_1466) (fun _ h9 => h9) (mfs_g75 _ _) dX14_job_288 ?_
                                            refine lv_iload hx hb dX14_job_291 (lv_at hl 8 rfl) ?_
                                            refine lv_iconst (v := 2) hx hb dX14_job_293 (by decide) ?_
                                            refine lv_isub hx hb dX14_job_294 ?_
                                            rw [show ((nI m9) - 2) = nI (m9 - 2) from nI_sb (a := 2) (b := m9) (by omega)]
                                            refine mm_lald (n := 16) (f := Lj 75) hx hb hK hG 2 (hM.2.2.1 75 rfl) rfl (nI_in (N := 16) (by omega) (by decide)) dX14_job_295 ?_
                                            refine lv_topl (fun x71 ex71 => ?_)
                                            refine lv_goto (tgt := 300) hx hb dX14_job_296 (by decide) ?_
                                            refine lv_lstore (lv' := [(15, .long x71), (13, .long x70), (12, .int 0), (11, .int 2), (6, .long x69), (10, .int 17), (9, .int (nI (100 * j9 + p9))), (0, .ref o), (4, .int (nI j9)), (5, .int (nI m9)), (8, .int (nI p9))]) hx hb dX14_job_300 hl (by decide) rfl (fun ls hl => ?_)
                                            obtain ⟨x72, ex72⟩ : ∃ y : Int32, y = (nI p9) + 1 := ⟨_, rfl⟩
                                            refine lv_iinc (v := x72) (lv' := [(8, .int x72), (15, .long x71), (13, .long x70), (12, .int 0), (11, .int 2), (6, .long x69), (10, .int 17), (9, .int (nI (100 * j9 + p9))), (0, .ref o), (4, .int (nI j9)), (5, .int (nI m9))]) hx hb dX14_job_302 hl (k := 10) rfl (by rw [ex72]; rfl) (by decide) rfl (fun ls hl => ?_)
                                            refine lv_iload hx hb dX14_job_305 (lv_at hl 6 rfl) ?_
                                            refine lv_tableIn (tgt := 449) hx hb dX14_job_307 (by decide) (by decide) (off := 142) rfl (by decide) ?_
                                            obtain ⟨x73, ex73⟩ : ∃ y : Int32, y = (nI m9) + (-1) := ⟨_, rfl⟩
                                            refine lv_iinc (v := x73) (lv' := [(5, .int x73), (8, .int x72), (15, .long x71), (13, .long x70), (12, .int 0), (11, .int 2), (6, .long x69), (10, .int 17), (9, .int (nI (100 * j9 + p9))), (0, .ref o), (4, .int (nI j9))]) hx hb dX14_job_449 hl (k := 10) rfl (by rw [ex73]; rfl) (by decide) rfl (fun ls hl => ?_)
                                            refine lv_aload_n hx hb dX14_job_452 rfl (lv_at hl 9 rfl) ?_
                                            refine mm_get (v := .ref (Ar 75)) hx hb hf_X14 (fun _ h9 => h9) hown hK hG hM.1 rfl 75 (by decide) (tb_use hT tw_1466) (fun _ h9 => h9) (mfs_g75 _ _) dX14_job_453 ?_
                                            refine lv_iload hx hb dX14_job_456 (lv_at hl 0 rfl) ?_
                                            refine lv_iconst (v := 1) hx hb dX14_job_458 (by decide) ?_
                                            refine lv_isub hx hb dX14_job_459 ?_
                                            rw [show (x73 - 1) = nI (m9 - 2) by rw [ex73, ← Int32.sub_eq_add_neg, show nI m9 - 1 = nI (m9 - 1) from nI_sb (a := 1) (b := m9) (by omega)]; exact (nI_sb (a := 1) (b := m9 - 1) (by omega)).trans (by rw [show m9 - 1 - 1 = m9 - 2 by omega])]
                                            refine lv_iload hx hb dX14_job_460 (lv_at hl 7 rfl) ?_
                                            refine lv_bipush (v := 17) hx hb dX14_job_462 (by decide) ?_
                                            refine lv_icmp_ne (tgt := 475) hx hb dX14_job_464 (by decide) (fun c_464 => ?_) (fun c_464 => ?_)
                                            · skip
                                              exact absurd (by decide) c_464
                                            · skip
                                              refine lv_lload hx hb dX14_job_467 (lv_at hl 2 rfl) ?_
                                              refine lv_lload hx hb dX14_job_469 (lv_at hl 3 rfl) ?_
                                              refine lv_ladd hx hb dX14_job_471 ?_
                                              refine lv_goto (tgt := 495) hx hb dX14_job_472 (by decide) ?_
                                              refine lv_topl (fun x74 ex74 => ?_)
                                              refine mm_last (n := mdN 75) (f := Lj 75) hx hb hK hG hS 2 (hM.2.2.1 75 rfl) rfl (nI_in (N := mdN 75) (by show _ < 16; omega) (by decide)) dX14_job_495 (fun H locs hG hS => ?_)
                                              have hM := MD.setj (k := 75) (vp_updL (Lj 75) (nI (m9 - 2)).toNatClampNeg x74) hM rfl
                                              have hF := hF.wa (k := 75) (e' := .inl (cy 2, mdN 75, .inr (.inl (vp_updL (Lj 75) (nI (m9 - 2)).toNatClampNeg x74)))) rfl
                                              obtain ⟨L75, eL75⟩ : ∃ g, g = va_up Lj 75 (vp_updL (Lj 75) (nI (m9 - 2)).toNatClampNeg x74) := ⟨_, rfl⟩
                                              rw [← eL75] at hM
                                              have hgn := gn_MD hG hM hF
                                              clear hG hM hF
                                              obtain ⟨G76, hG, hM, hF⟩ := hgn
                                              refine lv_goto (tgt := 582) hx hb dX14_job_496 (by decide) ?_
                                              refine lv_goto (tgt := 68) hx hb dX14_job_582 (by decide) ?_
                                              have hrf : rfs js.1.1 (v9.O j9 p9).1 js.2.2.1 = 0 := by rw [hkd, hjp.1, hjo.1]; exact rf_ok (by decide) (by decide) hm16b (show 2 ≤ m9 by omega) (fun z => absurd z (by decide)) (fun z => absurd z (by decide))
                                              have hjr2 : jrF v9 j9 ln f9 n lf (nI (p9 + 1)) (lyy (lft (ldn js.1) + lft js.1) (ldn (ldn js.1)), js.2) = RJ := by rw [← hjr, jr_st hnO hp9 (by rw [hkd]; decide) (by rw [hkd]; decide) hrf, st_27 hkd]
                                              have hupp : x70 = Lj 75 (m9 - 1) := by rw [ex70, nI_clamp (by omega)]
                                              have hlow : x71 = Lj 75 (m9 - 2) := by rw [ex71, nI_clamp (by omega)]
                                              have hjp2 : JP (lyy (lft (ldn js.1) + lft js.1) (ldn (ldn js.1))) (m9 - 1) (L75 75) := by rw [eL75, va_up_self, nI_clamp (by omega), ex74, hupp, hlow, hjp.l2 (by omega), hjp.lf (by omega)]; exact hjp.op2 (by omega)
                                              rw [show x72 = nI (p9 + 1) by rw [ex72]; exact (nI_succ p9).symm] at hl
                                              rw [show x73 = nI (m9 - 1) by rw [ex73, ← Int32.sub_eq_add_neg]; exact nI_sb (a := 1) (b := m9) (by omega)] at hl
                                              rw [ex69] at hl
                                              have hmu2 : 2 * lf + agN v9 j9 (p9 + 1) < n := by have y := @agN_le v9 j9 (p9 + 1); omega
                                              exact ih (p9 + 1) (m9 - 1) lf sz Ij Fj L75 (lyy (lft (ldn js.1) + lft js.1) (ldn (ldn js.1)), js.2) hmu2 hjr2 hjp2 hjo (by omega) (by omega) hIo h38j hbj h66j h68j hsz64 hFo (fun j hj => by rw [eL75, va_up_ne _ _ (by omega)]; exact hLo j hj) G76 hM hF _ _ hG hS ls (lv_sub hl [9, 10, 0, 6, 1] rfl)
                                      · skip
                                        exact absurd (by decide) c_248
                                  · skip
                                    exact absurd c_229 (by decide)
                            · skip
                              exact absurd (by decide) c_180
                          · skip
                            exact absurd c_169 (by decide)
                      · skip
                        refine lv_iconst (v := 0) hx hb dX14_job_150 (by decide) ?_
                        have hz0 : lf9 = 0 := by have z := congrArg Int64.toInt ((lg_cmp_eq _ _).mp c_147); rw [i64_on (by omega), show (0 : Int64).toInt = 0 by decide] at z; omega
                        have hRJ : RJ = (0, js) := by rw [← hjr]; exact jr_0 hnO hp9 (by rw [hkd]; decide) hz0
                        exact W.iret (v := 0) hx hb hr (fun t ht hW => ⟨⟨_, _, rfl, ⟨Ij, Fj, Lj, hM, hF, hIo, h38j, ⟨sz, hsz64, h68j⟩, hFo, hLo, (by rw [hA9, hRJ]), (fun k hk _ => by rw [hoI] at hk; rw [← Option.some.inj hk, hE9, hRJ]; exact ⟨sz, h68j, hjo⟩), (fun z => z.elim (fun z => by rw [hoI] at z; cases z) (fun z => absurd hxr z))⟩, mk_end hG ht⟩, hS.F ht⟩) hS.2.2 dX14_job_151
                    · skip
                      exact absurd c_119 (by decide)
                  · skip
                    replace hkd := hkde.trans hkd
                    rw [show x9 = 18 by rw [hx35, hkd]; rfl] at hl
                    refine lv_iload hx hb dX14_job_115 (lv_at hl 0 rfl) ?_
                    refine lv_bipush (v := 25) hx hb dX14_job_117 (by decide) ?_
                    refine lv_icmp_ne (tgt := 143) hx hb dX14_job_119 (by decide) (fun c_119 => ?_) (fun c_119 => ?_)
                    · skip
                      refine lv_lload hx hb dX14_job_143 (lv_at hl 5 rfl) ?_
                      refine lv_lconst (v := 0) hx hb dX14_job_145 (by decide) ?_
                      refine W.lcmp hx hb dX14_job_146 ?_
                      refine lv_if_ne (tgt := 152) hx hb dX14_job_147 (by decide) (fun c_147 => ?_) (fun c_147 => ?_)
                      · skip
                        obtain ⟨lf, hlf⟩ : ∃ y, lf9 = y + 1 := ⟨lf9 - 1, by have y : lf9 ≠ 0 := fun z => c_147 ((lg_cmp_eq _ _).mpr (by rw [z]; rfl)); omega⟩
                        rw [hlf] at hl hmu hjr
                        refine lv_lload hx hb dX14_job_152 (lv_at hl 5 rfl) ?_
                        refine lv_lconst (v := 1) hx hb dX14_job_154 (by decide) ?_
                        refine lv_lsub hx hb dX14_job_155 ?_
                        rw [i64_dec (by omega)]
                        refine lv_topl (fun x78 ex78 => ?_)
                        refine lv_lstore (lv' := [(6, .long x78), (10, .int 18), (9, .int (nI (100 * j9 + p9))), (0, .ref o), (4, .int (nI j9)), (5, .int (nI m9)), (8, .int (nI p9))]) hx hb dX14_job_156 hl (by decide) rfl (fun ls hl => ?_)
                        refine lv_iload hx hb dX14_job_158 (lv_at hl 1 rfl) ?_
                        refine lv_bipush (v := 15) hx hb dX14_job_160 (by decide) ?_
                        refine lv_icmp_eq (tgt := 172) hx hb dX14_job_162 (by decide) (fun c_162 => ?_) (fun c_162 => ?_)
                        · skip
                          exact absurd c_162 (by decide)
                        · skip
                          refine lv_iload hx hb dX14_job_165 (lv_at hl 1 rfl) ?_
                          refine lv_bipush (v := 16) hx hb dX14_job_167 (by decide) ?_
                          refine lv_icmp_ne (tgt := 176) hx hb dX14_job_169 (by decide) (fun c_169 => ?_) (fun c_169 => ?_)
                          · skip
                            refine lv_iload hx hb dX14_job_176 (lv_at hl 1 rfl) ?_
                            refine lv_bipush (v := 17) hx hb dX14_job_178 (by decide) ?_
                            refine lv_icmp_eq (tgt := 204) hx hb dX14_job_180 (by decide) (fun c_180 => ?_) (fun c_180 => ?_)
                            · skip
                              exact absurd c_180 (by decide)
                            · skip
                              refine lv_iload hx hb dX14_job_183 (lv_at hl 1 rfl) ?_
                              refine lv_bipush (v := 18) hx hb dX14_job_185 (by decide) ?_
                              refine lv_icmp_eq (tgt := 204) hx hb dX14_job_187 (by decide) (fun c_187 => ?_) (fun c_187 => ?_)
                              · skip
                                refine lv_iconst (v := 2) hx hb dX14_job_204 (by decide) ?_
                                refine lv_goto (tgt := 209) hx hb dX14_job_205 (by decide) ?_
                                refine lv_istore (lv' := [(11, .int 2), (6, .long x78), (10, .int 18), (9, .int (nI (100 * j9 + p9))), (0, .ref o), (4, .int (nI j9)), (5, .int (nI m9)), (8, .int (nI p9))]) hx hb dX14_job_209 hl (by decide) rfl (fun ls hl => ?_)
                                refine lv_iload hx hb dX14_job_211 (lv_at hl 2 rfl) ?_
                                refine lv_bipush (v := 15) hx hb dX14_job_213 (by decide) ?_
                                refine lv_icmp_eq (tgt := 232) hx hb dX14_job_215 (by decide) (fun c_215 => ?_) (fun c_215 => ?_)
                                · skip
                                  exact absurd c_215 (by decide)
                                · skip
                                  refine lv_iload hx hb dX14_job_218 (lv_at hl 2 rfl) ?_
                                  refine lv_bipush (v := 16) hx hb dX14_job_220 (by decide) ?_
                                  refine lv_icmp_eq (tgt := 232) hx hb dX14_job_222 (by decide) (fun c_222 => ?_) (fun c_222 => ?_)
                                  · skip
                                    exact absurd c_222 (by decide)
                                  · skip
                                    refine lv_iload hx hb dX14_job_225 (lv_at hl 2 rfl) ?_
                                    refine lv_bipush (v := 20) hx hb dX14_job_227 (by decide) ?_
                                    refine lv_icmp_ne (tgt := 236) hx hb dX14_job_229 (by decide) (fun c_229 => ?_) (fun c_229 => ?_)
                                    · skip
                                      refine lv_iconst (v := 0) hx hb dX14_job_236 (by decide) ?_
                                      refine lv_istore (lv' := [(12, .int 0), (11, .int 2), (6, .long x78), (10, .int 18), (9, .int (nI (100 * j9 + p9))), (0, .ref o), (4, .int (nI j9)), (5, .int (nI m9)), (8, .int (nI p9))]) hx hb dX14_job_237 hl (by decide) rfl (fun ls hl => ?_)
                                      refine lv_iload hx hb dX14_job_239 (lv_at hl 7 rfl) ?_
                                      refine lv_iload hx hb dX14_job_241 (lv_at hl 1 rfl) ?_
                                      refine lv_icmp_lt (tgt := 258) hx hb dX14_job_243 (by decide) (fun c_243 => ?_) (fun c_243 => ?_)
                                      · skip
                                        refine lv_bipush (v := (-3)) hx hb dX14_job_258 (by decide) ?_
                                        have hRJ : RJ = (-3, js) := by rw [← hjr]; exact jr_r hnO hp9 (by rw [hkd]; decide) (by rw [hkd, hjp.1, hjo.1]; exact rf_n3 (by decide) (by decide) hm16b (Or.inl ((nI_ltI (b := 2) (by omega) (by decide)).mp c_243))) (by decide)
                                        exact W.iret (v := (-3)) hx hb hr (fun t ht hW => ⟨⟨_, _, rfl, ⟨Ij, Fj, Lj, hM, hF, hIo, h38j, ⟨sz, hsz64, h68j⟩, hFo, hLo, (by rw [hA9, hRJ]), (fun k hk _ => by rw [hoI] at hk; rw [← Option.some.inj hk, hE9, hRJ]; exact ⟨sz, h68j, hjo⟩), (fun z => z.elim (fun z => by rw [hoI] at z; cases z) (fun z => absurd hxr z))⟩, mk_end hG ht⟩, hS.F ht⟩) hS.2.2 dX14_job_260
                                      · skip
                                        refine lv_iload hx hb dX14_job_246 (lv_at hl 0 rfl) ?_
                                        refine lv_if_eq (tgt := 261) hx hb dX14_job_248 (by decide) (fun c_248 => ?_) (fun c_248 => ?_)
                                        · skip
                                          have hmw : 2 ≤ m9 := Nat.le_of_not_lt (fun y => c_243 (nI_lt (b := 2) y (by decide)))
                                          refine lv_iload hx hb dX14_job_261 (lv_at hl 7 rfl) ?_
                                          refine lv_if_le (tgt := 278) hx hb dX14_job_263 (by decide) (fun c_263 => ?_) (fun c_263 => ?_)
                                          · skip
                                            exact absurd c_263 (nI_nle (by omega) (by omega))
                                          · skip
                                            have hm1 : 0 < m9 := Nat.pos_of_ne_zero (fun y => c_263 (by rw [y]; exact Int32.le_refl 0))
                                            refine lv_aload_n hx hb dX14_job_266 rfl (lv_at hl 5 rfl) ?_
                                            refine mm_get (v := .ref (Ar 75)) hx hb hf_X14 (fun _ h9 => h9) hown hK hG hM.1 rfl 75 (by decide) (tb_use hT tw_1466) (fun _ h9 => h9) (mfs_g75 _ _) dX14_job_267 ?_
                                            refine lv_iload hx hb dX14_job_270 (lv_at hl 7 rfl) ?_
                                            refine lv_iconst (v := 1) hx hb dX14_job_272 (by decide) ?_
                                            refine lv_isub hx hb dX14_job_273 ?_
                                            rw [show ((nI m9) - 1) = nI (m9 - 1) from nI_sb (a := 1) (b := m9) (by omega)]
                                            refine mm_lald (n := 16) (f := Lj 75) hx hb hK hG 2 (hM.2.2.1 75 rfl) rfl (nI_in (N := 16) (by omega) (by decide)) dX14_job_274 ?_
                                            refine lv_topl (fun x79 ex79 => ?_)
                                            refine lv_goto (tgt := 279) hx hb dX14_job_275 (by decide) ?_
                                            refine lv_lstore (lv' := [(13, .long x79), (12, .int 0), (11, .int 2), (6, .long x78), (10, .int 18), (9, .int (nI (100 * j9 + p9))), (0, .ref o), (4, .int (nI j9)), (5, .int (nI m9)), (8, .int (nI p9))]) hx hb dX14_job_279 hl (by decide) rfl (fun ls hl => ?_)
                                            refine lv_iload hx hb dX14_job_281 (lv_at hl 8 rfl) ?_
                                            refine lv_iconst (v := 1) hx hb dX14_job_283 (by decide) ?_
                                            refine lv_icmp_le (tgt := 299) hx hb dX14_job_284 (by decide) (fun c_284 => ?_) (fun c_284 => ?_)
                                            · skip
                                              exact absurd c_284 (nI_ge (a := 1) (b := m9) (by omega) (by omega))
                                            · skip
                                              have hm2 : 1 < m9 := Nat.lt_of_not_le (fun y => c_284 (nI_le (b := 1) y (by decide)))
                                              refine lv_aload_n hx hb dX14_job_287 rfl (lv_at hl 6 rfl) ?_
                                              refine mm_get (v := .ref (Ar 75)) hx hb hf_X14 (fun _ h9 => h9) hown hK hG hM.1 rfl 75 (by decide) (tb_use hT tw_1466) (fun _ h9 => h9) (mfs_g75 _ _) dX14_job_288 ?_
                                              refine lv_iload hx hb dX14_job_291 (lv_at hl 8 rfl) ?_
                                              refine lv_iconst (v := 2) hx hb dX14_job_293 (by decide) ?_
                                              refine lv_isub hx hb dX14_job_294 ?_
                                              rw [show ((nI m9) - 2) = nI (m9 - 2) from nI_sb (a := 2) (b := m9) (by omega)]
                                              refine mm_lald (n := 16) (f := Lj 75) hx hb hK hG 2 (hM.2.2.1 75 rfl) rfl (nI_in (N := 16) (by omega) (by decide)) dX14_job_295 ?_
                                              refine lv_topl (fun x80 ex80 => ?_)
                                              refine lv_goto (tgt := 300) hx hb dX14_job_296 (by decide) ?_
                                              refine lv_lstore (lv' := [(15, .long x80), (13, .long x79), (12, .int 0), (11, .int 2), (6, .long x78), (10, .int 18), (9, .int (nI (100 * j9 + p9))), (0, .ref o), (4, .int (nI j9)), (5, .int (nI m9)), (8, .int (nI p9))]) hx hb dX14_job_300 hl (by decide) rfl (fun ls hl => ?_)
                                              obtain ⟨x81, ex81⟩ : ∃ y : Int32, y = (nI p9) + 1 := ⟨_, rfl⟩
                                              refine lv_iinc (v := x81) (lv' := [(8, .int x81), (15, .long x80), (13, .long x79), (12, .int 0), (11, .int 2), (6, .long x78), (10, .int 18), (9, .int (nI (100 * j9 + p9))), (0, .ref o), (4, .int (nI j9)), (5, .int (nI m9))]) hx hb dX14_job_302 hl (k := 10) rfl (by rw [ex81]; rfl) (by decide) rfl (fun ls hl => ?_)
                                              refine lv_iload hx hb dX14_job_305 (lv_at hl 6 rfl) ?_
                                              refine lv_tableIn (tgt := 449) hx hb dX14_job_307 (by decide) (by decide) (off := 142) rfl (by decide) ?_
                                              obtain ⟨x82, ex82⟩ : ∃ y : Int32, y = (nI m9) + (-1) := ⟨_, rfl⟩
                                              refine lv_iinc (v := x82) (lv' := [(5, .int x82), (8, .int x81), (15, .long x80), (13, .long x79), (12, .int 0), (11, .int 2), (6, .long x78), (10, .int 18), (9, .int (nI (100 * j9 + p9))), (0, .ref o), (4, .int (nI j9))]) hx hb dX14_job_449 hl (k := 10) rfl (by rw [ex82]; rfl) (by decide) rfl (fun ls hl => ?_)
                                              refine lv_aload_n hx hb dX14_job_452 rfl (lv_at hl 9 rfl) ?_
                                              refine mm_get (v := .ref (Ar 75)) hx hb hf_X14 (fun _ h9 => h9) hown hK hG hM.1 rfl 75 (by decide) (tb_use hT tw_1466) (fun _ h9 => h9) (mfs_g75 _ _) dX14_job_453 ?_
                                              refine lv_iload hx hb dX14_job_456 (lv_at hl 0 rfl) ?_
                                              refine lv_iconst (v := 1) hx hb dX14_job_458 (by decide) ?_
                                              refine lv_isub hx hb dX14_job_459 ?_
                                              rw [show (x82 - 1) = nI (m9 - 2) by rw [ex82, ← Int32.sub_eq_add_neg, show nI m9 - 1 = nI (m9 - 1) from nI_sb (a := 1) (b := m9) (by omega)]; exact (nI_sb (a := 1) (b := m9 - 1) (by omega)).trans (by rw [show m9 - 1 - 1 = m9 - 2 by omega])]
                                              refine lv_iload hx hb dX14_job_460 (lv_at hl 7 rfl) ?_
                                              refine lv_bipush (v := 17) hx hb dX14_job_462 (by decide) ?_
                                              refine lv_icmp_ne (tgt := 475) hx hb dX14_job_464 (by decide) (fun c_464 => ?_) (fun c_464 => ?_)
                                              · skip
                                                refine lv_iload hx hb dX14_job_475 (lv_at hl 7 rfl) ?_
                                                refine lv_bipush (v := 18) hx hb dX14_job_477 (by decide) ?_
                                                refine lv_icmp_ne (tgt := 490) hx hb dX14_job_479 (by decide) (fun c_479 => ?_) (fun c_479 => ?_)
                                                · skip
                                                  exact absurd (by decide) c_479
                                                · skip
                                                  refine lv_lload hx hb dX14_job_482 (lv_at hl 2 rfl) ?_
                                                  refine lv_lload hx hb dX14_job_484 (lv_at hl 3 rfl) ?_
                                                  refine lv_lsub hx hb dX14_job_486 ?_
                                                  refine lv_goto (tgt := 495) hx hb dX14_job_487 (by decide) ?_
                                                  refine lv_topl (fun x83 ex83 => ?_)
                                                  refine mm_last (n := mdN 75) (f := Lj 75) hx hb hK hG hS 2 (hM.2.2.1 75 rfl) rfl (nI_in (N := mdN 75) (by show _ < 16; omega) (by decide)) dX14_job_495 (fun H locs hG hS => ?_)
                                                  have hM := MD.setj (k := 75) (vp_updL (Lj 75) (nI (m9 - 2)).toNatClampNeg x83) hM rfl
                                                  have hF := hF.wa (k := 75) (e' := .inl (cy 2, mdN 75, .inr (.inl (vp_updL (Lj 75) (nI (m9 - 2)).toNatClampNeg x83)))) rfl
                                                  obtain ⟨L84, eL84⟩ : ∃ g, g = va_up Lj 75 (vp_updL (Lj 75) (nI (m9 - 2)).toNatClampNeg x83) := ⟨_, rfl⟩
                                                  rw [← eL84] at hM
                                                  have hgn := gn_MD hG hM hF
                                                  clear hG hM hF
                                                  obtain ⟨G85, hG, hM, hF⟩ := hgn
                                                  refine lv_goto (tgt := 582) hx hb dX14_job_496 (by decide) ?_
                                                  refine lv_goto (tgt := 68) hx hb dX14_job_582 (by decide) ?_
                                                  have hrf : rfs js.1.1 (v9.O j9 p9).1 js.2.2.1 = 0 := by rw [hkd, hjp.1, hjo.1]; exact rf_ok (by decide) (by decide) hm16b (show 2 ≤ m9 by omega) (fun z => absurd z (by decide)) (fun z => absurd z (by decide))
                                                  have hjr2 : jrF v9 j9 ln f9 n lf (nI (p9 + 1)) (lyy (lft (ldn js.1) - lft js.1) (ldn (ldn js.1)), js.2) = RJ := by rw [← hjr, jr_st hnO hp9 (by rw [hkd]; decide) (by rw [hkd]; decide) hrf, st_28 hkd]
                                                  have hupp : x79 = Lj 75 (m9 - 1) := by rw [ex79, nI_clamp (by omega)]
                                                  have hlow : x80 = Lj 75 (m9 - 2) := by rw [ex80, nI_clamp (by omega)]
                                                  have hjp2 : JP (lyy (lft (ldn js.1) - lft js.1) (ldn (ldn js.1))) (m9 - 1) (L84 75) := by rw [eL84, va_up_self, nI_clamp (by omega), ex83, hupp, hlow, hjp.l2 (by omega), hjp.lf (by omega)]; exact hjp.op2 (by omega)
                                                  rw [show x81 = nI (p9 + 1) by rw [ex81]; exact (nI_succ p9).symm] at hl
                                                  rw [show x82 = nI (m9 - 1) by rw [ex82, ← Int32.sub_eq_add_neg]; exact nI_sb (a := 1) (b := m9) (by omega)] at hl
                                                  rw [ex78] at hl
                                                  have hmu2 : 2 * lf + agN v9 j9 (p9 + 1) < n := by have y := @agN_le v9 j9 (p9 + 1); omega
                                                  exact ih (p9 + 1) (m9 - 1) lf sz Ij Fj L84 (lyy (lft (ldn js.1) - lft js.1) (ldn (ldn js.1)), js.2) hmu2 hjr2 hjp2 hjo (by omega) (by omega) hIo h38j hbj h66j h68j hsz64 hFo (fun j hj => by rw [eL84, va_up_ne _ _ (by omega)]; exact hLo j hj) G85 hM hF _ _ hG hS ls (lv_sub hl [9, 10, 0, 6, 1] rfl)
                                              · skip
                                                exact absurd c_464 (by decide)
                                        · skip
                                          exact absurd (by decide) c_248
                                    · skip
                                      exact absurd c_229 (by decide)
                              · skip
                                exact absurd (by decide) c_187
                          · skip
                            exact absurd c_169 (by decide)
                      · skip
                        refine lv_iconst (v := 0) hx hb dX14_job_150 (by decide) ?_
                        have hz0 : lf9 = 0 := by have z := congrArg Int64.toInt ((lg_cmp_eq _ _).mp c_147); rw [i64_on (by omega), show (0 : Int64).toInt = 0 by decide] at z; omega
                        have hRJ : RJ = (0, js) := by rw [← hjr]; exact jr_0 hnO hp9 (by rw [hkd]; decide) hz0
                        exact W.iret (v := 0) hx hb hr (fun t ht hW => ⟨⟨_, _, rfl, ⟨Ij, Fj, Lj, hM, hF, hIo, h38j, ⟨sz, hsz64, h68j⟩, hFo, hLo, (by rw [hA9, hRJ]), (fun k hk _ => by rw [hoI] at hk; rw [← Option.some.inj hk, hE9, hRJ]; exact ⟨sz, h68j, hjo⟩), (fun z => z.elim (fun z => by rw [hoI] at z; cases z) (fun z => absurd hxr z))⟩, mk_end hG ht⟩, hS.F ht⟩) hS.2.2 dX14_job_151
                    · skip
                      exact absurd c_119 (by decide)
                  · skip
                    replace hkd := hkde.trans hkd
                    rw [show x9 = 19 by rw [hx35, hkd]; rfl] at hl
                    refine lv_iload hx hb dX14_job_115 (lv_at hl 0 rfl) ?_
                    refine lv_bipush (v := 25) hx hb dX14_job_117 (by decide) ?_
                    refine lv_icmp_ne (tgt := 143) hx hb dX14_job_119 (by decide) (fun c_119 => ?_) (fun c_119 => ?_)
                    · skip
                      refine lv_lload hx hb dX14_job_143 (lv_at hl 5 rfl) ?_
                      refine lv_lconst (v := 0) hx hb dX14_job_145 (by decide) ?_
                      refine W.lcmp hx hb dX14_job_146 ?_
                      refine lv_if_ne (tgt := 152) hx hb dX14_job_147 (by decide) (fun c_147 => ?_) (fun c_147 => ?_)
                      · skip
                        obtain ⟨lf, hlf⟩ : ∃ y, lf9 = y + 1 := ⟨lf9 - 1, by have y : lf9 ≠ 0 := fun z => c_147 ((lg_cmp_eq _ _).mpr (by rw [z]; rfl)); omega⟩
                        rw [hlf] at hl hmu hjr
                        refine lv_lload hx hb dX14_job_152 (lv_at hl 5 rfl) ?_
                        refine lv_lconst (v := 1) hx hb dX14_job_154 (by decide) ?_
                        refine lv_lsub hx hb dX14_job_155 ?_
                        rw [i64_dec (by omega)]
                        refine lv_topl (fun x87 ex87 => ?_)
                        refine lv_lstore (lv' := [(6, .long x87), (10, .int 19), (9, .int (nI (100 * j9 + p9))), (0, .ref o), (4, .int (nI j9)), (5, .int (nI m9)), (8, .int (nI p9))]) hx hb dX14_job_156 hl (by decide) rfl (fun ls hl => ?_)
                        refine lv_iload hx hb dX14_job_158 (lv_at hl 1 rfl) ?_
                        refine lv_bipush (v := 15) hx hb dX14_job_160 (by decide) ?_
                        refine lv_icmp_eq (tgt := 172) hx hb dX14_job_162 (by decide) (fun c_162 => ?_) (fun c_162 => ?_)
                        · skip
                          exact absurd c_162 (by decide)
                        · skip
                          refine lv_iload hx hb dX14_job_165 (lv_at hl 1 rfl) ?_
                          refine lv_bipush (v := 16) hx hb dX14_job_167 (by decide) ?_
                          refine lv_icmp_ne (tgt := 176) hx hb dX14_job_169 (by decide) (fun c_169 => ?_) (fun c_169 => ?_)
                          · skip
                            refine lv_iload hx hb dX14_job_176 (lv_at hl 1 rfl) ?_
                            refine lv_bipush (v := 17) hx hb dX14_job_178 (by decide) ?_
                            refine lv_icmp_eq (tgt := 204) hx hb dX14_job_180 (by decide) (fun c_180 => ?_) (fun c_180 => ?_)
                            · skip
                              exact absurd c_180 (by decide)
                            · skip
                              refine lv_iload hx hb dX14_job_183 (lv_at hl 1 rfl) ?_
                              refine lv_bipush (v := 18) hx hb dX14_job_185 (by decide) ?_
                              refine lv_icmp_eq (tgt := 204) hx hb dX14_job_187 (by decide) (fun c_187 => ?_) (fun c_187 => ?_)
                              · skip
                                exact absurd c_187 (by decide)
                              · skip
                                refine lv_iload hx hb dX14_job_190 (lv_at hl 1 rfl) ?_
                                refine lv_bipush (v := 19) hx hb dX14_job_192 (by decide) ?_
                                refine lv_icmp_eq (tgt := 204) hx hb dX14_job_194 (by decide) (fun c_194 => ?_) (fun c_194 => ?_)
                                · skip
                                  refine lv_iconst (v := 2) hx hb dX14_job_204 (by decide) ?_
                                  refine lv_goto (tgt := 209) hx hb dX14_job_205 (by decide) ?_
                                  refine lv_istore (lv' := [(11, .int 2), (6, .long x87), (10, .int 19), (9, .int (nI (100 * j9 + p9))), (0, .ref o), (4, .int (nI j9)), (5, .int (nI m9)), (8, .int (nI p9))]) hx hb dX14_job_209 hl (by decide) rfl (fun ls hl => ?_)
                                  refine lv_iload hx hb dX14_job_211 (lv_at hl 2 rfl) ?_
                                  refine lv_bipush (v := 15) hx hb dX14_job_213 (by decide) ?_
                                  refine lv_icmp_eq (tgt := 232) hx hb dX14_job_215 (by decide) (fun c_215 => ?_) (fun c_215 => ?_)
                                  · skip
                                    exact absurd c_215 (by decide)
                                  · skip
                                    refine lv_iload hx hb dX14_job_218 (lv_at hl 2 rfl) ?_
                                    refine lv_bipush (v := 16) hx hb dX14_job_220 (by decide) ?_
                                    refine lv_icmp_eq (tgt := 232) hx hb dX14_job_222 (by decide) (fun c_222 => ?_) (fun c_222 => ?_)
                                    · skip
                                      exact absurd c_222 (by decide)
                                    · skip
                                      refine lv_iload hx hb dX14_job_225 (lv_at hl 2 rfl) ?_
                                      refine lv_bipush (v := 20) hx hb dX14_job_227 (by decide) ?_
                                      refine lv_icmp_ne (tgt := 236) hx hb dX14_job_229 (by decide) (fun c_229 => ?_) (fun c_229 => ?_)
                                      · skip
                                        refine lv_iconst (v := 0) hx hb dX14_job_236 (by decide) ?_
                                        refine lv_istore (lv' := [(12, .int 0), (11, .int 2), (6, .long x87), (10, .int 19), (9, .int (nI (100 * j9 + p9))), (0, .ref o), (4, .int (nI j9)), (5, .int (nI m9)), (8, .int (nI p9))]) hx hb dX14_job_237 hl (by decide) rfl (fun ls hl => ?_)
                                        refine lv_iload hx hb dX14_job_239 (lv_at hl 7 rfl) ?_
                                        refine lv_iload hx hb dX14_job_241 (lv_at hl 1 rfl) ?_
                                        refine lv_icmp_lt (tgt := 258) hx hb dX14_job_243 (by decide) (fun c_243 => ?_) (fun c_243 => ?_)
                                        · skip
                                          refine lv_bipush (v := (-3)) hx hb dX14_job_258 (by decide) ?_
                                          have hRJ : RJ = (-3, js) := by rw [← hjr]; exact jr_r hnO hp9 (by rw [hkd]; decide) (by rw [hkd, hjp.1, hjo.1]; exact rf_n3 (by decide) (by decide) hm16b (Or.inl ((nI_ltI (b := 2) (by omega) (by decide)).mp c_243))) (by decide)
                                          exact W.iret (v := (-3)) hx hb hr (fun t ht hW => ⟨⟨_, _, rfl, ⟨Ij, Fj, Lj, hM, hF, hIo, h38j, ⟨sz, hsz64, h68j⟩, hFo, hLo, (by rw [hA9, hRJ]), (fun k hk _ => by rw [hoI] at hk; rw [← Option.some.inj hk, hE9, hRJ]; exact ⟨sz, h68j, hjo⟩), (fun z => z.elim (fun z => by rw [hoI] at z; cases z) (fun z => absurd hxr z))⟩, mk_end hG ht⟩, hS.F ht⟩) hS.2.2 dX14_job_260
                                        · skip
                                          refine lv_iload hx hb dX14_job_246 (lv_at hl 0 rfl) ?_
                                          refine lv_if_eq (tgt := 261) hx hb dX14_job_248 (by decide) (fun c_248 => ?_) (fun c_248 => ?_)
                                          · skip
                                            have hmw : 2 ≤ m9 := Nat.le_of_not_lt (fun y => c_243 (nI_lt (b := 2) y (by decide)))
                                            refine lv_iload hx hb dX14_job_261 (lv_at hl 7 rfl) ?_
                                            refine lv_if_le (tgt := 278) hx hb dX14_job_263 (by decide) (fun c_263 => ?_) (fun c_263 => ?_)
                                            · skip
                                              exact absurd c_263 (nI_nle (by omega) (by omega))
                                            · skip
                                              have hm1 : 0 < m9 := Nat.pos_of_ne_zero (fun y => c_263 (by rw [y]; exact Int32.le_refl 0))
                                              refine lv_aload_n hx hb dX14_job_266 rfl (lv_at hl 5 rfl) ?_
                                              refine mm_get (v := .ref (Ar 75)) hx hb hf_X14 (fun _ h9 => h9) hown hK hG hM.1 rfl 75 (by decide) (tb_use hT tw_1466) (fun _ h9 => h9) (mfs_g75 _ _) dX14_job_267 ?_
                                              refine lv_iload hx hb dX14_job_270 (lv_at hl 7 rfl) ?_
                                              refine lv_iconst (v := 1) hx hb dX14_job_272 (by decide) ?_
                                              refine lv_isub hx hb dX14_job_273 ?_
                                              rw [show ((nI m9) - 1) = nI (m9 - 1) from nI_sb (a := 1) (b := m9) (by omega)]
                                              refine mm_lald (n := 16) (f := Lj 75) hx hb hK hG 2 (hM.2.2.1 75 rfl) rfl (nI_in (N := 16) (by omega) (by decide)) dX14_job_274 ?_
                                              refine lv_topl (fun x88 ex88 => ?_)
                                              refine lv_goto (tgt := 279) hx hb dX14_job_275 (by decide) ?_
                                              refine lv_lstore (lv' := [(13, .long x88), (12, .int 0), (11, .int 2), (6, .long x87), (10, .int 19), (9, .int (nI (100 * j9 + p9))), (0, .ref o), (4, .int (nI j9)), (5, .int (nI m9)), (8, .int (nI p9))]) hx hb dX14_job_279 hl (by decide) rfl (fun ls hl => ?_)
                                              refine lv_iload hx hb dX14_job_281 (lv_at hl 8 rfl) ?_
                                              refine lv_iconst (v := 1) hx hb dX14_job_283 (by decide) ?_
                                              refine lv_icmp_le (tgt := 299) hx hb dX14_job_284 (by decide) (fun c_284 => ?_) (fun c_284 => ?_)
                                              · skip
                                                exact absurd c_284 (nI_ge (a := 1) (b := m9) (by omega) (by omega))
                                              · skip
                                                have hm2 : 1 < m9 := Nat.lt_of_not_le (fun y => c_284 (nI_le (b := 1) y (by decide)))
                                                refine lv_aload_n hx hb dX14_job_287 rfl (lv_at hl 6 rfl) ?_
                                                refine mm_get (v := .ref (Ar 75)) hx hb hf_X14 (fun _ h9 => h9) hown hK hG hM.1 rfl 75 (by decide) (tb_use hT tw_1466) (fun _ h9 => h9) (mfs_g75 _ _) dX14_job_288 ?_
                                                refine lv_iload hx hb dX14_job_291 (lv_at hl 8 rfl) ?_
                                                refine lv_iconst (v := 2) hx hb dX14_job_293 (by decide) ?_
                                                refine lv_isub hx hb dX14_job_294 ?_
                                                rw [show ((nI m9) - 2) = nI (m9 - 2) from nI_sb (a := 2) (b := m9) (by omega)]
                                                refine mm_lald (n := 16) (f := Lj 75) hx hb hK hG 2 (hM.2.2.1 75 rfl) rfl (nI_in (N := 16) (by omega) (by decide)) dX14_job_295 ?_
                                                refine lv_topl (fun x89 ex89 => ?_)
                                                refine lv_goto (tgt := 300) hx hb dX14_job_296 (by decide) ?_
                                                refine lv_lstore (lv' := [(15, .long x89), (13, .long x88), (12, .int 0), (11, .int 2), (6, .long x87), (10, .int 19), (9, .int (nI (100 * j9 + p9))), (0, .ref o), (4, .int (nI j9)), (5, .int (nI m9)), (8, .int (nI p9))]) hx hb dX14_job_300 hl (by decide) rfl (fun ls hl => ?_)
                                                obtain ⟨x90, ex90⟩ : ∃ y : Int32, y = (nI p9) + 1 := ⟨_, rfl⟩
                                                refine lv_iinc (v := x90) (lv' := [(8, .int x90), (15, .long x89), (13, .long x88), (12, .int 0), (11, .int 2), (6, .long x87), (10, .int 19), (9, .int (nI (100 * j9 + p9))), (0, .ref o), (4, .int (nI j9)), (5, .int (nI m9))]) hx hb dX14_job_302 hl (k := 10) rfl (by rw [ex90]; rfl) (by decide) rfl (fun ls hl => ?_)
                                                refine lv_iload hx hb dX14_job_305 (lv_at hl 6 rfl) ?_
                                                refine lv_tableIn (tgt := 449) hx hb dX14_job_307 (by decide) (by decide) (off := 142) rfl (by decide) ?_
                                                obtain ⟨x91, ex91⟩ : ∃ y : Int32, y = (nI m9) + (-1) := ⟨_, rfl⟩
                                                refine lv_iinc (v := x91) (lv' := [(5, .int x91), (8, .int x90), (15, .long x89), (13, .long x88), (12, .int 0), (11, .int 2), (6, .long x87), (10, .int 19), (9, .int (nI (100 * j9 + p9))), (0, .ref o), (4, .int (nI j9))]) hx hb dX14_job_449 hl (k := 10) rfl (by rw [ex91]; rfl) (by decide) rfl (fun ls hl => ?_)
                                                refine lv_aload_n hx hb dX14_job_452 rfl (lv_at hl 9 rfl) ?_
                                                refine mm_get (v := .ref (Ar 75)) hx hb hf_X14 (fun _ h9 => h9) hown hK hG hM.1 rfl 75 (by decide) (tb_use hT tw_1466) (fun _ h9 => h9) (mfs_g75 _ _) dX14_job_453 ?_
                                                refine lv_iload hx hb dX14_job_456 (lv_at hl 0 rfl) ?_
                                                refine lv_iconst (v := 1) hx hb dX14_job_458 (by decide) ?_
                                                refine lv_isub hx hb dX14_job_459 ?_
                                                rw [show (x91 - 1) = nI (m9 - 2) by rw [ex91, ← Int32.sub_eq_add_neg, show nI m9 - 1 = nI (m9 - 1) from nI_sb (a := 1) (b := m9) (by omega)]; exact (nI_sb (a := 1) (b := m9 - 1) (by omega)).trans (by rw [show m9 - 1 - 1 = m9 - 2 by omega])]
                                                refine lv_iload hx hb dX14_job_460 (lv_at hl 7 rfl) ?_
                                                refine lv_bipush (v := 17) hx hb dX14_job_462 (by decide) ?_
                                                refine lv_icmp_ne (tgt := 475) hx hb dX14_job_464 (by decide) (fun c_464 => ?_) (fun c_464 => ?_)
                                                · skip
                                                  refine lv_iload hx hb dX14_job_475 (lv_at hl 7 rfl) ?_
                                                  refine lv_bipush (v := 18) hx hb dX14_job_477 (by decide) ?_
                                                  refine lv_icmp_ne (tgt := 490) hx hb dX14_job_479 (by decide) (fun c_479 => ?_) (fun c_479 => ?_)
                                                  · skip
                                                    refine lv_lload hx hb dX14_job_490 (lv_at hl 2 rfl) ?_
                                                    refine lv_lload hx hb dX14_job_492 (lv_at hl 3 rfl) ?_
                                                    refine lv_lmul hx hb dX14_job_494 ?_
                                                    refine lv_topl (fun x92 ex92 => ?_)
                                                    refine mm_last (n := mdN 75) (f := Lj 75) hx hb hK hG hS 2 (hM.2.2.1 75 rfl) rfl (nI_in (N := mdN 75) (by show _ < 16; omega) (by decide)) dX14_job_495 (fun H locs hG hS => ?_)
                                                    have hM := MD.setj (k := 75) (vp_updL (Lj 75) (nI (m9 - 2)).toNatClampNeg x92) hM rfl
                                                    have hF := hF.wa (k := 75) (e' := .inl (cy 2, mdN 75, .inr (.inl (vp_updL (Lj 75) (nI (m9 - 2)).toNatClampNeg x92)))) rfl
                                                    obtain ⟨L93, eL93⟩ : ∃ g, g = va_up Lj 75 (vp_updL (Lj 75) (nI (m9 - 2)).toNatClampNeg x92) := ⟨_, rfl⟩
                                                    rw [← eL93] at hM
                                                    have hgn := gn_MD hG hM hF
                                                    clear hG hM hF
                                                    obtain ⟨G94, hG, hM, hF⟩ := hgn
                                                    refine lv_goto (tgt := 582) hx hb dX14_job_496 (by decide) ?_
                                                    refine lv_goto (tgt := 68) hx hb dX14_job_582 (by decide) ?_
                                                    have hrf : rfs js.1.1 (v9.O j9 p9).1 js.2.2.1 = 0 := by rw [hkd, hjp.1, hjo.1]; exact rf_ok (by decide) (by decide) hm16b (show 2 ≤ m9 by omega) (fun z => absurd z (by decide)) (fun z => absurd z (by decide))
                                                    have hjr2 : jrF v9 j9 ln f9 n lf (nI (p9 + 1)) (lyy (lft (ldn js.1) * lft js.1) (ldn (ldn js.1)), js.2) = RJ := by rw [← hjr, jr_st hnO hp9 (by rw [hkd]; decide) (by rw [hkd]; decide) hrf, st_29 hkd]
                                                    have hupp : x88 = Lj 75 (m9 - 1) := by rw [ex88, nI_clamp (by omega)]
                                                    have hlow : x89 = Lj 75 (m9 - 2) := by rw [ex89, nI_clamp (by omega)]
                                                    have hjp2 : JP (lyy (lft (ldn js.1) * lft js.1) (ldn (ldn js.1))) (m9 - 1) (L93 75) := by rw [eL93, va_up_self, nI_clamp (by omega), ex92, hupp, hlow, hjp.l2 (by omega), hjp.lf (by omega)]; exact hjp.op2 (by omega)
                                                    rw [show x90 = nI (p9 + 1) by rw [ex90]; exact (nI_succ p9).symm] at hl
                                                    rw [show x91 = nI (m9 - 1) by rw [ex91, ← Int32.sub_eq_add_neg]; exact nI_sb (a := 1) (b := m9) (by omega)] at hl
                                                    rw [ex87] at hl
                                                    have hmu2 : 2 * lf + agN v9 j9 (p9 + 1) < n := by have y := @agN_le v9 j9 (p9 + 1); omega
                                                    exact ih (p9 + 1) (m9 - 1) lf sz Ij Fj L93 (lyy (lft (ldn js.1) * lft js.1) (ldn (ldn js.1)), js.2) hmu2 hjr2 hjp2 hjo (by omega) (by omega) hIo h38j hbj h66j h68j hsz64 hFo (fun j hj => by rw [eL93, va_up_ne _ _ (by omega)]; exact hLo j hj) G94 hM hF _ _ hG hS ls (lv_sub hl [9, 10, 0, 6, 1] rfl)
                                                  · skip
                                                    exact absurd c_479 (by decide)
                                                · skip
                                                  exact absurd c_464 (by decide)
                                          · skip
                                            exact absurd (by decide) c_248
                                      · skip
                                        exact absurd c_229 (by decide)
                                · skip
                                  exact absurd (by decide) c_194
                          · skip
                            exact absurd c_169 (by decide)
                      · skip
                        refine lv_iconst (v := 0) hx hb dX14_job_150 (by decide) ?_
                        have hz0 : lf9 = 0 := by have z := congrArg Int64.toInt ((lg_cmp_eq _ _).mp c_147); rw [i64_on (by omega), show (0 : Int64).toInt = 0 by decide] at z; omega
                        have hRJ : RJ = (0, js) := by rw [← hjr]; exact jr_0 hnO hp9 (by rw [hkd]; decide) hz0
                        exact W.iret (v := 0) hx hb hr (fun t ht hW => ⟨⟨_, _, rfl, ⟨Ij, Fj, Lj, hM, hF, hIo, h38j, ⟨sz, hsz64, h68j⟩, hFo, hLo, (by rw [hA9, hRJ]), (fun k hk _ => by rw [hoI] at hk; rw [← Option.some.inj hk, hE9, hRJ]; exact ⟨sz, h68j, hjo⟩), (fun z => z.elim (fun z => by rw [hoI] at z; cases z) (fun z => absurd hxr z))⟩, mk_end hG ht⟩, hS.F ht⟩) hS.2.2 dX14_job_151
                    · skip
                      exact absurd c_119 (by decide)
                  · skip
                    replace hkd := hkde.trans hkd
                    rw [show x9 = 20 by rw [hx35, hkd]; rfl] at hl
                    refine lv_iload hx hb dX14_job_115 (lv_at hl 0 rfl) ?_
                    refine lv_bipush (v := 25) hx hb dX14_job_117 (by decide) ?_
                    refine lv_icmp_ne (tgt := 143) hx hb dX14_job_119 (by decide) (fun c_119 => ?_) (fun c_119 => ?_)
                    · skip
                      refine lv_lload hx hb dX14_job_143 (lv_at hl 5 rfl) ?_
                      refine lv_lconst (v := 0) hx hb dX14_job_145 (by decide) ?_
                      refine W.lcmp hx hb dX14_job_146 ?_
                      refine lv_if_ne (tgt := 152) hx hb dX14_job_147 (by decide) (fun c_147 => ?_) (fun c_147 => ?_)
                      · skip
                        obtain ⟨lf, hlf⟩ : ∃ y, lf9 = y + 1 := ⟨lf9 - 1, by have y : lf9 ≠ 0 := fun z => c_147 ((lg_cmp_eq _ _).mpr (by rw [z]; rfl)); omega⟩
                        rw [hlf] at hl hmu hjr
                        refine lv_lload hx hb dX14_job_152 (lv_at hl 5 rfl) ?_
                        refine lv_lconst (v := 1) hx hb dX14_job_154 (by decide) ?_
                        refine lv_lsub hx hb dX14_job_155 ?_
                        rw [i64_dec (by omega)]
                        refine lv_topl (fun x96 ex96 => ?_)
                        refine lv_lstore (lv' := [(6, .long x96), (10, .int 20), (9, .int (nI (100 * j9 + p9))), (0, .ref o), (4, .int (nI j9)), (5, .int (nI m9)), (8, .int (nI p9))]) hx hb dX14_job_156 hl (by decide) rfl (fun ls hl => ?_)
                        refine lv_iload hx hb dX14_job_158 (lv_at hl 1 rfl) ?_
                        refine lv_bipush (v := 15) hx hb dX14_job_160 (by decide) ?_
                        refine lv_icmp_eq (tgt := 172) hx hb dX14_job_162 (by decide) (fun c_162 => ?_) (fun c_162 => ?_)
                        · skip
                          exact absurd c_162 (by decide)
                        · skip
                          refine lv_iload hx hb dX14_job_165 (lv_at hl 1 rfl) ?_
                          refine lv_bipush (v := 16) hx hb dX14_job_167 (by decide) ?_
                          refine lv_icmp_ne (tgt := 176) hx hb dX14_job_169 (by decide) (fun c_169 => ?_) (fun c_169 => ?_)
                          · skip
                            refine lv_iload hx hb dX14_job_176 (lv_at hl 1 rfl) ?_
                            refine lv_bipush (v := 17) hx hb dX14_job_178 (by decide) ?_
                            refine lv_icmp_eq (tgt := 204) hx hb dX14_job_180 (by decide) (fun c_180 => ?_) (fun c_180 => ?_)
                            · skip
                              exact absurd c_180 (by decide)
                            · skip
                              refine lv_iload hx hb dX14_job_183 (lv_at hl 1 rfl) ?_
                              refine lv_bipush (v := 18) hx hb dX14_job_185 (by decide) ?_
                              refine lv_icmp_eq (tgt := 204) hx hb dX14_job_187 (by decide) (fun c_187 => ?_) (fun c_187 => ?_)
                              · skip
                                exact absurd c_187 (by decide)
                              · skip
                                refine lv_iload hx hb dX14_job_190 (lv_at hl 1 rfl) ?_
                                refine lv_bipush (v := 19) hx hb dX14_job_192 (by decide) ?_
                                refine lv_icmp_eq (tgt := 204) hx hb dX14_job_194 (by decide) (fun c_194 => ?_) (fun c_194 => ?_)
                                · skip
                                  exact absurd c_194 (by decide)
                                · skip
                                  refine lv_iload hx hb dX14_job_197 (lv_at hl 1 rfl) ?_
                                  refine lv_bipush (v := 21) hx hb dX14_job_199 (by decide) ?_
                                  refine lv_icmp_ne (tgt := 208) hx hb dX14_job_201 (by decide) (fun c_201 => ?_) (fun c_201 => ?_)
                                  · skip
                                    refine lv_iconst (v := 1) hx hb dX14_job_208 (by decide) ?_
                                    refine lv_istore (lv' := [(11, .int 1), (6, .long x96), (10, .int 20), (9, .int (nI (100 * j9 + p9))), (0, .ref o), (4, .int (nI j9)), (5, .int (nI m9)), (8, .int (nI p9))]) hx hb dX14_job_209 hl (by decide) rfl (fun ls hl => ?_)
                                    refine lv_iload hx hb dX14_job_211 (lv_at hl 2 rfl) ?_
                                    refine lv_bipush (v := 15) hx hb dX14_job_213 (by decide) ?_
                                    refine lv_icmp_eq (tgt := 232) hx hb dX14_job_215 (by decide) (fun c_215 => ?_) (fun c_215 => ?_)
                                    · skip
                                      exact absurd c_215 (by decide)
                                    · skip
                                      refine lv_iload hx hb dX14_job_218 (lv_at hl 2 rfl) ?_
                                      refine lv_bipush (v := 16) hx hb dX14_job_220 (by decide) ?_
                                      refine lv_icmp_eq (tgt := 232) hx hb dX14_job_222 (by decide) (fun c_222 => ?_) (fun c_222 => ?_)
                                      · skip
                                        exact absurd c_222 (by decide)
                                      · skip
                                        refine lv_iload hx hb dX14_job_225 (lv_at hl 2 rfl) ?_
                                        refine lv_bipush (v := 20) hx hb dX14_job_227 (by decide) ?_
                                        refine lv_icmp_ne (tgt := 236) hx hb dX14_job_229 (by decide) (fun c_229 => ?_) (fun c_229 => ?_)
                                        · skip
                                          exact absurd (by decide) c_229
                                        · skip
                                          refine lv_iconst (v := 1) hx hb dX14_job_232 (by decide) ?_
                                          refine lv_goto (tgt := 237) hx hb dX14_job_233 (by decide) ?_
                                          refine lv_istore (lv' := [(12, .int 1), (11, .int 1), (6, .long x96), (10, .int 20), (9, .int (nI (100 * j9 + p9))), (0, .ref o), (4, .int (nI j9)), (5, .int (nI m9)), (8, .int (nI p9))]) hx hb dX14_job_237 hl (by decide) rfl (fun ls hl => ?_)
                                          refine lv_iload hx hb dX14_job_239 (lv_at hl 7 rfl) ?_
                                          refine lv_iload hx hb dX14_job_241 (lv_at hl 1 rfl) ?_
                                          refine lv_icmp_lt (tgt := 258) hx hb dX14_job_243 (by decide) (fun c_243 => ?_) (fun c_243 => ?_)
                                          · skip
                                            refine lv_bipush (v := (-3)) hx hb dX14_job_258 (by decide) ?_
                                            have hRJ : RJ = (-3, js) := by rw [← hjr]; exact jr_r hnO hp9 (by rw [hkd]; decide) (by rw [hkd, hjp.1, hjo.1]; exact rf_n3 (by decide) (by decide) hm16b (Or.inl ((nI_ltI (b := 1) (by omega) (by decide)).mp c_243))) (by decide)
                                            exact W.iret (v := (-3)) hx hb hr (fun t ht hW => ⟨⟨_, _, rfl, ⟨Ij, Fj, Lj, hM, hF, hIo, h38j, ⟨sz, hsz64, h68j⟩, hFo, hLo, (by rw [hA9, hRJ]), (fun k hk _ => by rw [hoI] at hk; rw [← Option.some.inj hk, hE9, hRJ]; exact ⟨sz, h68j, hjo⟩), (fun z => z.elim (fun z => by rw [hoI] at z; cases z) (fun z => absurd hxr z))⟩, mk_end hG ht⟩, hS.F ht⟩) hS.2.2 dX14_job_260
                                          · skip
                                            refine lv_iload hx hb dX14_job_246 (lv_at hl 0 rfl) ?_
                                            refine lv_if_eq (tgt := 261) hx hb dX14_job_248 (by decide) (fun c_248 => ?_) (fun c_248 => ?_)
                                            · skip
                                              exact absurd c_248 (by decide)
                                            · skip
                                              refine lv_iload hx hb dX14_job_251 (lv_at hl 7 rfl) ?_
                                              refine lv_bipush (v := 16) hx hb dX14_job_253 (by decide) ?_
                                              refine lv_icmp_ne (tgt := 261) hx hb dX14_job_255 (by decide) (fun c_255 => ?_) (fun c_255 => ?_)
                                              · skip
                                                have hmw : 1 ≤ m9 := Nat.le_of_not_lt (fun y => c_243 (nI_lt (b := 1) y (by decide)))
                                                have hm16 : m9 < 16 := by have y : m9 ≠ 16 := fun z => c_255 (by rw [z]; rfl); omega
                                                refine lv_iload hx hb dX14_job_261 (lv_at hl 7 rfl) ?_
                                                refine lv_if_le (tgt := 278) hx hb dX14_job_263 (by decide) (fun c_263 => ?_) (fun c_263 => ?_)
                                                · skip
                                                  exact absurd c_263 (nI_nle (by omega) (by omega))
                                                · skip
                                                  have hm1 : 0 < m9 := Nat.pos_of_ne_zero (fun y => c_263 (by rw [y]; exact Int32.le_refl 0))
                                                  refine lv_aload_n hx hb dX14_job_266 rfl (lv_at hl 5 rfl) ?_
                                                  refine mm_get (v := .ref (Ar 75)) hx hb hf_X14 (fun _ h9 => h9) hown hK hG hM.1 rfl 75 (by decide) (tb_use hT tw_1466) (fun _ h9 => h9) (mfs_g75 _ _) dX14_job_267 ?_
                                                  refine lv_iload hx hb dX14_job_270 (lv_at hl 7 rfl) ?_
                                                  refine lv_iconst (v := 1) hx hb dX14_job_272 (by decide) ?_
                                                  refine lv_isub hx hb dX14_job_273 ?_
                                                  rw [show ((nI m9) - 1) = nI (m9 - 1) from nI_sb (a := 1) (b := m9) (by omega)]
                                                  refine mm_lald (n := 16) (f := Lj 75) hx hb hK hG 2 (hM.2.2.1 75 rfl) rfl (nI_in (N := 16) (by omega) (by decide)) dX14_job_274 ?_
                                                  refine lv_topl (fun x97 ex97 => ?_)
                                                  refine lv_goto (tgt := 279) hx hb dX14_job_275 (by decide) ?_
                                                  refine lv_lstore (lv' := [(13, .long x97), (12, .int 1), (11, .int 1), (6, .long x96), (10, .int 20), (9, .int (nI (100 * j9 + p9))), (0, .ref o), (4, .int (nI j9)), (5, .int (nI m9)), (8, .int (nI p9))]) hx hb dX14_job_279 hl (by decide) rfl (fun ls hl => ?_)
                                                  refine lv_iload hx hb dX14_job_281 (lv_at hl 8 rfl) ?_
                                                  refine lv_iconst (v := 1) hx hb dX14_job_283 (by decide) ?_
                                                  refine lv_icmp_le (tgt := 299) hx hb dX14_job_284 (by decide) (fun c_284 => ?_) (fun c_284 => ?_)
                                                  · skip
                                                    refine lv_lconst (v := 0) hx hb dX14_job_299 (by decide) ?_
                                                    refine lv_lstore (lv' := [(15, .long 0), (13, .long x97), (12, .int 1), (11, .int 1), (6, .long x96), (10, .int 20), (9, .int (nI (100 * j9 + p9))), (0, .ref o), (4, .int (nI j9)), (5, .int (nI m9)), (8, .int (nI p9))]) hx hb dX14_job_300 hl (by decide) rfl (fun ls hl => ?_)
                                                    obtain ⟨x98, ex98⟩ : ∃ y : Int32, y = (nI p9) + 1 := ⟨_, rfl⟩
                                                    refine lv_iinc (v := x98) (lv' := [(8, .int x98), (15, .long 0), (13, .long x97), (12, .int 1), (11, .int 1), (6, .long x96), (10, .int 20), (9, .int (nI (100 * j9 + p9))), (0, .ref o), (4, .int (nI j9)), (5, .int (nI m9))]) hx hb dX14_job_302 hl (k := 10) rfl (by rw [ex98]; rfl) (by decide) rfl (fun ls hl => ?_)
                                                    refine lv_iload hx hb dX14_job_305 (lv_at hl 6 rfl) ?_
                                                    refine lv_tableIn (tgt := 409) hx hb dX14_job_307 (by decide) (by decide) (off := 102) rfl (by decide) ?_
                                                    refine lv_aload_n hx hb dX14_job_409 rfl (lv_at hl 8 rfl) ?_
                                                    refine mm_get (v := .ref (Ar 75)) hx hb hf_X14 (fun _ h9 => h9) hown hK hG hM.1 rfl 75 (by decide) (tb_use hT tw_1466) (fun _ h9 => h9) (mfs_g75 _ _) dX14_job_410 ?_
                                                    refine lv_iload hx hb dX14_job_413 (lv_at hl 10 rfl) ?_
                                                    refine lv_lload hx hb dX14_job_415 (lv_at hl 2 rfl) ?_
                                                    refine mm_last (n := mdN 75) (f := Lj 75) hx hb hK hG hS 2 (hM.2.2.1 75 rfl) rfl (nI_in (N := mdN 75) (by show _ < 16; omega) (by decide)) dX14_job_417 (fun H locs hG hS => ?_)
                                                    have hM := MD.setj (k := 75) (vp_updL (Lj 75) (nI m9).toNatClampNeg x97) hM rfl
                                                    have hF := hF.wa (k := 75) (e' := .inl (cy 2, mdN 75, .inr (.inl (vp_updL (Lj 75) (nI m9).toNatClampNeg x97)))) rfl
                                                    obtain ⟨L99, eL99⟩ : ∃ g, g = va_up Lj 75 (vp_updL (Lj 75) (nI m9).toNatClampNeg x97) := ⟨_, rfl⟩
                                                    rw [← eL99] at hM
                                                    have hgn := gn_MD hG hM hF
                                                    clear hG hM hF
                                                    obtain ⟨G100, hG, hM, hF⟩ := hgn
                                                    obtain ⟨x101, ex101⟩ : ∃ y : Int32, y = (nI m9) + 1 := ⟨_, rfl⟩
                                                    refine lv_iinc (v := x101) (lv' := [(5, .int x101), (8, .int x98), (15, .long 0), (13, .long x97), (12, .int 1), (11, .int 1), (6, .long x96), (10, .int 20), (9, .int (nI (100 * j9 + p9))), (0, .ref o), (4, .int (nI j9))]) hx hb dX14_job_418 hl (k := 10) rfl (by rw [ex101]; rfl) (by decide) rfl (fun ls hl => ?_)
                                                    refine lv_goto (tgt := 582) hx hb dX14_job_421 (by decide) ?_
                                                    refine lv_goto (tgt := 68) hx hb dX14_job_582 (by decide) ?_
                                                    have hrf : rfs js.1.1 (v9.O j9 p9).1 js.2.2.1 = 0 := by rw [hkd, hjp.1, hjo.1]; exact rf_ok (by decide) (by decide) hm16b (show 1 ≤ m9 by omega) (fun _ => by omega) (fun z => absurd z (by decide))
                                                    have hjr2 : jrF v9 j9 ln f9 n lf (nI (p9 + 1)) (lyy (lft js.1) (lyy (lft js.1) (ldn js.1)), js.2) = RJ := by rw [← hjr, jr_st hnO hp9 (by rw [hkd]; decide) (by rw [hkd]; decide) hrf, st_30 hkd]
                                                    have hupp : x97 = Lj 75 (m9 - 1) := by rw [ex97, nI_clamp (by omega)]
                                                    have hjp2 : JP (lyy (lft js.1) (lyy (lft js.1) (ldn js.1))) (m9 + 1) (L99 75) := by rw [eL99, va_up_self, nI_clamp (by omega), hupp]; exact hjp.dup (by omega) (by omega)
                                                    rw [show x98 = nI (p9 + 1) by rw [ex98]; exact (nI_succ p9).symm] at hl
                                                    rw [show x101 = nI (m9 + 1) by rw [ex101]; exact (nI_succ m9).symm] at hl
                                                    rw [ex96] at hl
                                                    have hmu2 : 2 * lf + agN v9 j9 (p9 + 1) < n := by have y := @agN_le v9 j9 (p9 + 1); omega
                                                    exact ih (p9 + 1) (m9 + 1) lf sz Ij Fj L99 (lyy (lft js.1) (lyy (lft js.1) (ldn js.1)), js.2) hmu2 hjr2 hjp2 hjo (by omega) (by omega) hIo h38j hbj h66j h68j hsz64 hFo (fun j hj => by rw [eL99, va_up_ne _ _ (by omega)]; exact hLo j hj) G100 hM hF _ _ hG hS ls (lv_sub hl [9, 10, 0, 6, 1] rfl)
                                                  · skip
                                                    have hm2 : 1 < m9 := Nat.lt_of_not_le (fun y => c_284 (nI_le (b := 1) y (by decide)))
                                                    refine lv_aload_n hx hb dX14_job_287 rfl (lv_at hl 6 rfl) ?_
                                                    refine mm_get (v := .ref (Ar 75)) hx hb hf_X14 (fun _ h9 => h9) hown hK hG hM.1 rfl 75 (by decide) (tb_use hT tw_1466) (fun _ h9 => h9) (mfs_g75 _ _) dX14_job_288 ?_
                                                    refine lv_iload hx hb dX14_job_291 (lv_at hl 8 rfl) ?_
                                                    refine lv_iconst (v := 2) hx hb dX14_job_293 (by decide) ?_
                                                    refine lv_isub hx hb dX14_job_294 ?_
                                                    rw [show ((nI m9) - 2) = nI (m9 - 2) from nI_sb (a := 2) (b := m9) (by omega)]
                                                    refine mm_lald (n := 16) (f := Lj 75) hx hb hK hG 2 (hM.2.2.1 75 rfl) rfl (nI_in (N := 16) (by omega) (by decide)) dX14_job_295 ?_
                                                    refine lv_topl (fun x102 ex102 => ?_)
                                                    refine lv_goto (tgt := 300) hx hb dX14_job_296 (by decide) ?_
                                                    refine lv_lstore (lv' := [(15, .long x102), (13, .long x97), (12, .int 1), (11, .int 1), (6, .long x96), (10, .int 20), (9, .int (nI (100 * j9 + p9))), (0, .ref o), (4, .int (nI j9)), (5, .int (nI m9)), (8, .int (nI p9))]) hx hb dX14_job_300 hl (by decide) rfl (fun ls hl => ?_)
                                                    obtain ⟨x103, ex103⟩ : ∃ y : Int32, y = (nI p9) + 1 := ⟨_, rfl⟩
                                                    refine lv_iinc (v := x103) (lv' := [(8, .int x103), (15, .long x102), (13, .long x97), (12, .int 1), (11, .int 1), (6, .long x96), (10, .int 20), (9, .int (nI (100 * j9 + p9))), (0, .ref o), (4, .int (nI j9)), (5, .int (nI m9))]) hx hb dX14_job_302 hl (k := 10) rfl (by rw [ex103]; rfl) (by decide) rfl (fun ls hl => ?_)
                                                    refine lv_iload hx hb dX14_job_305 (lv_at hl 6 rfl) ?_
                                                    refine lv_tableIn (tgt := 409) hx hb dX14_job_307 (by decide) (by decide) (off := 102) rfl (by decide) ?_
                                                    refine lv_aload_n hx hb dX14_job_409 rfl (lv_at hl 8 rfl) ?_
                                                    refine mm_get (v := .ref (Ar 75)) hx hb hf_X14 (fun _ h9 => h9) hown hK hG hM.1 rfl 75 (by decide) (tb_use hT tw_1466) (fun _ h9 => h9) (mfs_g75 _ _) dX14_job_410 ?_
                                                    refine lv_iload hx hb dX14_job_413 (lv_at hl 10 rfl) ?_
                                                    refine lv_lload hx hb dX14_job_415 (lv_at hl 2 rfl) ?_
                                                    refine mm_last (n := mdN 75) (f := Lj 75) hx hb hK hG hS 2 (hM.2.2.1 75 rfl) rfl (nI_in (N := mdN 75) (by show _ < 16; omega) (by decide)) dX14_job_417 (fun H locs hG hS => ?_)
                                                    have hM := MD.setj (k := 75) (vp_updL (Lj 75) (nI m9).toNatClampNeg x97) hM rfl
                                                    have hF := hF.wa (k := 75) (e' := .inl (cy 2, mdN 75, .inr (.inl (vp_updL (Lj 75) (nI m9).toNatClampNeg x97)))) rfl
                                                    obtain ⟨L104, eL104⟩ : ∃ g, g = va_up Lj 75 (vp_updL (Lj 75) (nI m9).toNatClampNeg x97) := ⟨_, rfl⟩
                                                    rw [← eL104] at hM
                                                    have hgn := gn_MD hG hM hF
                                                    clear hG hM hF
                                                    obtain ⟨G105, hG, hM, hF⟩ := hgn
                                                    obtain ⟨x106, ex106⟩ : ∃ y : Int32, y = (nI m9) + 1 := ⟨_, rfl⟩
                                                    refine lv_iinc (v := x106) (lv' := [(5, .int x106), (8, .int x103), (15, .long x102), (13, .long x97), (12, .int 1), (11, .int 1), (6, .long x96), (10, .int 20), (9, .int (nI (100 * j9 + p9))), (0, .ref o), (4, .int (nI j9))]) hx hb dX14_job_418 hl (k := 10) rfl (by rw [ex106]; rfl) (by decide) rfl (fun ls hl => ?_)
                                                    refine lv_goto (tgt := 582) hx hb dX14_job_421 (by decide) ?_
                                                    refine lv_goto (tgt := 68) hx hb dX14_job_582 (by decide) ?_
                                                    have hrf : rfs js.1.1 (v9.O j9 p9).1 js.2.2.1 = 0 := by rw [hkd, hjp.1, hjo.1]; exact rf_ok (by decide) (by decide) hm16b (show 1 ≤ m9 by omega) (fun _ => by omega) (fun z => absurd z (by decide))
                                                    have hjr2 : jrF v9 j9 ln f9 n lf (nI (p9 + 1)) (lyy (lft js.1) (lyy (lft js.1) (ldn js.1)), js.2) = RJ := by rw [← hjr, jr_st hnO hp9 (by rw [hkd]; decide) (by rw [hkd]; decide) hrf, st_30 hkd]
                                                    have hupp : x97 = Lj 75 (m9 - 1) := by rw [ex97, nI_clamp (by omega)]
                                                    have hjp2 : JP (lyy (lft js.1) (lyy (lft js.1) (ldn js.1))) (m9 + 1) (L104 75) := by rw [eL104, va_up_self, nI_clamp (by omega), hupp]; exact hjp.dup (by omega) (by omega)
                                                    rw [show x103 = nI (p9 + 1) by rw [ex103]; exact (nI_succ p9).symm] at hl
                                                    rw [show x106 = nI (m9 + 1) by rw [ex106]; exact (nI_succ m9).symm] at hl
                                                    rw [ex96] at hl
                                                    have hmu2 : 2 * lf + agN v9 j9 (p9 + 1) < n := by have y := @agN_le v9 j9 (p9 + 1); omega
                                                    exact ih (p9 + 1) (m9 + 1) lf sz Ij Fj L104 (lyy (lft js.1) (lyy (lft js.1) (ldn js.1)), js.2) hmu2 hjr2 hjp2 hjo (by omega) (by omega) hIo h38j hbj h66j h68j hsz64 hFo (fun j hj => by rw [eL104, va_up_ne _ _ (by omega)]; exact hLo j hj) G105 hM hF _ _ hG hS ls (lv_sub hl [9, 10, 0, 6, 1] rfl)
                                              · skip
                                                refine lv_bipush (v := (-3)) hx hb dX14_job_258 (by decide) ?_
                                                have hRJ : RJ = (-3, js) := by rw [← hjr]; exact jr_r hnO hp9 (by rw [hkd]; decide) (by rw [hkd, hjp.1, hjo.1]; exact rf_n3 (by decide) (by decide) hm16b (Or.inr ⟨rfl, nI_inj (b := 16) (by omega) (by decide) c_255⟩)) (by decide)
                                                exact W.iret (v := (-3)) hx hb hr (fun t ht hW => ⟨⟨_, _, rfl, ⟨Ij, Fj, Lj, hM, hF, hIo, h38j, ⟨sz, hsz64, h68j⟩, hFo, hLo, (by rw [hA9, hRJ]), (fun k hk _ => by rw [hoI] at hk; rw [← Option.some.inj hk, hE9, hRJ]; exact ⟨sz, h68j, hjo⟩), (fun z => z.elim (fun z => by rw [hoI] at z; cases z) (fun z => absurd hxr z))⟩, mk_end hG ht⟩, hS.F ht⟩) hS.2.2 dX14_job_260
                                  · skip
                                    exact absurd c_201 (by decide)
                          · skip
                            exact absurd c_169 (by decide)
                      · skip
                        refine lv_iconst (v := 0) hx hb dX14_job_150 (by decide) ?_
                        have hz0 : lf9 = 0 := by have z := congrArg Int64.toInt ((lg_cmp_eq _ _).mp c_147); rw [i64_on (by omega), show (0 : Int64).toInt = 0 by decide] at z; omega
                        have hRJ : RJ = (0, js) := by rw [← hjr]; exact jr_0 hnO hp9 (by rw [hkd]; decide) hz0
                        exact W.iret (v := 0) hx hb hr (fun t ht hW => ⟨⟨_, _, rfl, ⟨Ij, Fj, Lj, hM, hF, hIo, h38j, ⟨sz, hsz64, h68j⟩, hFo, hLo, (by rw [hA9, hRJ]), (fun k hk _ => by rw [hoI] at hk; rw [← Option.some.inj hk, hE9, hRJ]; exact ⟨sz, h68j, hjo⟩), (fun z => z.elim (fun z => by rw [hoI] at z; cases z) (fun z => absurd hxr z))⟩, mk_end hG ht⟩, hS.F ht⟩) hS.2.2 dX14_job_151
                    · skip
                      exact absurd c_119 (by decide)
                  · skip
                    replace hkd := hkde.trans hkd
                    rw [show x9 = 21 by rw [hx35, hkd]; rfl] at hl
                    refine lv_iload hx hb dX14_job_115 (lv_at hl 0 rfl) ?_
                    refine lv_bipush (v := 25) hx hb dX14_job_117 (by decide) ?_
                    refine lv_icmp_ne (tgt := 143) hx hb dX14_job_119 (by decide) (fun c_119 => ?_) (fun c_119 => ?_)
                    · skip
                      refine lv_lload hx hb dX14_job_143 (lv_at hl 5 rfl) ?_
                      refine lv_lconst (v := 0) hx hb dX14_job_145 (by decide) ?_
                      refine W.lcmp hx hb dX14_job_146 ?_
                      refine lv_if_ne (tgt := 152) hx hb dX14_job_147 (by decide) (fun c_147 => ?_) (fun c_147 => ?_)
                      · skip
                        obtain ⟨lf, hlf⟩ : ∃ y, lf9 = y + 1 := ⟨lf9 - 1, by have y : lf9 ≠ 0 := fun z => c_147 ((lg_cmp_eq _ _).mpr (by rw [z]; rfl)); omega⟩
                        rw [hlf] at hl hmu hjr
                        refine lv_lload hx hb dX14_job_152 (lv_at hl 5 rfl) ?_
                        refine lv_lconst (v := 1) hx hb dX14_job_154 (by decide) ?_
                        refine lv_lsub hx hb dX14_job_155 ?_
                        rw [i64_dec (by omega)]
                        refine lv_topl (fun x108 ex108 => ?_)
                        refine lv_lstore (lv' := [(6, .long x108), (10, .int 21), (9, .int (nI (100 * j9 + p9))), (0, .ref o), (4, .int (nI j9)), (5, .int (nI m9)), (8, .int (nI p9))]) hx hb dX14_job_156 hl (by decide) rfl (fun ls hl => ?_)
                        refine lv_iload hx hb dX14_job_158 (lv_at hl 1 rfl) ?_
                        refine lv_bipush (v := 15) hx hb dX14_job_160 (by decide) ?_
                        refine lv_icmp_eq (tgt := 172) hx hb dX14_job_162 (by decide) (fun c_162 => ?_) (fun c_162 => ?_)
                        · skip
                          exact absurd c_162 (by decide)
                        · skip
                          refine lv_iload hx hb dX14_job_165 (lv_at hl 1 rfl) ?_
                          refine lv_bipush (v := 16) hx hb dX14_job_167 (by decide) ?_
                          refine lv_icmp_ne (tgt := 176) hx hb dX14_job_169 (by decide) (fun c_169 => ?_) (fun c_169 => ?_)
                          · skip
                            refine lv_iload hx hb dX14_job_176 (lv_at hl 1 rfl) ?_
                            refine lv_bipush (v := 17) hx hb dX14_job_178 (by decide) ?_
                            refine lv_icmp_eq (tgt := 204) hx hb dX14_job_180 (by decide) (fun c_180 => ?_) (fun c_180 => ?_)
                            · skip
                              exact absurd c_180 (by decide)
                            · skip
                              refine lv_iload hx hb dX14_job_183 (lv_at hl 1 rfl) ?_
                              refine lv_bipush (v := 18) hx hb dX14_job_185 (by decide) ?_
                              refine lv_icmp_eq (tgt := 204) hx hb dX14_job_187 (by decide) (fun c_187 => ?_) (fun c_187 => ?_)
                              · skip
                                exact absurd c_187 (by decide)
                              · skip
                                refine lv_iload hx hb dX14_job_190 (lv_at hl 1 rfl) ?_
                                refine lv_bipush (v := 19) hx hb dX14_job_192 (by decide) ?_
                                refine lv_icmp_eq (tgt := 204) hx hb dX14_job_194 (by decide) (fun c_194 => ?_) (fun c_194 => ?_)
                                · skip
                                  exact absurd c_194 (by decide)
                                · skip
                                  refine lv_iload hx hb dX14_job_197 (lv_at hl 1 rfl) ?_
                                  refine lv_bipush (v := 21) hx hb dX14_job_199 (by decide) ?_
                                  refine lv_icmp_ne (tgt := 208) hx hb dX14_job_201 (by decide) (fun c_201 => ?_) (fun c_201 => ?_)
                                  · skip
                                    exact absurd (by decide) c_201
                                  · skip
                                    refine lv_iconst (v := 2) hx hb dX14_job_204 (by decide) ?_
                                    refine lv_goto (tgt := 209) hx hb dX14_job_205 (by decide) ?_
                                    refine lv_istore (lv' := [(11, .int 2), (6, .long x108), (10, .int 21), (9, .int (nI (100 * j9 + p9))), (0, .ref o), (4, .int (nI j9)), (5, .int (nI m9)), (8, .int (nI p9))]) hx hb dX14_job_209 hl (by decide) rfl (fun ls hl => ?_)
                                    refine lv_iload hx hb dX14_job_211 (lv_at hl 2 rfl) ?_
                                    refine lv_bipush (v := 15) hx hb dX14_job_213 (by decide) ?_
                                    refine lv_icmp_eq (tgt := 232) hx hb dX14_job_215 (by decide) (fun c_215 => ?_) (fun c_215 => ?_)
                                    · skip
                                      exact absurd c_215 (by decide)
                                    · skip
                                      refine lv_iload hx hb dX14_job_218 (lv_at hl 2 rfl) ?_
                                      refine lv_bipush (v := 16) hx hb dX14_job_220 (by decide) ?_
                                      refine lv_icmp_eq (tgt := 232) hx hb dX14_job_222 (by decide) (fun c_222 => ?_) (fun c_222 => ?_)
                                      · skip
                                        exact absurd c_222 (by decide)
                                      · skip
                                        refine lv_iload hx hb dX14_job_225 (lv_at hl 2 rfl) ?_
                                        refine lv_bipush (v := 20) hx hb dX14_job_227 (by decide) ?_
                                        refine lv_icmp_ne (tgt := 236) hx hb dX14_job_229 (by decide) (fun c_229 => ?_) (fun c_229 => ?_)
                                        · skip
                                          refine lv_iconst (v := 0) hx hb dX14_job_236 (by decide) ?_
                                          refine lv_istore (lv' := [(12, .int 0), (11, .int 2), (6, .long x108), (10, .int 21), (9, .int (nI (100 * j9 + p9))), (0, .ref o), (4, .int (nI j9)), (5, .int (nI m9)), (8, .int (nI p9))]) hx hb dX14_job_237 hl (by decide) rfl (fun ls hl => ?_)
                                          refine lv_iload hx hb dX14_job_239 (lv_at hl 7 rfl) ?_
                                          refine lv_iload hx hb dX14_job_241 (lv_at hl 1 rfl) ?_
                                          refine lv_icmp_lt (tgt := 258) hx hb dX14_job_243 (by decide) (fun c_243 => ?_) (fun c_243 => ?_)
                                          · skip
                                            refine lv_bipush (v := (-3)) hx hb dX14_job_258 (by decide) ?_
                                            have hRJ : RJ = (-3, js) := by rw [← hjr]; exact jr_r hnO hp9 (by rw [hkd]; decide) (by rw [hkd, hjp.1, hjo.1]; exact rf_n3 (by decide) (by decide) hm16b (Or.inl ((nI_ltI (b := 2) (by omega) (by decide)).mp c_243))) (by decide)
                                            exact W.iret (v := (-3)) hx hb hr (fun t ht hW => ⟨⟨_, _, rfl, ⟨Ij, Fj, Lj, hM, hF, hIo, h38j, ⟨sz, hsz64, h68j⟩, hFo, hLo, (by rw [hA9, hRJ]), (fun k hk _ => by rw [hoI] at hk; rw [← Option.some.inj hk, hE9, hRJ]; exact ⟨sz, h68j, hjo⟩), (fun z => z.elim (fun z => by rw [hoI] at z; cases z) (fun z => absurd hxr z))⟩, mk_end hG ht⟩, hS.F ht⟩) hS.2.2 dX14_job_260
                                          · skip
                                            refine lv_iload hx hb dX14_job_246 (lv_at hl 0 rfl) ?_
                                            refine lv_if_eq (tgt := 261) hx hb dX14_job_248 (by decide) (fun c_248 => ?_) (fun c_248 => ?_)
                                            · skip
                                              have hmw : 2 ≤ m9 := Nat.le_of_not_lt (fun y => c_243 (nI_lt (b := 2) y (by decide)))
                                              refine lv_iload hx hb dX14_job_261 (lv_at hl 7 rfl) ?_
                                              refine lv_if_le (tgt := 278) hx hb dX14_job_263 (by decide) (fun c_263 => ?_) (fun c_263 => ?_)
                                              · skip
                                                exact absurd c_263 (nI_nle (by omega) (by omega))
                                              · skip
                                                have hm1 : 0 < m9 := Nat.pos_of_ne_zero (fun y => c_263 (by rw [y]; exact Int32.le_refl 0))
                                                refine lv_aload_n hx hb dX14_job_266 rfl (lv_at hl 5 rfl) ?_
                                                refine mm_get (v := .ref (Ar 75)) hx hb hf_X14 (fun _ h9 => h9) hown hK hG hM.1 rfl 75 (by decide) (tb_use hT tw_1466) (fun _ h9 => h9) (mfs_g75 _ _) dX14_job_267 ?_
                                                refine lv_iload hx hb dX14_job_270 (lv_at hl 7 rfl) ?_
                                                refine lv_iconst (v := 1) hx hb dX14_job_272 (by decide) ?_
                                                refine lv_isub hx hb dX14_job_273 ?_
                                                rw [show ((nI m9) - 1) = nI (m9 - 1) from nI_sb (a := 1) (b := m9) (by omega)]
                                                refine mm_lald (n := 16) (f := Lj 75) hx hb hK hG 2 (hM.2.2.1 75 rfl) rfl (nI_in (N := 16) (by omega) (by decide)) dX14_job_274 ?_
                                                refine lv_topl (fun x109 ex109 => ?_)
                                                refine lv_goto (tgt := 279) hx hb dX14_job_275 (by decide) ?_
                                                refine lv_lstore (lv' := [(13, .long x109), (12, .int 0), (11, .int 2), (6, .long x108), (10, .int 21), (9, .int (nI (100 * j9 + p9))), (0, .ref o), (4, .int (nI j9)), (5, .int (nI m9)), (8, .int (nI p9))]) hx hb dX14_job_279 hl (by decide) rfl (fun ls hl => ?_)
                                                refine lv_iload hx hb dX14_job_281 (lv_at hl 8 rfl) ?_
                                                refine lv_iconst (v := 1) hx hb dX14_job_283 (by decide) ?_
                                                refine lv_icmp_le (tgt := 299) hx hb dX14_job_284 (by decide) (fun c_284 => ?_) (fun c_284 => ?_)
                                                · skip
                                                  exact absurd c_284 (nI_ge (a := 1) (b := m9) (by omega) (by omega))
                                                · skip
                                                  have hm2 : 1 < m9 := Nat.lt_of_not_le (fun y => c_284 (nI_le (b := 1) y (by decide)))
                                                  refine lv_aload_n hx hb dX14_job_287 rfl (lv_at hl 6 rfl) ?_
                                                  refine mm_get (v := .ref (Ar 75)) hx hb hf_X14 (fun _ h9 => h9) hown hK hG hM.1 rfl 75 (by decide) (tb_use hT tw_1466) (fun _ h9 => h9) (mfs_g75 _ _) dX14_job_288 ?_
                                                  refine lv_iload hx hb dX14_job_291 (lv_at hl 8 rfl) ?_
                                                  refine lv_iconst (v := 2) hx hb dX14_job_293 (by decide) ?_
                                                  refine lv_isub hx hb dX14_job_294 ?_
                                                  rw [show ((nI m9) - 2) = nI (m9 - 2) from nI_sb (a := 2) (b := m9) (by omega)]
                                                  refine mm_lald (n := 16) (f := Lj 75) hx hb hK hG 2 (hM.2.2.1 75 rfl) rfl (nI_in (N := 16) (by omega) (by decide)) dX14_job_295 ?_
                                                  refine lv_topl (fun x110 ex110 => ?_)
                                                  refine lv_goto (tgt := 300) hx hb dX14_job_296 (by decide) ?_
                                                  refine lv_lstore (lv' := [(15, .long x110), (13, .long x109), (12, .int 0), (11, .int 2), (6, .long x108), (10, .int 21), (9, .int (nI (100 * j9 + p9))), (0, .ref o), (4, .int (nI j9)), (5, .int (nI m9)), (8, .int (nI p9))]) hx hb dX14_job_300 hl (by decide) rfl (fun ls hl => ?_)
                                                  obtain ⟨x111, ex111⟩ : ∃ y : Int32, y = (nI p9) + 1 := ⟨_, rfl⟩
                                                  refine lv_iinc (v := x111) (lv' := [(8, .int x111), (15, .long x110), (13, .long x109), (12, .int 0), (11, .int 2), (6, .long x108), (10, .int 21), (9, .int (nI (100 * j9 + p9))), (0, .ref o), (4, .int (nI j9)), (5, .int (nI m9))]) hx hb dX14_job_302 hl (k := 10) rfl (by rw [ex111]; rfl) (by decide) rfl (fun ls hl => ?_)
                                                  refine lv_iload hx hb dX14_job_305 (lv_at hl 6 rfl) ?_
                                                  refine lv_tableIn (tgt := 424) hx hb dX14_job_307 (by decide) (by decide) (off := 117) rfl (by decide) ?_
                                                  refine lv_aload_n hx hb dX14_job_424 rfl (lv_at hl 8 rfl) ?_
                                                  refine mm_get (v := .ref (Ar 75)) hx hb hf_X14 (fun _ h9 => h9) hown hK hG hM.1 rfl 75 (by decide) (tb_use hT tw_1466) (fun _ h9 => h9) (mfs_g75 _ _) dX14_job_425 ?_
                                                  refine lv_iload hx hb dX14_job_428 (lv_at hl 10 rfl) ?_
                                                  refine lv_iconst (v := 1) hx hb dX14_job_430 (by decide) ?_
                                                  refine lv_isub hx hb dX14_job_431 ?_
                                                  rw [show ((nI m9) - 1) = nI (m9 - 1) from nI_sb (a := 1) (b := m9) (by omega)]
                                                  refine lv_lload hx hb dX14_job_432 (lv_at hl 1 rfl) ?_
                                                  refine mm_last (n := mdN 75) (f := Lj 75) hx hb hK hG hS 2 (hM.2.2.1 75 rfl) rfl (nI_in (N := mdN 75) (by show _ < 16; omega) (by decide)) dX14_job_434 (fun H locs hG hS => ?_)
                                                  have hM := MD.setj (k := 75) (vp_updL (Lj 75) (nI (m9 - 1)).toNatClampNeg x110) hM rfl
                                                  have hF := hF.wa (k := 75) (e' := .inl (cy 2, mdN 75, .inr (.inl (vp_updL (Lj 75) (nI (m9 - 1)).toNatClampNeg x110)))) rfl
                                                  obtain ⟨L112, eL112⟩ : ∃ g, g = va_up Lj 75 (vp_updL (Lj 75) (nI (m9 - 1)).toNatClampNeg x110) := ⟨_, rfl⟩
                                                  rw [← eL112] at hM
                                                  have hgn := gn_MD hG hM hF
                                                  clear hG hM hF
                                                  obtain ⟨G113, hG, hM, hF⟩ := hgn
                                                  refine lv_aload_n hx hb dX14_job_435 rfl (lv_at hl 8 rfl) ?_
                                                  refine mm_get (v := .ref (Ar 75)) hx hb hf_X14 (fun _ h9 => h9) hown hK hG hM.1 rfl 75 (by decide) (tb_use hT tw_1466) (fun _ h9 => h9) (mfs_g75 _ _) dX14_job_436 ?_
                                                  refine lv_iload hx hb dX14_job_439 (lv_at hl 10 rfl) ?_
                                                  refine lv_iconst (v := 2) hx hb dX14_job_441 (by decide) ?_
                                                  refine lv_isub hx hb dX14_job_442 ?_
                                                  rw [show ((nI m9) - 2) = nI (m9 - 2) from nI_sb (a := 2) (b := m9) (by omega)]
                                                  refine lv_lload hx hb dX14_job_443 (lv_at hl 2 rfl) ?_
                                                  refine mm_last (n := mdN 75) (f := L112 75) hx hb hK hG hS 2 (hM.2.2.1 75 rfl) rfl (nI_in (N := mdN 75) (by show _ < 16; omega) (by decide)) dX14_job_445 (fun H locs hG hS => ?_)
                                                  have hM := MD.setj (k := 75) (vp_updL (L112 75) (nI (m9 - 2)).toNatClampNeg x109) hM rfl
                                                  have hF := hF.wa (k := 75) (e' := .inl (cy 2, mdN 75, .inr (.inl (vp_updL (L112 75) (nI (m9 - 2)).toNatClampNeg x109)))) rfl
                                                  obtain ⟨L114, eL114⟩ : ∃ g, g = va_up L112 75 (vp_updL (L112 75) (nI (m9 - 2)).toNatClampNeg x109) := ⟨_, rfl⟩
                                                  rw [← eL114] at hM
                                                  have hgn := gn_MD hG hM hF
                                                  clear hG hM hF
                                                  obtain ⟨G115, hG, hM, hF⟩ := hgn
                                                  refine lv_goto (tgt := 582) hx hb dX14_job_446 (by decide) ?_
                                                  refine lv_goto (tgt := 68) hx hb dX14_job_582 (by decide) ?_
                                                  have hrf : rfs js.1.1 (v9.O j9 p9).1 js.2.2.1 = 0 := by rw [hkd, hjp.1, hjo.1]; exact rf_ok (by decide) (by decide) hm16b (show 2 ≤ m9 by omega) (fun z => absurd z (by decide)) (fun z => absurd z (by decide))
                                                  have hjr2 : jrF v9 j9 ln f9 n lf (nI (p9 + 1)) (lyy (lft (ldn js.1)) (lyy (lft js.1) (ldn (ldn js.1))), js.2) = RJ := by rw [← hjr, jr_st hnO hp9 (by rw [hkd]; decide) (by rw [hkd]; decide) hrf, st_31 hkd]
                                                  have hupp : x109 = Lj 75 (m9 - 1) := by rw [ex109, nI_clamp (by omega)]
                                                  have hlow : x110 = Lj 75 (m9 - 2) := by rw [ex110, nI_clamp (by omega)]
                                                  have hjp2 : JP (lyy (lft (ldn js.1)) (lyy (lft js.1) (ldn (ldn js.1)))) m9 (L114 75) := by rw [eL114, va_up_self, eL112, va_up_self, nI_clamp (by omega), nI_clamp (by omega), hupp, hlow]; exact hjp.swap (by omega)
                                                  rw [show x111 = nI (p9 + 1) by rw [ex111]; exact (nI_succ p9).symm] at hl
                                                  rw [ex108] at hl
                                                  have hmu2 : 2 * lf + agN v9 j9 (p9 + 1) < n := by have y := @agN_le v9 j9 (p9 + 1); omega
                                                  exact ih (p9 + 1) m9 lf sz Ij Fj L114 (lyy (lft (ldn js.1)) (lyy (lft js.1) (ldn (ldn js.1))), js.2) hmu2 hjr2 hjp2 hjo (by omega) (by omega) hIo h38j hbj h66j h68j hsz64 hFo (fun j hj => by rw [eL114, va_up_ne _ _ (by omega), eL112, va_up_ne _ _ (by omega)]; exact hLo j hj) G115 hM hF _ _ hG hS ls (lv_sub hl [8, 9, 10, 5, 0] rfl)
                                            · skip
                                              exact absurd (by decide) c_248
                                        · skip
                                          exact absurd c_229 (by decide)
                          · skip
                            exact absurd c_169 (by decide)
                      · skip
                        refine lv_iconst (v := 0) hx hb dX14_job_150 (by decide) ?_
                        have hz0 : lf9 = 0 := by have z := congrArg Int64.toInt ((lg_cmp_eq _ _).mp c_147); rw [i64_on (by omega), show (0 : Int64).toInt = 0 by decide] at z; omega
                        have hRJ : RJ = (0, js) := by rw [← hjr]; exact jr_0 hnO hp9 (by rw [hkd]; decide) hz0
                        exact W.iret (v := 0) hx hb hr (fun t ht hW => ⟨⟨_, _, rfl, ⟨Ij, Fj, Lj, hM, hF, hIo, h38j, ⟨sz, hsz64, h68j⟩, hFo, hLo, (by rw [hA9, hRJ]), (fun k hk _ => by rw [hoI] at hk; rw [← Option.some.inj hk, hE9, hRJ]; exact ⟨sz, h68j, hjo⟩), (fun z => z.elim (fun z => by rw [hoI] at z; cases z) (fun z => absurd hxr z))⟩, mk_end hG ht⟩, hS.F ht⟩) hS.2.2 dX14_job_151
                    · skip
                      exact absurd c_119 (by decide)
                  · skip
                    replace hkd := hkde.trans hkd
                    rw [show x9 = 22 by rw [hx35, hkd]; rfl] at hl
                    refine lv_iload hx hb dX14_job_115 (lv_at hl 0 rfl) ?_
                    refine lv_bipush (v := 25) hx hb dX14_job_117 (by decide) ?_
                    refine lv_icmp_ne (tgt := 143) hx hb dX14_job_119 (by decide) (fun c_119 => ?_) (fun c_119 => ?_)
                    · skip
                      refine lv_lload hx hb dX14_job_143 (lv_at hl 5 rfl) ?_
                      refine lv_lconst (v := 0) hx hb dX14_job_145 (by decide) ?_
                      refine W.lcmp hx hb dX14_job_146 ?_
                      refine lv_if_ne (tgt := 152) hx hb dX14_job_147 (by decide) (fun c_147 => ?_) (fun c_147 => ?_)
                      · skip
                        obtain ⟨lf, hlf⟩ : ∃ y, lf9 = y + 1 := ⟨lf9 - 1, by have y : lf9 ≠ 0 := fun z => c_147 ((lg_cmp_eq _ _).mpr (by rw [z]; rfl)); omega⟩
                        rw [hlf] at hl hmu hjr
                        refine lv_lload hx hb dX14_job_152 (lv_at hl 5 rfl) ?_
                        refine lv_lconst (v := 1) hx hb dX14_job_154 (by decide) ?_
                        refine lv_lsub hx hb dX14_job_155 ?_
                        rw [i64_dec (by omega)]
                        refine lv_topl (fun x117 ex117 => ?_)
                        refine lv_lstore (lv' := [(6, .long x117), (10, .int 22), (9, .int (nI (100 * j9 + p9))), (0, .ref o), (4, .int (nI j9)), (5, .int (nI m9)), (8, .int (nI p9))]) hx hb dX14_job_156 hl (by decide) rfl (fun ls hl => ?_)
                        refine lv_iload hx hb dX14_job_158 (lv_at hl 1 rfl) ?_
                        refine lv_bipush (v := 15) hx hb dX14_job_160 (by decide) ?_
                        refine lv_icmp_eq (tgt := 172) hx hb dX14_job_162 (by decide) (fun c_162 => ?_) (fun c_162 => ?_)
                        · skip
                          exact absurd c_162 (by decide)
                        · skip
                          refine lv_iload hx hb dX14_job_165 (lv_at hl 1 rfl) ?_
                          refine lv_bipush (v := 16) hx hb dX14_job_167 (by decide) ?_
                          refine lv_icmp_ne (tgt := 176) hx hb dX14_job_169 (by decide) (fun c_169 => ?_) (fun c_169 => ?_)
                          · skip
                            refine lv_iload hx hb dX14_job_176 (lv_at hl 1 rfl) ?_
                            refine lv_bipush (v := 17) hx hb dX14_job_178 (by decide) ?_
                            refine lv_icmp_eq (tgt := 204) hx hb dX14_job_180 (by decide) (fun c_180 => ?_) (fun c_180 => ?_)
                            · skip
                              exact absurd c_180 (by decide)
                            · skip
                              refine lv_iload hx hb dX14_job_183 (lv_at hl 1 rfl) ?_
                              refine lv_bipush (v := 18) hx hb dX14_job_185 (by decide) ?_
                              refine lv_icmp_eq (tgt := 204) hx hb dX14_job_187 (by decide) (fun c_187 => ?_) (fun c_187 => ?_)
                              · skip
                                exact absurd c_187 (by decide)
                              · skip
                                refine lv_iload hx hb dX14_job_190 (lv_at hl 1 rfl) ?_
                                refine lv_bipush (v := 19) hx hb dX14_job_192 (by decide) ?_
                                refine lv_icmp_eq (tgt := 204) hx hb dX14_job_194 (by decide) (fun c_194 => ?_) (fun c_194 => ?_)
                                · skip
                                  exact absurd c_194 (by decide)
                                · skip
                                  refine lv_iload hx hb dX14_job_197 (lv_at hl 1 rfl) ?_
                                  refine lv_bipush (v := 21) hx hb dX14_job_199 (by decide) ?_
                                  refine lv_icmp_ne (tgt := 208) hx hb dX14_job_201 (by decide) (fun c_201 => ?_) (fun c_201 => ?_)
                                  · skip
                                    refine lv_iconst (v := 1) hx hb dX14_job_208 (by decide) ?_
                                    refine lv_istore (lv' := [(11, .int 1), (6, .long x117), (10, .int 22), (9, .int (nI (100 * j9 + p9))), (0, .ref o), (4, .int (nI j9)), (5, .int (nI m9)), (8, .int (nI p9))]) hx hb dX14_job_209 hl (by decide) rfl (fun ls hl => ?_)
                                    refine lv_iload hx hb dX14_job_211 (lv_at hl 2 rfl) ?_
                                    refine lv_bipush (v := 15) hx hb dX14_job_213 (by decide) ?_
                                    refine lv_icmp_eq (tgt := 232) hx hb dX14_job_215 (by decide) (fun c_215 => ?_) (fun c_215 => ?_)
                                    · skip
                                      exact absurd c_215 (by decide)
                                    · skip
                                      refine lv_iload hx hb dX14_job_218 (lv_at hl 2 rfl) ?_
                                      refine lv_bipush (v := 16) hx hb dX14_job_220 (by decide) ?_
                                      refine lv_icmp_eq (tgt := 232) hx hb dX14_job_222 (by decide) (fun c_222 => ?_) (fun c_222 => ?_)
                                      · skip
                                        exact absurd c_222 (by decide)
                                      · skip
                                        refine lv_iload hx hb dX14_job_225 (lv_at hl 2 rfl) ?_
                                        refine lv_bipush (v := 20) hx hb dX14_job_227 (by decide) ?_
                                        refine lv_icmp_ne (tgt := 236) hx hb dX14_job_229 (by decide) (fun c_229 => ?_) (fun c_229 => ?_)
                                        · skip
                                          refine lv_iconst (v := 0) hx hb dX14_job_236 (by decide) ?_
                                          refine lv_istore (lv' := [(12, .int 0), (11, .int 1), (6, .long x117), (10, .int 22), (9, .int (nI (100 * j9 + p9))), (0, .ref o), (4, .int (nI j9)), (5, .int (nI m9)), (8, .int (nI p9))]) hx hb dX14_job_237 hl (by decide) rfl (fun ls hl => ?_)
                                          refine lv_iload hx hb dX14_job_239 (lv_at hl 7 rfl) ?_
                                          refine lv_iload hx hb dX14_job_241 (lv_at hl 1 rfl) ?_
                                          refine lv_icmp_lt (tgt := 258) hx hb dX14_job_243 (by decide) (fun c_243 => ?_) (fun c_243 => ?_)
                                          · skip
                                            refine lv_bipush (v := (-3)) hx hb dX14_job_258 (by decide) ?_
                                            have hRJ : RJ = (-3, js) := by rw [← hjr]; exact jr_r hnO hp9 (by rw [hkd]; decide) (by rw [hkd, hjp.1, hjo.1]; exact rf_n3 (by decide) (by decide) hm16b (Or.inl ((nI_ltI (b := 1) (by omega) (by decide)).mp c_243))) (by decide)
                                            exact W.iret (v := (-3)) hx hb hr (fun t ht hW => ⟨⟨_, _, rfl, ⟨Ij, Fj, Lj, hM, hF, hIo, h38j, ⟨sz, hsz64, h68j⟩, hFo, hLo, (by rw [hA9, hRJ]), (fun k hk _ => by rw [hoI] at hk; rw [← Option.some.inj hk, hE9, hRJ]; exact ⟨sz, h68j, hjo⟩), (fun z => z.elim (fun z => by rw [hoI] at z; cases z) (fun z => absurd hxr z))⟩, mk_end hG ht⟩, hS.F ht⟩) hS.2.2 dX14_job_260
                                          · skip
                                            refine lv_iload hx hb dX14_job_246 (lv_at hl 0 rfl) ?_
                                            refine lv_if_eq (tgt := 261) hx hb dX14_job_248 (by decide) (fun c_248 => ?_) (fun c_248 => ?_)
                                            · skip
                                              have hmw : 1 ≤ m9 := Nat.le_of_not_lt (fun y => c_243 (nI_lt (b := 1) y (by decide)))
                                              refine lv_iload hx hb dX14_job_261 (lv_at hl 7 rfl) ?_
                                              refine lv_if_le (tgt := 278) hx hb dX14_job_263 (by decide) (fun c_263 => ?_) (fun c_263 => ?_)
                                              · skip
                                                exact absurd c_263 (nI_nle (by omega) (by omega))
                                              · skip
                                                have hm1 : 0 < m9 := Nat.pos_of_ne_zero (fun y => c_263 (by rw [y]; exact Int32.le_refl 0))
                                                refine lv_aload_n hx hb dX14_job_266 rfl (lv_at hl 5 rfl) ?_
                                                refine mm_get (v := .ref (Ar 75)) hx hb hf_X14 (fun _ h9 => h9) hown hK hG hM.1 rfl 75 (by decide) (tb_use hT tw_1466) (fun _ h9 => h9) (mfs_g75 _ _) dX14_job_267 ?_
                                                refine lv_iload hx hb dX14_job_270 (lv_at hl 7 rfl) ?_
                                                refine lv_iconst (v := 1) hx hb dX14_job_272 (by decide) ?_
                                                refine lv_isub hx hb dX14_job_273 ?_
                                                rw [show ((nI m9) - 1) = nI (m9 - 1) from nI_sb (a := 1) (b := m9) (by omega)]
                                                refine mm_lald (n := 16) (f := Lj 75) hx hb hK hG 2 (hM.2.2.1 75 rfl) rfl (nI_in (N := 16) (by omega) (by decide)) dX14_job_274 ?_
                                                refine lv_topl (fun x118 ex118 => ?_)
                                                refine lv_goto (tgt := 279) hx hb dX14_job_275 (by decide) ?_
                                                refine lv_lstore (lv' := [(13, .long x118), (12, .int 0), (11, .int 1), (6, .long x117), (10, .int 22), (9, .int (nI (100 * j9 + p9))), (0, .ref o), (4, .int (nI j9)), (5, .int (nI m9)), (8, .int (nI p9))]) hx hb dX14_job_279 hl (by decide) rfl (fun ls hl => ?_)
                                                refine lv_iload hx hb dX14_job_281 (lv_at hl 8 rfl) ?_
                                                refine lv_iconst (v := 1) hx hb dX14_job_283 (by decide) ?_
                                                refine lv_icmp_le (tgt := 299) hx hb dX14_job_284 (by decide) (fun c_284 => ?_) (fun c_284 => ?_)
                                                · skip
                                                  refine lv_lconst (v := 0) hx hb dX14_job_299 (by decide) ?_
                                                  refine lv_lstore (lv' := [(15, .long 0), (13, .long x118), (12, .int 0), (11, .int 1), (6, .long x117), (10, .int 22), (9, .int (nI (100 * j9 + p9))), (0, .ref o), (4, .int (nI j9)), (5, .int (nI m9)), (8, .int (nI p9))]) hx hb dX14_job_300 hl (by decide) rfl (fun ls hl => ?_)
                                                  obtain ⟨x119, ex119⟩ : ∃ y : Int32, y = (nI p9) + 1 := ⟨_, rfl⟩
                                                  refine lv_iinc (v := x119) (lv' := [(8, .int x119), (15, .long 0), (13, .long x118), (12, .int 0), (11, .int 1), (6, .long x117), (10, .int 22), (9, .int (nI (100 * j9 + p9))), (0, .ref o), (4, .int (nI j9)), (5, .int (nI m9))]) hx hb dX14_job_302 hl (k := 10) rfl (by rw [ex119]; rfl) (by decide) rfl (fun ls hl => ?_)
                                                  refine lv_iload hx hb dX14_job_305 (lv_at hl 6 rfl) ?_
                                                  refine lv_tableIn (tgt := 579) hx hb dX14_job_307 (by decide) (by decide) (off := 272) rfl (by decide) ?_
                                                  obtain ⟨x120, ex120⟩ : ∃ y : Int32, y = (nI m9) + (-1) := ⟨_, rfl⟩
                                                  refine lv_iinc (v := x120) (lv' := [(5, .int x120), (8, .int x119), (15, .long 0), (13, .long x118), (12, .int 0), (11, .int 1), (6, .long x117), (10, .int 22), (9, .int (nI (100 * j9 + p9))), (0, .ref o), (4, .int (nI j9))]) hx hb dX14_job_579 hl (k := 10) rfl (by rw [ex120]; rfl) (by decide) rfl (fun ls hl => ?_)
                                                  refine lv_goto (tgt := 68) hx hb dX14_job_582 (by decide) ?_
                                                  have hrf : rfs js.1.1 (v9.O j9 p9).1 js.2.2.1 = 0 := by rw [hkd, hjp.1, hjo.1]; exact rf_ok (by decide) (by decide) hm16b (show 1 ≤ m9 by omega) (fun z => absurd z (by decide)) (fun z => absurd z (by decide))
                                                  have hjr2 : jrF v9 j9 ln f9 n lf (nI (p9 + 1)) (ldn js.1, js.2) = RJ := by rw [← hjr, jr_st hnO hp9 (by rw [hkd]; decide) (by rw [hkd]; decide) hrf, st_32 hkd]
                                                  have hjp2 : JP (ldn js.1) (m9 - 1) (Lj 75) := hjp.dn
                                                  rw [show x119 = nI (p9 + 1) by rw [ex119]; exact (nI_succ p9).symm] at hl
                                                  rw [show x120 = nI (m9 - 1) by rw [ex120, ← Int32.sub_eq_add_neg]; exact nI_sb (a := 1) (b := m9) (by omega)] at hl
                                                  rw [ex117] at hl
                                                  have hmu2 : 2 * lf + agN v9 j9 (p9 + 1) < n := by have y := @agN_le v9 j9 (p9 + 1); omega
                                                  exact ih (p9 + 1) (m9 - 1) lf sz Ij Fj Lj (ldn js.1, js.2) hmu2 hjr2 hjp2 hjo (by omega) (by omega) hIo h38j hbj h66j h68j hsz64 hFo hLo Gv hM hF _ _ hG hS ls (lv_sub hl [9, 10, 0, 6, 1] rfl)
                                                · skip
                                                  have hm2 : 1 < m9 := Nat.lt_of_not_le (fun y => c_284 (nI_le (b := 1) y (by decide)))
                                                  refine lv_aload_n hx hb dX14_job_287 rfl (lv_at hl 6 rfl) ?_
                                                  refine mm_get (v := .ref (Ar 75)) hx hb hf_X14 (fun _ h9 => h9) hown hK hG hM.1 rfl 75 (by decide) (tb_use hT tw_1466) (fun _ h9 => h9) (mfs_g75 _ _) dX14_job_288 ?_
                                                  refine lv_iload hx hb dX14_job_291 (lv_at hl 8 rfl) ?_
                                                  refine lv_iconst (v := 2) hx hb dX14_job_293 (by decide) ?_
                                                  refine lv_isub hx hb dX14_job_294 ?_
                                                  rw [show ((nI m9) - 2) = nI (m9 - 2) from nI_sb (a := 2) (b := m9) (by omega)]
                                                  refine mm_lald (n := 16) (f := Lj 75) hx hb hK hG 2 (hM.2.2.1 75 rfl) rfl (nI_in (N := 16) (by omega) (by decide)) dX14_job_295 ?_
                                                  refine lv_topl (fun x121 ex121 => ?_)
                                                  refine lv_goto (tgt := 300) hx hb dX14_job_296 (by decide) ?_
                                                  refine lv_lstore (lv' := [(15, .long x121), (13, .long x118), (12, .int 0), (11, .int 1), (6, .long x117), (10, .int 22), (9, .int (nI (100 * j9 + p9))), (0, .ref o), (4, .int (nI j9)), (5, .int (nI m9)), (8, .int (nI p9))]) hx hb dX14_job_300 hl (by decide) rfl (fun ls hl => ?_)
                                                  obtain ⟨x122, ex122⟩ : ∃ y : Int32, y = (nI p9) + 1 := ⟨_, rfl⟩
                                                  refine lv_iinc (v := x122) (lv' := [(8, .int x122), (15, .long x121), (13, .long x118), (12, .int 0), (11, .int 1), (6, .long x117), (10, .int 22), (9, .int (nI (100 * j9 + p9))), (0, .ref o), (4, .int (nI j9)), (5, .int (nI m9))]) hx hb dX14_job_302 hl (k := 10) rfl (by rw [ex122]; rfl) (by decide) rfl (fun ls hl => ?_)
                                                  refine lv_iload hx hb dX14_job_305 (lv_at hl 6 rfl) ?_
                                                  refine lv_tableIn (tgt := 579) hx hb dX14_job_307 (by decide) (by decide) (off := 272) rfl (by decide) ?_
                                                  obtain ⟨x123, ex123⟩ : ∃ y : Int32, y = (nI m9) + (-1) := ⟨_, rfl⟩
                                                  refine lv_iinc (v := x123) (lv' := [(5, .int x123), (8, .int x122), (15, .long x121), (13, .long x118), (12, .int 0), (11, .int 1), (6, .long x117), (10, .int 22), (9, .int (nI (100 * j9 + p9))), (0, .ref o), (4, .int (nI j9))]) hx hb dX14_job_579 hl (k := 10) rfl (by rw [ex123]; rfl) (by decide) rfl (fun ls hl => ?_)
                                                  refine lv_goto (tgt := 68) hx hb dX14_job_582 (by decide) ?_
                                                  have hrf : rfs js.1.1 (v9.O j9 p9).1 js.2.2.1 = 0 := by rw [hkd, hjp.1, hjo.1]; exact rf_ok (by decide) (by decide) hm16b (show 1 ≤ m9 by omega) (fun z => absurd z (by decide)) (fun z => absurd z (by decide))
                                                  have hjr2 : jrF v9 j9 ln f9 n lf (nI (p9 + 1)) (ldn js.1, js.2) = RJ := by rw [← hjr, jr_st hnO hp9 (by rw [hkd]; decide) (by rw [hkd]; decide) hrf, st_32 hkd]
                                                  have hjp2 : JP (ldn js.1) (m9 - 1) (Lj 75) := hjp.dn
                                                  rw [show x122 = nI (p9 + 1) by rw [ex122]; exact (nI_succ p9).symm] at hl
                                                  rw [show x123 = nI (m9 - 1) by rw [ex123, ← Int32.sub_eq_add_neg]; exact nI_sb (a := 1) (b := m9) (by omega)] at hl
                                                  rw [ex117] at hl
                                                  have hmu2 : 2 * lf + agN v9 j9 (p9 + 1) < n := by have y := @agN_le v9 j9 (p9 + 1); omega
                                                  exact ih (p9 + 1) (m9 - 1) lf sz Ij Fj Lj (ldn js.1, js.2) hmu2 hjr2 hjp2 hjo (by omega) (by omega) hIo h38j hbj h66j h68j hsz64 hFo hLo Gv hM hF _ _ hG hS ls (lv_sub hl [9, 10, 0, 6, 1] rfl)
                                            · skip
                                              exact absurd (by decide) c_248
                                        · skip
                                          exact absurd c_229 (by decide)
                                  · skip
                                    exact absurd c_201 (by decide)
                          · skip
                            exact absurd c_169 (by decide)
                      · skip
                        refine lv_iconst (v := 0) hx hb dX14_job_150 (by decide) ?_
                        have hz0 : lf9 = 0 := by have z := congrArg Int64.toInt ((lg_cmp_eq _ _).mp c_147); rw [i64_on (by omega), show (0 : Int64).toInt = 0 by decide] at z; omega
                        have hRJ : RJ = (0, js) := by rw [← hjr]; exact jr_0 hnO hp9 (by rw [hkd]; decide) hz0
                        exact W.iret (v := 0) hx hb hr (fun t ht hW => ⟨⟨_, _, rfl, ⟨Ij, Fj, Lj, hM, hF, hIo, h38j, ⟨sz, hsz64, h68j⟩, hFo, hLo, (by rw [hA9, hRJ]), (fun k hk _ => by rw [hoI] at hk; rw [← Option.some.inj hk, hE9, hRJ]; exact ⟨sz, h68j, hjo⟩), (fun z => z.elim (fun z => by rw [hoI] at z; cases z) (fun z => absurd hxr z))⟩, mk_end hG ht⟩, hS.F ht⟩) hS.2.2 dX14_job_151
                    · skip
                      exact absurd c_119 (by decide)
                  · skip
                    replace hkd := hkde.trans hkd
                    rw [show x9 = 23 by rw [hx35, hkd]; rfl] at hl
                    refine lv_iload hx hb dX14_job_115 (lv_at hl 0 rfl) ?_
                    refine lv_bipush (v := 25) hx hb dX14_job_117 (by decide) ?_
                    refine lv_icmp_ne (tgt := 143) hx hb dX14_job_119 (by decide) (fun c_119 => ?_) (fun c_119 => ?_)
                    · skip
                      refine lv_lload hx hb dX14_job_143 (lv_at hl 5 rfl) ?_
                      refine lv_lconst (v := 0) hx hb dX14_job_145 (by decide) ?_
                      refine W.lcmp hx hb dX14_job_146 ?_
                      refine lv_if_ne (tgt := 152) hx hb dX14_job_147 (by decide) (fun c_147 => ?_) (fun c_147 => ?_)
                      · skip
                        obtain ⟨lf, hlf⟩ : ∃ y, lf9 = y + 1 := ⟨lf9 - 1, by have y : lf9 ≠ 0 := fun z => c_147 ((lg_cmp_eq _ _).mpr (by rw [z]; rfl)); omega⟩
                        rw [hlf] at hl hmu hjr
                        refine lv_lload hx hb dX14_job_152 (lv_at hl 5 rfl) ?_
                        refine lv_lconst (v := 1) hx hb dX14_job_154 (by decide) ?_
                        refine lv_lsub hx hb dX14_job_155 ?_
                        rw [i64_dec (by omega)]
                        refine lv_topl (fun x125 ex125 => ?_)
                        refine lv_lstore (lv' := [(6, .long x125), (10, .int 23), (9, .int (nI (100 * j9 + p9))), (0, .ref o), (4, .int (nI j9)), (5, .int (nI m9)), (8, .int (nI p9))]) hx hb dX14_job_156 hl (by decide) rfl (fun ls hl => ?_)
                        refine lv_iload hx hb dX14_job_158 (lv_at hl 1 rfl) ?_
                        refine lv_bipush (v := 15) hx hb dX14_job_160 (by decide) ?_
                        refine lv_icmp_eq (tgt := 172) hx hb dX14_job_162 (by decide) (fun c_162 => ?_) (fun c_162 => ?_)
                        · skip
                          exact absurd c_162 (by decide)
                        · skip
                          refine lv_iload hx hb dX14_job_165 (lv_at hl 1 rfl) ?_
                          refine lv_bipush (v := 16) hx hb dX14_job_167 (by decide) ?_
                          refine lv_icmp_ne (tgt := 176) hx hb dX14_job_169 (by decide) (fun c_169 => ?_) (fun c_169 => ?_)
                          · skip
                            refine lv_iload hx hb dX14_job_176 (lv_at hl 1 rfl) ?_
                            refine lv_bipush (v := 17) hx hb dX14_job_178 (by decide) ?_
                            refine lv_icmp_eq (tgt := 204) hx hb dX14_job_180 (by decide) (fun c_180 => ?_) (fun c_180 => ?_)
                            · skip
                              exact absurd c_180 (by decide)
                            · skip
                              refine lv_iload hx hb dX14_job_183 (lv_at hl 1 rfl) ?_
                              refine lv_bipush (v := 18) hx hb dX14_job_185 (by decide) ?_
                              refine lv_icmp_eq (tgt := 204) hx hb dX14_job_187 (by decide) (fun c_187 => ?_) (fun c_187 => ?_)
                              · skip
                                exact absurd c_187 (by decide)
                              · skip
                                refine lv_iload hx hb dX14_job_190 (lv_at hl 1 rfl) ?_
                                refine lv_bipush (v := 19) hx hb dX14_job_192 (by decide) ?_
                                refine lv_icmp_eq (tgt := 204) hx hb dX14_job_194 (by decide) (fun c_194 => ?_) (fun c_194 => ?_)
                                · skip
                                  exact absurd c_194 (by decide)
                                · skip
                                  refine lv_iload hx hb dX14_job_197 (lv_at hl 1 rfl) ?_
                                  refine lv_bipush (v := 21) hx hb dX14_job_199 (by decide) ?_
                                  refine lv_icmp_ne (tgt := 208) hx hb dX14_job_201 (by decide) (fun c_201 => ?_) (fun c_201 => ?_)
                                  · skip
                                    refine lv_iconst (v := 1) hx hb dX14_job_208 (by decide) ?_
                                    refine lv_istore (lv' := [(11, .int 1), (6, .long x125), (10, .int 23), (9, .int (nI (100 * j9 + p9))), (0, .ref o), (4, .int (nI j9)), (5, .int (nI m9)), (8, .int (nI p9))]) hx hb dX14_job_209 hl (by decide) rfl (fun ls hl => ?_)
                                    refine lv_iload hx hb dX14_job_211 (lv_at hl 2 rfl) ?_
                                    refine lv_bipush (v := 15) hx hb dX14_job_213 (by decide) ?_
                                    refine lv_icmp_eq (tgt := 232) hx hb dX14_job_215 (by decide) (fun c_215 => ?_) (fun c_215 => ?_)
                                    · skip
                                      exact absurd c_215 (by decide)
                                    · skip
                                      refine lv_iload hx hb dX14_job_218 (lv_at hl 2 rfl) ?_
                                      refine lv_bipush (v := 16) hx hb dX14_job_220 (by decide) ?_
                                      refine lv_icmp_eq (tgt := 232) hx hb dX14_job_222 (by decide) (fun c_222 => ?_) (fun c_222 => ?_)
                                      · skip
                                        exact absurd c_222 (by decide)
                                      · skip
                                        refine lv_iload hx hb dX14_job_225 (lv_at hl 2 rfl) ?_
                                        refine lv_bipush (v := 20) hx hb dX14_job_227 (by decide) ?_
                                        refine lv_icmp_ne (tgt := 236) hx hb dX14_job_229 (by decide) (fun c_229 => ?_) (fun c_229 => ?_)
                                        · skip
                                          refine lv_iconst (v := 0) hx hb dX14_job_236 (by decide) ?_
                                          refine lv_istore (lv' := [(12, .int 0), (11, .int 1), (6, .long x125), (10, .int 23), (9, .int (nI (100 * j9 + p9))), (0, .ref o), (4, .int (nI j9)), (5, .int (nI m9)), (8, .int (nI p9))]) hx hb dX14_job_237 hl (by decide) rfl (fun ls hl => ?_)
                                          refine lv_iload hx hb dX14_job_239 (lv_at hl 7 rfl) ?_
                                          refine lv_iload hx hb dX14_job_241 (lv_at hl 1 rfl) ?_
                                          refine lv_icmp_lt (tgt := 258) hx hb dX14_job_243 (by decide) (fun c_243 => ?_) (fun c_243 => ?_)
                                          · skip
                                            refine lv_bipush (v := (-3)) hx hb dX14_job_258 (by decide) ?_
                                            have hRJ : RJ = (-3, js) := by rw [← hjr]; exact jr_r hnO hp9 (by rw [hkd]; decide) (by rw [hkd, hjp.1, hjo.1]; exact rf_n3 (by decide) (by decide) hm16b (Or.inl ((nI_ltI (b := 1) (by omega) (by decide)).mp c_243))) (by decide)
                                            exact W.iret (v := (-3)) hx hb hr (fun t ht hW => ⟨⟨_, _, rfl, ⟨Ij, Fj, Lj, hM, hF, hIo, h38j, ⟨sz, hsz64, h68j⟩, hFo, hLo, (by rw [hA9, hRJ]), (fun k hk _ => by rw [hoI] at hk; rw [← Option.some.inj hk, hE9, hRJ]; exact ⟨sz, h68j, hjo⟩), (fun z => z.elim (fun z => by rw [hoI] at z; cases z) (fun z => absurd hxr z))⟩, mk_end hG ht⟩, hS.F ht⟩) hS.2.2 dX14_job_260
                                          · skip
                                            refine lv_iload hx hb dX14_job_246 (lv_at hl 0 rfl) ?_
                                            refine lv_if_eq (tgt := 261) hx hb dX14_job_248 (by decide) (fun c_248 => ?_) (fun c_248 => ?_)
                                            · skip
                                              have hmw : 1 ≤ m9 := Nat.le_of_not_lt (fun y => c_243 (nI_lt (b := 1) y (by decide)))
                                              refine lv_iload hx hb dX14_job_261 (lv_at hl 7 rfl) ?_
                                              refine lv_if_le (tgt := 278) hx hb dX14_job_263 (by decide) (fun c_263 => ?_) (fun c_263 => ?_)
                                              · skip
                                                exact absurd c_263 (nI_nle (by omega) (by omega))
                                              · skip
                                                have hm1 : 0 < m9 := Nat.pos_of_ne_zero (fun y => c_263 (by rw [y]; exact Int32.le_refl 0))
                                                refine lv_aload_n hx hb dX14_job_266 rfl (lv_at hl 5 rfl) ?_
                                                refine mm_get (v := .ref (Ar 75)) hx hb hf_X14 (fun _ h9 => h9) hown hK hG hM.1 rfl 75 (by decide) (tb_use hT tw_1466) (fun _ h9 => h9) (mfs_g75 _ _) dX14_job_267 ?_
                                                refine lv_iload hx hb dX14_job_270 (lv_at hl 7 rfl) ?_
                                                refine lv_iconst (v := 1) hx hb dX14_job_272 (by decide) ?_
                                                refine lv_isub hx hb dX14_job_273 ?_
                                                rw [show ((nI m9) - 1) = nI (m9 - 1) from nI_sb (a := 1) (b := m9) (by omega)]
                                                refine mm_lald (n := 16) (f := Lj 75) hx hb hK hG 2 (hM.2.2.1 75 rfl) rfl (nI_in (N := 16) (by omega) (by decide)) dX14_job_274 ?_
                                                refine lv_topl (fun x126 ex126 => ?_)
                                                refine lv_goto (tgt := 279) hx hb dX14_job_275 (by decide) ?_
                                                refine lv_lstore (lv' := [(13, .long x126), (12, .int 0), (11, .int 1), (6, .long x125), (10, .int 23), (9, .int (nI (100 * j9 + p9))), (0, .ref o), (4, .int (nI j9)), (5, .int (nI m9)), (8, .int (nI p9))]) hx hb dX14_job_279 hl (by decide) rfl (fun ls hl => ?_)
                                                refine lv_iload hx hb dX14_job_281 (lv_at hl 8 rfl) ?_
                                                refine lv_iconst (v := 1) hx hb dX14_job_283 (by decide) ?_
                                                refine lv_icmp_le (tgt := 299) hx hb dX14_job_284 (by decide) (fun c_284 => ?_) (fun c_284 => ?_)
                                                · skip
                                                  refine lv_lconst (v := 0) hx hb dX14_job_299 (by decide) ?_
                                                  refine lv_lstore (lv' := [(15, .long 0), (13, .long x126), (12, .int 0), (11, .int 1), (6, .long x125), (10, .int 23), (9, .int (nI (100 * j9 + p9))), (0, .ref o), (4, .int (nI j9)), (5, .int (nI m9)), (8, .int (nI p9))]) hx hb dX14_job_300 hl (by decide) rfl (fun ls hl => ?_)
                                                  obtain ⟨x127, ex127⟩ : ∃ y : Int32, y = (nI p9) + 1 := ⟨_, rfl⟩
                                                  refine lv_iinc (v := x127) (lv' := [(8, .int x127), (15, .long 0), (13, .long x126), (12, .int 0), (11, .int 1), (6, .long x125), (10, .int 23), (9, .int (nI (100 * j9 + p9))), (0, .ref o), (4, .int (nI j9)), (5, .int (nI m9))]) hx hb dX14_job_302 hl (k := 10) rfl (by rw [ex127]; rfl) (by decide) rfl (fun ls hl => ?_)
                                                  refine lv_iload hx hb dX14_job_305 (lv_at hl 6 rfl) ?_
                                                  refine lv_tableIn (tgt := 535) hx hb dX14_job_307 (by decide) (by decide) (off := 228) rfl (by decide) ?_
                                                  refine lv_aload_n hx hb dX14_job_535 rfl (lv_at hl 8 rfl) ?_
                                                  refine mm_get (v := .int (Ij 68)) hx hb hf_X14 (fun _ h9 => h9) hown hK hG hM.1 rfl 68 (by decide) (tb_use hT tw_1459) (fun _ h9 => h9) (mfs_g68 _ _) dX14_job_536 ?_
                                                  rw [show (Ij 68) = nI sz from h68j]
                                                  refine lv_bipush (v := 64) hx hb dX14_job_539 (by decide) ?_
                                                  refine lv_icmp_ne (tgt := 547) hx hb dX14_job_541 (by decide) (fun c_541 => ?_) (fun c_541 => ?_)
                                                  · skip
                                                    refine lv_aload_n hx hb dX14_job_547 rfl (lv_at hl 8 rfl) ?_
                                                    refine mm_get (v := .ref (Ar 67)) hx hb hf_X14 (fun _ h9 => h9) hown hK hG hM.1 rfl 67 (by decide) (tb_use hT tw_1458) (fun _ h9 => h9) (mfs_g67 _ _) dX14_job_548 ?_
                                                    refine lv_aload_n hx hb dX14_job_551 rfl (lv_at hl 8 rfl) ?_
                                                    refine mm_get (v := .int (Ij 68)) hx hb hf_X14 (fun _ h9 => h9) hown hK hG hM.1 rfl 68 (by decide) (tb_use hT tw_1459) (fun _ h9 => h9) (mfs_g68 _ _) dX14_job_552 ?_
                                                    have hsz : sz < 64 := by have y : sz ≠ 64 := fun z => c_541 (by rw [z]; rfl); omega
                                                    rw [show (Ij 68) = nI sz from h68j]
                                                    refine lv_lload hx hb dX14_job_555 (lv_at hl 2 rfl) ?_
                                                    refine lv_ldc2 hx hb hown (tb_use hT tw_1838) dX14_job_557 ?_
                                                    refine lv_land hx hb dX14_job_560 ?_
                                                    obtain ⟨x128, ex128⟩ : ∃ y, y = ((x126 &&& 255) : Int64).toInt32 := ⟨_, rfl⟩
                                                    refine lv_l2i (v := x128) hx hb dX14_job_561 ex128.symm ?_
                                                    refine mm_iast (n := mdN 67) (f := Fj 67) hx hb hK hG hS 1 (hM.2.1 67 rfl) rfl (nI_in (N := mdN 67) (by show _ < 64; omega) (by decide)) dX14_job_562 (fun H locs hG hS => ?_)
                                                    have hM := MD.seti (k := 67) (upd (Fj 67) (nI sz).toNatClampNeg x128) hM rfl
                                                    have hF := hF.wa (k := 67) (e' := .inl (cy 1, mdN 67, .inl (upd (Fj 67) (nI sz).toNatClampNeg x128))) rfl
                                                    obtain ⟨F129, eF129⟩ : ∃ g, g = va_up Fj 67 (upd (Fj 67) (nI sz).toNatClampNeg x128) := ⟨_, rfl⟩
                                                    rw [← eF129] at hM
                                                    have hgn := gn_MD hG hM hF
                                                    clear hG hM hF
                                                    obtain ⟨G130, hG, hM, hF⟩ := hgn
                                                    refine lv_aload_n hx hb dX14_job_563 rfl (lv_at hl 8 rfl) ?_
                                                    refine lv_dup hx hb dX14_job_564 rfl ?_
                                                    refine mm_get (v := .int (Ij 68)) hx hb hf_X14 (fun _ h9 => h9) hown hK hG hM.1 rfl 68 (by decide) (tb_use hT tw_1459) (fun _ h9 => h9) (mfs_g68 _ _) dX14_job_565 ?_
                                                    rw [show (Ij 68) = nI sz from h68j]
                                                    refine lv_iconst (v := 1) hx hb dX14_job_568 (by decide) ?_
                                                    refine lv_iadd hx hb dX14_job_569 ?_
                                                    refine lv_topi (fun x131 ex131 => ?_)
                                                    refine mm_put (v := .int x131) (ty := .int) hx hb hf_X14 (fun _ h9 => h9) tyX14 tyX14_ok nmX14 hown hK hG hS hM.1 rfl 68 (by decide) (tb_use hT tw_1459) (fun _ h9 => h9) rfl (by decide +kernel) rfl rfl (mfs_l68 _ _) dX14_job_570 (fun H locs hG hS => ?_)
                                                    have hM := MD.puti (k := 68) (v := x131) hM (mfs_s68 _ _ _)
                                                    have hF := hF.wo (e' := .inr (15, (mfs Ar Ij).set 68 (.int x131)))
                                                    obtain ⟨I132, eI132⟩ : ∃ g, g = upd Ij 68 x131 := ⟨_, rfl⟩
                                                    rw [← eI132] at hM
                                                    have hgn := gn_MD hG hM hF
                                                    clear hG hM hF
                                                    obtain ⟨G133, hG, hM, hF⟩ := hgn
                                                    obtain ⟨x134, ex134⟩ : ∃ y : Int32, y = (nI m9) + (-1) := ⟨_, rfl⟩
                                                    refine lv_iinc (v := x134) (lv' := [(5, .int x134), (8, .int x127), (15, .long 0), (13, .long x126), (12, .int 0), (11, .int 1), (6, .long x125), (10, .int 23), (9, .int (nI (100 * j9 + p9))), (0, .ref o), (4, .int (nI j9))]) hx hb dX14_job_573 hl (k := 10) rfl (by rw [ex134]; rfl) (by decide) rfl (fun ls hl => ?_)
                                                    refine lv_goto (tgt := 582) hx hb dX14_job_576 (by decide) ?_
                                                    refine lv_goto (tgt := 68) hx hb dX14_job_582 (by decide) ?_
                                                    have hrf : rfs js.1.1 (v9.O j9 p9).1 js.2.2.1 = 0 := by rw [hkd, hjp.1, hjo.1]; exact rf_ok (by decide) (by decide) hm16b (show 1 ≤ m9 by omega) (fun z => absurd z (by decide)) (fun _ => hsz)
                                                    have hjr2 : jrF v9 j9 ln f9 n lf (nI (p9 + 1)) (ldn js.1, js.2.1, js.2.2.1 + 1, upd js.2.2.2 js.2.2.1 (vp_nar .byte ((lft js.1).toInt32.toInt8.toInt32))) = RJ := by rw [← hjr, jr_st hnO hp9 (by rw [hkd]; decide) (by rw [hkd]; decide) hrf, st_33 hkd]
                                                    have hupp : x126 = Lj 75 (m9 - 1) := by rw [ex126, nI_clamp (by omega)]
                                                    have hlf0 : lft js.1 = x126 := (hjp.lf (by omega)).trans hupp.symm
                                                    have hjp2 : JP (ldn js.1) (m9 - 1) (Lj 75) := hjp.dn
                                                    have hval : x128 = (lft js.1 &&& 255).toInt32 := by rw [ex128, hlf0]
                                                    have hjo2 : JS (js.2.2.1 + 1, upd js.2.2.2 js.2.2.1 (vp_nar .byte ((lft js.1).toInt32.toInt8.toInt32))) (sz + 1) (F129 67) := by rw [eF129, va_up_self, nI_clamp (by omega), hval]; exact hjo.send hsz
                                                    rw [show x127 = nI (p9 + 1) by rw [ex127]; exact (nI_succ p9).symm] at hl
                                                    rw [show x134 = nI (m9 - 1) by rw [ex134, ← Int32.sub_eq_add_neg]; exact nI_sb (a := 1) (b := m9) (by omega)] at hl
                                                    rw [ex125] at hl
                                                    have hmu2 : 2 * lf + agN v9 j9 (p9 + 1) < n := by have y := @agN_le v9 j9 (p9 + 1); omega
                                                    exact ih (p9 + 1) (m9 - 1) lf (sz + 1) I132 F129 Lj (ldn js.1, js.2.1, js.2.2.1 + 1, upd js.2.2.2 js.2.2.1 (vp_nar .byte ((lft js.1).toInt32.toInt8.toInt32))) hmu2 hjr2 hjp2 hjo2 (by omega) (by omega) (fun j h1 h2 => by rw [eI132, pk_un h2]; exact hIo j h1 h2) (by rw [eI132, pk_un (by decide)]; exact h38j) (by rw [eI132, pk_un (by decide)]; exact hbj) (by rw [eI132, pk_un (by decide)]; exact h66j) (by rw [eI132, pk_us, ex131]; exact nI_1 sz) (by omega) (fun j hj => by rw [eF129, va_up_ne _ _ (by omega)]; exact hFo j hj) hLo G133 hM hF _ _ hG hS ls (lv_sub hl [9, 10, 0, 6, 1] rfl)
                                                  · skip
                                                    refine lv_bipush (v := (-4)) hx hb dX14_job_544 (by decide) ?_
                                                    have hz64 : sz = 64 := nI_inj (by omega) (by decide) c_541
                                                    have hRJ : RJ = (-4, js) := by rw [← hjr]; exact jr_r hnO hp9 (by rw [hkd]; decide) (by rw [hkd, hjp.1, hjo.1]; exact rf_n4 hm16b (by omega) (by omega)) (by decide)
                                                    exact W.iret (v := (-4)) hx hb hr (fun t ht hW => ⟨⟨_, _, rfl, ⟨Ij, Fj, Lj, hM, hF, hIo, h38j, ⟨sz, hsz64, h68j⟩, hFo, hLo, (by rw [hA9, hRJ]), (fun k hk _ => by rw [hoI] at hk; rw [← Option.some.inj hk, hE9, hRJ]; exact ⟨sz, h68j, hjo⟩), (fun z => z.elim (fun z => by rw [hoI] at z; cases z) (fun z => absurd hxr z))⟩, mk_end hG ht⟩, hS.F ht⟩) hS.2.2 dX14_job_546
                                                · skip
                                                  have hm2 : 1 < m9 := Nat.lt_of_not_le (fun y => c_284 (nI_le (b := 1) y (by decide)))
                                                  refine lv_aload_n hx hb dX14_job_287 rfl (lv_at hl 6 rfl) ?_
                                                  refine mm_get (v := .ref (Ar 75)) hx hb hf_X14 (fun _ h9 => h9) hown hK hG hM.1 rfl 75 (by decide) (tb_use hT tw_1466) (fun _ h9 => h9) (mfs_g75 _ _) dX14_job_288 ?_
                                                  refine lv_iload hx hb dX14_job_291 (lv_at hl 8 rfl) ?_
                                                  refine lv_iconst (v := 2) hx hb dX14_job_293 (by decide) ?_
                                                  refine lv_isub hx hb dX14_job_294 ?_
                                                  rw [show ((nI m9) - 2) = nI (m9 - 2) from nI_sb (a := 2) (b := m9) (by omega)]
                                                  refine mm_lald (n := 16) (f := Lj 75) hx hb hK hG 2 (hM.2.2.1 75 rfl) rfl (nI_in (N := 16) (by omega) (by decide)) dX14_job_295 ?_
                                                  refine lv_topl (fun x135 ex135 => ?_)
                                                  refine lv_goto (tgt := 300) hx hb dX14_job_296 (by decide) ?_
                                                  refine lv_lstore (lv' := [(15, .long x135), (13, .long x126), (12, .int 0), (11, .int 1), (6, .long x125), (10, .int 23), (9, .int (nI (100 * j9 + p9))), (0, .ref o), (4, .int (nI j9)), (5, .int (nI m9)), (8, .int (nI p9))]) hx hb dX14_job_300 hl (by decide) rfl (fun ls hl => ?_)
                                                  obtain ⟨x136, ex136⟩ : ∃ y : Int32, y = (nI p9) + 1 := ⟨_, rfl⟩
                                                  refine lv_iinc (v := x136) (lv' := [(8, .int x136), (15, .long x135), (13, .long x126), (12, .int 0), (11, .int 1), (6, .long x125), (10, .int 23), (9, .int (nI (100 * j9 + p9))), (0, .ref o), (4, .int (nI j9)), (5, .int (nI m9))]) hx hb dX14_job_302 hl (k := 10) rfl (by rw [ex136]; rfl) (by decide) rfl (fun ls hl => ?_)
                                                  refine lv_iload hx hb dX14_job_305 (lv_at hl 6 rfl) ?_
                                                  refine lv_tableIn (tgt := 535) hx hb dX14_job_307 (by decide) (by decide) (off := 228) rfl (by decide) ?_
                                                  refine lv_aload_n hx hb dX14_job_535 rfl (lv_at hl 8 rfl) ?_
                                                  refine mm_get (v := .int (Ij 68)) hx hb hf_X14 (fun _ h9 => h9) hown hK hG hM.1 rfl 68 (by decide) (tb_use hT tw_1459) (fun _ h9 => h9) (mfs_g68 _ _) dX14_job_536 ?_
                                                  rw [show (Ij 68) = nI sz from h68j]
                                                  refine lv_bipush (v := 64) hx hb dX14_job_539 (by decide) ?_
                                                  refine lv_icmp_ne (tgt := 547) hx hb dX14_job_541 (by decide) (fun c_541 => ?_) (fun c_541 => ?_)
                                                  · skip
                                                    refine lv_aload_n hx hb dX14_job_547 rfl (lv_at hl 8 rfl) ?_
                                                    refine mm_get (v := .ref (Ar 67)) hx hb hf_X14 (fun _ h9 => h9) hown hK hG hM.1 rfl 67 (by decide) (tb_use hT tw_1458) (fun _ h9 => h9) (mfs_g67 _ _) dX14_job_548 ?_
                                                    refine lv_aload_n hx hb dX14_job_551 rfl (lv_at hl 8 rfl) ?_
                                                    refine mm_get (v := .int (Ij 68)) hx hb hf_X14 (fun _ h9 => h9) hown hK hG hM.1 rfl 68 (by decide) (tb_use hT tw_1459) (fun _ h9 => h9) (mfs_g68 _ _) dX14_job_552 ?_
                                                    have hsz : sz < 64 := by have y : sz ≠ 64 := fun z => c_541 (by rw [z]; rfl); omega
                                                    rw [show (Ij 68) = nI sz from h68j]
                                                    refine lv_lload hx hb dX14_job_555 (lv_at hl 2 rfl) ?_
                                                    refine lv_ldc2 hx hb hown (tb_use hT tw_1838) dX14_job_557 ?_
                                                    refine lv_land hx hb dX14_job_560 ?_
                                                    obtain ⟨x137, ex137⟩ : ∃ y, y = ((x126 &&& 255) : Int64).toInt32 := ⟨_, rfl⟩
                                                    refine lv_l2i (v := x137) hx hb dX14_job_561 ex137.symm ?_
                                                    refine mm_iast (n := mdN 67) (f := Fj 67) hx hb hK hG hS 1 (hM.2.1 67 rfl) rfl (nI_in (N := mdN 67) (by show _ < 64; omega) (by decide)) dX14_job_562 (fun H locs hG hS => ?_)
                                                    have hM := MD.seti (k := 67) (upd (Fj 67) (nI sz).toNatClampNeg x137) hM rfl
                                                    have hF := hF.wa (k := 67) (e' := .inl (cy 1, mdN 67, .inl (upd (Fj 67) (nI sz).toNatClampNeg x137))) rfl
                                                    obtain ⟨F138, eF138⟩ : ∃ g, g = va_up Fj 67 (upd (Fj 67) (nI sz).toNatClampNeg x137) := ⟨_, rfl⟩
                                                    rw [← eF138] at hM
                                                    have hgn := gn_MD hG hM hF
                                                    clear hG hM hF
                                                    obtain ⟨G139, hG, hM, hF⟩ := hgn
                                                    refine lv_aload_n hx hb dX14_job_563 rfl (lv_at hl 8 rfl) ?_
                                                    refine lv_dup hx hb dX14_job_564 rfl ?_
                                                    refine mm_get (v := .int (Ij 68)) hx hb hf_X14 (fun _ h9 => h9) hown hK hG hM.1 rfl 68 (by decide) (tb_use hT tw_1459) (fun _ h9 => h9) (mfs_g68 _ _) dX14_job_565 ?_
                                                    rw [show (Ij 68) = nI sz from h68j]
                                                    refine lv_iconst (v := 1) hx hb dX14_job_568 (by decide) ?_
                                                    refine lv_iadd hx hb dX14_job_569 ?_
                                                    refine lv_topi (fun x140 ex140 => ?_)
                                                    refine mm_put (v := .int x140) (ty := .int) hx hb hf_X14 (fun _ h9 => h9) tyX14 tyX14_ok nmX14 hown hK hG hS hM.1 rfl 68 (by decide) (tb_use hT tw_1459) (fun _ h9 => h9) rfl (by decide +kernel) rfl rfl (mfs_l68 _ _) dX14_job_570 (fun H locs hG hS => ?_)
                                                    have hM := MD.puti (k := 68) (v := x140) hM (mfs_s68 _ _ _)
                                                    have hF := hF.wo (e' := .inr (15, (mfs Ar Ij).set 68 (.int x140)))
                                                    obtain ⟨I141, eI141⟩ : ∃ g, g = upd Ij 68 x140 := ⟨_, rfl⟩
                                                    rw [← eI141] at hM
                                                    have hgn := gn_MD hG hM hF
                                                    clear hG hM hF
                                                    obtain ⟨G142, hG, hM, hF⟩ := hgn
                                                    obtain ⟨x143, ex143⟩ : ∃ y : Int32, y = (nI m9) + (-1) := ⟨_, rfl⟩
                                                    refine lv_iinc (v := x143) (lv' := [(5, .int x143), (8, .int x136), (15, .long x135), (13, .long x126), (12, .int 0), (11, .int 1), (6, .long x125), (10, .int 23), (9, .int (nI (100 * j9 + p9))), (0, .ref o), (4, .int (nI j9))]) hx hb dX14_job_573 hl (k := 10) rfl (by rw [ex143]; rfl) (by decide) rfl (fun ls hl => ?_)
                                                    refine lv_goto (tgt := 582) hx hb dX14_job_576 (by decide) ?_
                                                    refine lv_goto (tgt := 68) hx hb dX14_job_582 (by decide) ?_
                                                    have hrf : rfs js.1.1 (v9.O j9 p9).1 js.2.2.1 = 0 := by rw [hkd, hjp.1, hjo.1]; exact rf_ok (by decide) (by decide) hm16b (show 1 ≤ m9 by omega) (fun z => absurd z (by decide)) (fun _ => hsz)
                                                    have hjr2 : jrF v9 j9 ln f9 n lf (nI (p9 + 1)) (ldn js.1, js.2.1, js.2.2.1 + 1, upd js.2.2.2 js.2.2.1 (vp_nar .byte ((lft js.1).toInt32.toInt8.toInt32))) = RJ := by rw [← hjr, jr_st hnO hp9 (by rw [hkd]; decide) (by rw [hkd]; decide) hrf, st_33 hkd]
                                                    have hupp : x126 = Lj 75 (m9 - 1) := by rw [ex126, nI_clamp (by omega)]
                                                    have hlf0 : lft js.1 = x126 := (hjp.lf (by omega)).trans hupp.symm
                                                    have hjp2 : JP (ldn js.1) (m9 - 1) (Lj 75) := hjp.dn
                                                    have hval : x137 = (lft js.1 &&& 255).toInt32 := by rw [ex137, hlf0]
                                                    have hjo2 : JS (js.2.2.1 + 1, upd js.2.2.2 js.2.2.1 (vp_nar .byte ((lft js.1).toInt32.toInt8.toInt32))) (sz + 1) (F138 67) := by rw [eF138, va_up_self, nI_clamp (by omega), hval]; exact hjo.send hsz
                                                    rw [show x136 = nI (p9 + 1) by rw [ex136]; exact (nI_succ p9).symm] at hl
                                                    rw [show x143 = nI (m9 - 1) by rw [ex143, ← Int32.sub_eq_add_neg]; exact nI_sb (a := 1) (b := m9) (by omega)] at hl
                                                    rw [ex125] at hl
                                                    have hmu2 : 2 * lf + agN v9 j9 (p9 + 1) < n := by have y := @agN_le v9 j9 (p9 + 1); omega
                                                    exact ih (p9 + 1) (m9 - 1) lf (sz + 1) I141 F138 Lj (ldn js.1, js.2.1, js.2.2.1 + 1, upd js.2.2.2 js.2.2.1 (vp_nar .byte ((lft js.1).toInt32.toInt8.toInt32))) hmu2 hjr2 hjp2 hjo2 (by omega) (by omega) (fun j h1 h2 => by rw [eI141, pk_un h2]; exact hIo j h1 h2) (by rw [eI141, pk_un (by decide)]; exact h38j) (by rw [eI141, pk_un (by decide)]; exact hbj) (by rw [eI141, pk_un (by decide)]; exact h66j) (by rw [eI141, pk_us, ex140]; exact nI_1 sz) (by omega) (fun j hj => by rw [eF138, va_up_ne _ _ (by omega)]; exact hFo j hj) hLo G142 hM hF _ _ hG hS ls (lv_sub hl [9, 10, 0, 6, 1] rfl)
                                                  · skip
                                                    refine lv_bipush (v := (-4)) hx hb dX14_job_544 (by decide) ?_
                                                    have hz64 : sz = 64 := nI_inj (by omega) (by decide) c_541
                                                    have hRJ : RJ = (-4, js) := by rw [← hjr]; exact jr_r hnO hp9 (by rw [hkd]; decide) (by rw [hkd, hjp.1, hjo.1]; exact rf_n4 hm16b (by omega) (by omega)) (by decide)
                                                    exact W.iret (v := (-4)) hx hb hr (fun t ht hW => ⟨⟨_, _, rfl, ⟨Ij, Fj, Lj, hM, hF, hIo, h38j, ⟨sz, hsz64, h68j⟩, hFo, hLo, (by rw [hA9, hRJ]), (fun k hk _ => by rw [hoI] at hk; rw [← Option.some.inj hk, hE9, hRJ]; exact ⟨sz, h68j, hjo⟩), (fun z => z.elim (fun z => by rw [hoI] at z; cases z) (fun z => absurd hxr z))⟩, mk_end hG ht⟩, hS.F ht⟩) hS.2.2 dX14_job_546
                                            · skip
                                              exact absurd (by decide) c_248
                                        · skip
                                          exact absurd c_229 (by decide)
                                  · skip
                                    exact absurd c_201 (by decide)
                          · skip
                            exact absurd c_169 (by decide)
                      · skip
                        refine lv_iconst (v := 0) hx hb dX14_job_150 (by decide) ?_
                        have hz0 : lf9 = 0 := by have z := congrArg Int64.toInt ((lg_cmp_eq _ _).mp c_147); rw [i64_on (by omega), show (0 : Int64).toInt = 0 by decide] at z; omega
                        have hRJ : RJ = (0, js) := by rw [← hjr]; exact jr_0 hnO hp9 (by rw [hkd]; decide) hz0
                        exact W.iret (v := 0) hx hb hr (fun t ht hW => ⟨⟨_, _, rfl, ⟨Ij, Fj, Lj, hM, hF, hIo, h38j, ⟨sz, hsz64, h68j⟩, hFo, hLo, (by rw [hA9, hRJ]), (fun k hk _ => by rw [hoI] at hk; rw [← Option.some.inj hk, hE9, hRJ]; exact ⟨sz, h68j, hjo⟩), (fun z => z.elim (fun z => by rw [hoI] at z; cases z) (fun z => absurd hxr z))⟩, mk_end hG ht⟩, hS.F ht⟩) hS.2.2 dX14_job_151
                    · skip
                      exact absurd c_119 (by decide)
                  · skip
                    replace hkd := hkde.trans hkd
                    rw [show x9 = 24 by rw [hx35, hkd]; rfl] at hl
                    refine lv_iload hx hb dX14_job_115 (lv_at hl 0 rfl) ?_
                    refine lv_bipush (v := 25) hx hb dX14_job_117 (by decide) ?_
                    refine lv_icmp_ne (tgt := 143) hx hb dX14_job_119 (by decide) (fun c_119 => ?_) (fun c_119 => ?_)
                    · skip
                      refine lv_lload hx hb dX14_job_143 (lv_at hl 5 rfl) ?_
                      refine lv_lconst (v := 0) hx hb dX14_job_145 (by decide) ?_
                      refine W.lcmp hx hb dX14_job_146 ?_
                      refine lv_if_ne (tgt := 152) hx hb dX14_job_147 (by decide) (fun c_147 => ?_) (fun c_147 => ?_)
                      · skip
                        obtain ⟨lf, hlf⟩ : ∃ y, lf9 = y + 1 := ⟨lf9 - 1, by have y : lf9 ≠ 0 := fun z => c_147 ((lg_cmp_eq _ _).mpr (by rw [z]; rfl)); omega⟩
                        rw [hlf] at hl hmu hjr
                        refine lv_lload hx hb dX14_job_152 (lv_at hl 5 rfl) ?_
                        refine lv_lconst (v := 1) hx hb dX14_job_154 (by decide) ?_
                        refine lv_lsub hx hb dX14_job_155 ?_
                        rw [i64_dec (by omega)]
                        refine lv_topl (fun x145 ex145 => ?_)
                        refine lv_lstore (lv' := [(6, .long x145), (10, .int 24), (9, .int (nI (100 * j9 + p9))), (0, .ref o), (4, .int (nI j9)), (5, .int (nI m9)), (8, .int (nI p9))]) hx hb dX14_job_156 hl (by decide) rfl (fun ls hl => ?_)
                        refine lv_iload hx hb dX14_job_158 (lv_at hl 1 rfl) ?_
                        refine lv_bipush (v := 15) hx hb dX14_job_160 (by decide) ?_
                        refine lv_icmp_eq (tgt := 172) hx hb dX14_job_162 (by decide) (fun c_162 => ?_) (fun c_162 => ?_)
                        · skip
                          exact absurd c_162 (by decide)
                        · skip
                          refine lv_iload hx hb dX14_job_165 (lv_at hl 1 rfl) ?_
                          refine lv_bipush (v := 16) hx hb dX14_job_167 (by decide) ?_
                          refine lv_icmp_ne (tgt := 176) hx hb dX14_job_169 (by decide) (fun c_169 => ?_) (fun c_169 => ?_)
                          · skip
                            refine lv_iload hx hb dX14_job_176 (lv_at hl 1 rfl) ?_
                            refine lv_bipush (v := 17) hx hb dX14_job_178 (by decide) ?_
                            refine lv_icmp_eq (tgt := 204) hx hb dX14_job_180 (by decide) (fun c_180 => ?_) (fun c_180 => ?_)
                            · skip
                              exact absurd c_180 (by decide)
                            · skip
                              refine lv_iload hx hb dX14_job_183 (lv_at hl 1 rfl) ?_
                              refine lv_bipush (v := 18) hx hb dX14_job_185 (by decide) ?_
                              refine lv_icmp_eq (tgt := 204) hx hb dX14_job_187 (by decide) (fun c_187 => ?_) (fun c_187 => ?_)
                              · skip
                                exact absurd c_187 (by decide)
                              · skip
                                refine lv_iload hx hb dX14_job_190 (lv_at hl 1 rfl) ?_
                                refine lv_bipush (v := 19) hx hb dX14_job_192 (by decide) ?_
                                refine lv_icmp_eq (tgt := 204) hx hb dX14_job_194 (by decide) (fun c_194 => ?_) (fun c_194 => ?_)
                                · skip
                                  exact absurd c_194 (by decide)
                                · skip
                                  refine lv_iload hx hb dX14_job_197 (lv_at hl 1 rfl) ?_
                                  refine lv_bipush (v := 21) hx hb dX14_job_199 (by decide) ?_
                                  refine lv_icmp_ne (tgt := 208) hx hb dX14_job_201 (by decide) (fun c_201 => ?_) (fun c_201 => ?_)
                                  · skip
                                    refine lv_iconst (v := 1) hx hb dX14_job_208 (by decide) ?_
                                    refine lv_istore (lv' := [(11, .int 1), (6, .long x145), (10, .int 24), (9, .int (nI (100 * j9 + p9))), (0, .ref o), (4, .int (nI j9)), (5, .int (nI m9)), (8, .int (nI p9))]) hx hb dX14_job_209 hl (by decide) rfl (fun ls hl => ?_)
                                    refine lv_iload hx hb dX14_job_211 (lv_at hl 2 rfl) ?_
                                    refine lv_bipush (v := 15) hx hb dX14_job_213 (by decide) ?_
                                    refine lv_icmp_eq (tgt := 232) hx hb dX14_job_215 (by decide) (fun c_215 => ?_) (fun c_215 => ?_)
                                    · skip
                                      exact absurd c_215 (by decide)
                                    · skip
                                      refine lv_iload hx hb dX14_job_218 (lv_at hl 2 rfl) ?_
                                      refine lv_bipush (v := 16) hx hb dX14_job_220 (by decide) ?_
                                      refine lv_icmp_eq (tgt := 232) hx hb dX14_job_222 (by decide) (fun c_222 => ?_) (fun c_222 => ?_)
                                      · skip
                                        exact absurd c_222 (by decide)
                                      · skip
                                        refine lv_iload hx hb dX14_job_225 (lv_at hl 2 rfl) ?_
                                        refine lv_bipush (v := 20) hx hb dX14_job_227 (by decide) ?_
                                        refine lv_icmp_ne (tgt := 236) hx hb dX14_job_229 (by decide) (fun c_229 => ?_) (fun c_229 => ?_)
                                        · skip
                                          refine lv_iconst (v := 0) hx hb dX14_job_236 (by decide) ?_
                                          refine lv_istore (lv' := [(12, .int 0), (11, .int 1), (6, .long x145), (10, .int 24), (9, .int (nI (100 * j9 + p9))), (0, .ref o), (4, .int (nI j9)), (5, .int (nI m9)), (8, .int (nI p9))]) hx hb dX14_job_237 hl (by decide) rfl (fun ls hl => ?_)
                                          refine lv_iload hx hb dX14_job_239 (lv_at hl 7 rfl) ?_
                                          refine lv_iload hx hb dX14_job_241 (lv_at hl 1 rfl) ?_
                                          refine lv_icmp_lt (tgt := 258) hx hb dX14_job_243 (by decide) (fun c_243 => ?_) (fun c_243 => ?_)
                                          · skip
                                            refine lv_bipush (v := (-3)) hx hb dX14_job_258 (by decide) ?_
                                            have hRJ : RJ = (-3, js) := by rw [← hjr]; exact jr_r hnO hp9 (by rw [hkd]; decide) (by rw [hkd, hjp.1, hjo.1]; exact rf_n3 (by decide) (by decide) hm16b (Or.inl ((nI_ltI (b := 1) (by omega) (by decide)).mp c_243))) (by decide)
                                            exact W.iret (v := (-3)) hx hb hr (fun t ht hW => ⟨⟨_, _, rfl, ⟨Ij, Fj, Lj, hM, hF, hIo, h38j, ⟨sz, hsz64, h68j⟩, hFo, hLo, (by rw [hA9, hRJ]), (fun k hk _ => by rw [hoI] at hk; rw [← Option.some.inj hk, hE9, hRJ]; exact ⟨sz, h68j, hjo⟩), (fun z => z.elim (fun z => by rw [hoI] at z; cases z) (fun z => absurd hxr z))⟩, mk_end hG ht⟩, hS.F ht⟩) hS.2.2 dX14_job_260
                                          · skip
                                            refine lv_iload hx hb dX14_job_246 (lv_at hl 0 rfl) ?_
                                            refine lv_if_eq (tgt := 261) hx hb dX14_job_248 (by decide) (fun c_248 => ?_) (fun c_248 => ?_)
                                            · skip
                                              have hmw : 1 ≤ m9 := Nat.le_of_not_lt (fun y => c_243 (nI_lt (b := 1) y (by decide)))
                                              refine lv_iload hx hb dX14_job_261 (lv_at hl 7 rfl) ?_
                                              refine lv_if_le (tgt := 278) hx hb dX14_job_263 (by decide) (fun c_263 => ?_) (fun c_263 => ?_)
                                              · skip
                                                exact absurd c_263 (nI_nle (by omega) (by omega))
                                              · skip
                                                have hm1 : 0 < m9 := Nat.pos_of_ne_zero (fun y => c_263 (by rw [y]; exact Int32.le_refl 0))
                                                refine lv_aload_n hx hb dX14_job_266 rfl (lv_at hl 5 rfl) ?_
                                                refine mm_get (v := .ref (Ar 75)) hx hb hf_X14 (fun _ h9 => h9) hown hK hG hM.1 rfl 75 (by decide) (tb_use hT tw_1466) (fun _ h9 => h9) (mfs_g75 _ _) dX14_job_267 ?_
                                                refine lv_iload hx hb dX14_job_270 (lv_at hl 7 rfl) ?_
                                                refine lv_iconst (v := 1) hx hb dX14_job_272 (by decide) ?_
                                                refine lv_isub hx hb dX14_job_273 ?_
                                                rw [show ((nI m9) - 1) = nI (m9 - 1) from nI_sb (a := 1) (b := m9) (by omega)]
                                                refine mm_lald (n := 16) (f := Lj 75) hx hb hK hG 2 (hM.2.2.1 75 rfl) rfl (nI_in (N := 16) (by omega) (by decide)) dX14_job_274 ?_
                                                refine lv_topl (fun x146 ex146 => ?_)
                                                refine lv_goto (tgt := 279) hx hb dX14_job_275 (by decide) ?_
                                                refine lv_lstore (lv' := [(13, .long x146), (12, .int 0), (11, .int 1), (6, .long x145), (10, .int 24), (9, .int (nI (100 * j9 + p9))), (0, .ref o), (4, .int (nI j9)), (5, .int (nI m9)), (8, .int (nI p9))]) hx hb dX14_job_279 hl (by decide) rfl (fun ls hl => ?_)
                                                refine lv_iload hx hb dX14_job_281 (lv_at hl 8 rfl) ?_
                                                refine lv_iconst (v := 1) hx hb dX14_job_283 (by decide) ?_
                                                refine lv_icmp_le (tgt := 299) hx hb dX14_job_284 (by decide) (fun c_284 => ?_) (fun c_284 => ?_)
                                                · skip
                                                  refine lv_lconst (v := 0) hx hb dX14_job_299 (by decide) ?_
                                                  refine lv_lstore (lv' := [(15, .long 0), (13, .long x146), (12, .int 0), (11, .int 1), (6, .long x145), (10, .int 24), (9, .int (nI (100 * j9 + p9))), (0, .ref o), (4, .int (nI j9)), (5, .int (nI m9)), (8, .int (nI p9))]) hx hb dX14_job_300 hl (by decide) rfl (fun ls hl => ?_)
                                                  obtain ⟨x147, ex147⟩ : ∃ y : Int32, y = (nI p9) + 1 := ⟨_, rfl⟩
                                                  refine lv_iinc (v := x147) (lv' := [(8, .int x147), (15, .long 0), (13, .long x146), (12, .int 0), (11, .int 1), (6, .long x145), (10, .int 24), (9, .int (nI (100 * j9 + p9))), (0, .ref o), (4, .int (nI j9)), (5, .int (nI m9))]) hx hb dX14_job_302 hl (k := 10) rfl (by rw [ex147]; rfl) (by decide) rfl (fun ls hl => ?_)
                                                  refine lv_iload hx hb dX14_job_305 (lv_at hl 6 rfl) ?_
                                                  refine lv_tableIn (tgt := 499) hx hb dX14_job_307 (by decide) (by decide) (off := 192) rfl (by decide) ?_
                                                  obtain ⟨x148, ex148⟩ : ∃ y : Int32, y = (nI m9) + (-1) := ⟨_, rfl⟩
                                                  refine lv_iinc (v := x148) (lv' := [(5, .int x148), (8, .int x147), (15, .long 0), (13, .long x146), (12, .int 0), (11, .int 1), (6, .long x145), (10, .int 24), (9, .int (nI (100 * j9 + p9))), (0, .ref o), (4, .int (nI j9))]) hx hb dX14_job_499 hl (k := 10) rfl (by rw [ex148]; rfl) (by decide) rfl (fun ls hl => ?_)
                                                  refine lv_lload hx hb dX14_job_502 (lv_at hl 3 rfl) ?_
                                                  refine lv_lconst (v := 0) hx hb dX14_job_504 (by decide) ?_
                                                  refine W.lcmp hx hb dX14_job_505 ?_
                                                  refine lv_if_ne (tgt := 528) hx hb dX14_job_506 (by decide) (fun c_506 => ?_) (fun c_506 => ?_)
                                                  · skip
                                                    refine lv_iload hx hb dX14_job_528 (lv_at hl 1 rfl) ?_
                                                    refine lv_istore (lv' := [(8, .int x147), (5, .int x148), (15, .long 0), (13, .long x146), (12, .int 0), (11, .int 1), (6, .long x145), (10, .int 24), (9, .int (nI (100 * j9 + p9))), (0, .ref o), (4, .int (nI j9))]) hx hb dX14_job_530 hl (by decide) rfl (fun ls hl => ?_)
                                                    refine lv_goto (tgt := 582) hx hb dX14_job_532 (by decide) ?_
                                                    refine lv_goto (tgt := 68) hx hb dX14_job_582 (by decide) ?_
                                                    have hrf : rfs js.1.1 (v9.O j9 p9).1 js.2.2.1 = 0 := by rw [hkd, hjp.1, hjo.1]; exact rf_ok (by decide) (by decide) hm16b (show 1 ≤ m9 by omega) (fun z => absurd z (by decide)) (fun z => absurd z (by decide))
                                                    have hupp : x146 = Lj 75 (m9 - 1) := by rw [ex146, nI_clamp (by omega)]
                                                    have hlf0 : lft js.1 = x146 := (hjp.lf (by omega)).trans hupp.symm
                                                    have hjr2 : jrF v9 j9 ln f9 n lf (nI (p9 + 1)) (ldn js.1, js.2) = RJ := by rw [← hjr, jr_34 hnO hp9 hkd hrf, if_neg (by rw [hlf0]; exact fun z => c_506 ((lg_cmp_eq _ _).mpr z))]
                                                    have hjp2 : JP (ldn js.1) (m9 - 1) (Lj 75) := hjp.dn
                                                    rw [show x147 = nI (p9 + 1) by rw [ex147]; exact (nI_succ p9).symm] at hl
                                                    rw [show x148 = nI (m9 - 1) by rw [ex148, ← Int32.sub_eq_add_neg]; exact nI_sb (a := 1) (b := m9) (by omega)] at hl
                                                    rw [ex145] at hl
                                                    have hmu2 : 2 * lf + agN v9 j9 (p9 + 1) < n := by have y := @agN_le v9 j9 (p9 + 1); omega
                                                    exact ih (p9 + 1) (m9 - 1) lf sz Ij Fj Lj (ldn js.1, js.2) hmu2 hjr2 hjp2 hjo (by omega) (by omega) hIo h38j hbj h66j h68j hsz64 hFo hLo Gv hM hF _ _ hG hS ls (lv_sub hl [9, 10, 1, 6, 0] rfl)
                                                  · skip
                                                    refine lv_aload_n hx hb dX14_job_509 rfl (lv_at hl 9 rfl) ?_
                                                    refine mm_get (v := .ref (Ar 36)) hx hb hf_X14 (fun _ h9 => h9) hown hK hG hM.1 rfl 36 (by decide) (tb_use hT tw_1427) (fun _ h9 => h9) (mfs_g36 _ _) dX14_job_510 ?_
                                                    refine lv_sipush (v := 400) hx hb dX14_job_513 (by decide) ?_
                                                    refine lv_aload_n hx hb dX14_job_516 rfl (lv_at hl 9 rfl) ?_
                                                    refine mm_get (v := .int (Ij 42)) hx hb hf_X14 (fun _ h9 => h9) hown hK hG hM.1 rfl 42 (by decide) (tb_use hT tw_1433) (fun _ h9 => h9) (mfs_g42 _ _) dX14_job_517 ?_
                                                    rw [show (Ij 42) = nI b9 from hbj]
                                                    refine lv_imul hx hb dX14_job_520 ?_
                                                    refine lv_iload hx hb dX14_job_521 (lv_at hl 8 rfl) ?_
                                                    refine lv_iadd hx hb dX14_job_523 ?_
                                                    refine mm_iald (n := 800) (f := Fj 36) hx hb hK hG 1 (hM.2.1 36 rfl) rfl (by rw [show (400 : Int32) * nI b9 + nI (100 * j9 + p9) = nI (400 * b9 + (100 * j9 + p9)) from nI_ma 400 b9 (100 * j9 + p9)]; exact nI_in (N := 800) (by omega) (by decide)) dX14_job_524 ?_
                                                    refine lv_topi (fun x150 ex150 => ?_)
                                                    obtain ⟨t9, ht1, ht3, ht2⟩ := hk34 hkd
                                                    rw [show x150 = nI t9 by rw [ex150, show (400 : Int32) * nI b9 + nI (100 * j9 + p9) = nI (400 * b9 + (100 * j9 + p9)) from nI_ma 400 b9 (100 * j9 + p9), nI_clamp (by omega)]; exact (hop.2.2.2 (Or.inl hkd)).trans ht2]
                                                    refine lv_goto (tgt := 530) hx hb dX14_job_525 (by decide) ?_
                                                    refine lv_istore (lv' := [(8, .int (nI t9)), (5, .int x148), (15, .long 0), (13, .long x146), (12, .int 0), (11, .int 1), (6, .long x145), (10, .int 24), (9, .int (nI (100 * j9 + p9))), (0, .ref o), (4, .int (nI j9))]) hx hb dX14_job_530 hl (by decide) rfl (fun ls hl => ?_)
                                                    refine lv_goto (tgt := 582) hx hb dX14_job_532 (by decide) ?_
                                                    refine lv_goto (tgt := 68) hx hb dX14_job_582 (by decide) ?_
                                                    have hrf : rfs js.1.1 (v9.O j9 p9).1 js.2.2.1 = 0 := by rw [hkd, hjp.1, hjo.1]; exact rf_ok (by decide) (by decide) hm16b (show 1 ≤ m9 by omega) (fun z => absurd z (by decide)) (fun z => absurd z (by decide))
                                                    have hupp : x146 = Lj 75 (m9 - 1) := by rw [ex146, nI_clamp (by omega)]
                                                    have hlf0 : lft js.1 = x146 := (hjp.lf (by omega)).trans hupp.symm
                                                    have hjr2 : jrF v9 j9 ln f9 n lf (nI t9) (ldn js.1, js.2) = RJ := by rw [← hjr, jr_34 hnO hp9 hkd hrf, if_pos (by rw [hlf0]; exact (lg_cmp_eq _ _).mp c_506), ht2]
                                                    have hjp2 : JP (ldn js.1) (m9 - 1) (Lj 75) := hjp.dn
                                                    rw [show x148 = nI (m9 - 1) by rw [ex148, ← Int32.sub_eq_add_neg]; exact nI_sb (a := 1) (b := m9) (by omega)] at hl
                                                    rw [ex145] at hl
                                                    have hmu2 : 2 * lf + agN v9 j9 t9 < n := by have y := @agN_le v9 j9 t9; omega
                                                    exact ih t9 (m9 - 1) lf sz Ij Fj Lj (ldn js.1, js.2) hmu2 hjr2 hjp2 hjo (by omega) (by omega) hIo h38j hbj h66j h68j hsz64 hFo hLo Gv hM hF _ _ hG hS ls (lv_sub hl [9, 10, 1, 6, 0] rfl)
                                                · skip
                                                  have hm2 : 1 < m9 := Nat.lt_of_not_le (fun y => c_284 (nI_le (b := 1) y (by decide)))
                                                  refine lv_aload_n hx hb dX14_job_287 rfl (lv_at hl 6 rfl) ?_
                                                  refine mm_get (v := .ref (Ar 75)) hx hb hf_X14 (fun _ h9 => h9) hown hK hG hM.1 rfl 75 (by decide) (tb_use hT tw_1466) (fun _ h9 => h9) (mfs_g75 _ _) dX14_job_288 ?_
                                                  refine lv_iload hx hb dX14_job_291 (lv_at hl 8 rfl) ?_
                                                  refine lv_iconst (v := 2) hx hb dX14_job_293 (by decide) ?_
                                                  refine lv_isub hx hb dX14_job_294 ?_
                                                  rw [show ((nI m9) - 2) = nI (m9 - 2) from nI_sb (a := 2) (b := m9) (by omega)]
                                                  refine mm_lald (n := 16) (f := Lj 75) hx hb hK hG 2 (hM.2.2.1 75 rfl) rfl (nI_in (N := 16) (by omega) (by decide)) dX14_job_295 ?_
                                                  refine lv_topl (fun x151 ex151 => ?_)
                                                  refine lv_goto (tgt := 300) hx hb dX14_job_296 (by decide) ?_
                                                  refine lv_lstore (lv' := [(15, .long x151), (13, .long x146), (12, .int 0), (11, .int 1), (6, .long x145), (10, .int 24), (9, .int (nI (100 * j9 + p9))), (0, .ref o), (4, .int (nI j9)), (5, .int (nI m9)), (8, .int (nI p9))]) hx hb dX14_job_300 hl (by decide) rfl (fun ls hl => ?_)
                                                  obtain ⟨x152, ex152⟩ : ∃ y : Int32, y = (nI p9) + 1 := ⟨_, rfl⟩
                                                  refine lv_iinc (v := x152) (lv' := [(8, .int x152), (15, .long x151), (13, .long x146), (12, .int 0), (11, .int 1), (6, .long x145), (10, .int 24), (9, .int (nI (100 * j9 + p9))), (0, .ref o), (4, .int (nI j9)), (5, .int (nI m9))]) hx hb dX14_job_302 hl (k := 10) rfl (by rw [ex152]; rfl) (by decide) rfl (fun ls hl => ?_)
                                                  refine lv_iload hx hb dX14_job_305 (lv_at hl 6 rfl) ?_
                                                  refine lv_tableIn (tgt := 499) hx hb dX14_job_307 (by decide) (by decide) (off := 192) rfl (by decide) ?_
                                                  obtain ⟨x153, ex153⟩ : ∃ y : Int32, y = (nI m9) + (-1) := ⟨_, rfl⟩
                                                  refine lv_iinc (v := x153) (lv' := [(5, .int x153), (8, .int x152), (15, .long x151), (13, .long x146), (12, .int 0), (11, .int 1), (6, .long x145), (10, .int 24), (9, .int (nI (100 * j9 + p9))), (0, .ref o), (4, .int (nI j9))]) hx hb dX14_job_499 hl (k := 10) rfl (by rw [ex153]; rfl) (by decide) rfl (fun ls hl => ?_)
                                                  refine lv_lload hx hb dX14_job_502 (lv_at hl 3 rfl) ?_
                                                  refine lv_lconst (v := 0) hx hb dX14_job_504 (by decide) ?_
                                                  refine W.lcmp hx hb dX14_job_505 ?_
                                                  refine lv_if_ne (tgt := 528) hx hb dX14_job_506 (by decide) (fun c_506 => ?_) (fun c_506 => ?_)
                                                  · skip
                                                    refine lv_iload hx hb dX14_job_528 (lv_at hl 1 rfl) ?_
                                                    refine lv_istore (lv' := [(8, .int x152), (5, .int x153), (15, .long x151), (13, .long x146), (12, .int 0), (11, .int 1), (6, .long x145), (10, .int 24), (9, .int (nI (100 * j9 + p9))), (0, .ref o), (4, .int (nI j9))]) hx hb dX14_job_530 hl (by decide) rfl (fun ls hl => ?_)
                                                    refine lv_goto (tgt := 582) hx hb dX14_job_532 (by decide) ?_
                                                    refine lv_goto (tgt := 68) hx hb dX14_job_582 (by decide) ?_
                                                    have hrf : rfs js.1.1 (v9.O j9 p9).1 js.2.2.1 = 0 := by rw [hkd, hjp.1, hjo.1]; exact rf_ok (by decide) (by decide) hm16b (show 1 ≤ m9 by omega) (fun z => absurd z (by decide)) (fun z => absurd z (by decide))
                                                    have hupp : x146 = Lj 75 (m9 - 1) := by rw [ex146, nI_clamp (by omega)]
                                                    have hlf0 : lft js.1 = x146 := (hjp.lf (by omega)).trans hupp.symm
                                                    have hjr2 : jrF v9 j9 ln f9 n lf (nI (p9 + 1)) (ldn js.1, js.2) = RJ := by rw [← hjr, jr_34 hnO hp9 hkd hrf, if_neg (by rw [hlf0]; exact fun z => c_506 ((lg_cmp_eq _ _).mpr z))]
                                                    have hjp2 : JP (ldn js.1) (m9 - 1) (Lj 75) := hjp.dn
                                                    rw [show x152 = nI (p9 + 1) by rw [ex152]; exact (nI_succ p9).symm] at hl
                                                    rw [show x153 = nI (m9 - 1) by rw [ex153, ← Int32.sub_eq_add_neg]; exact nI_sb (a := 1) (b := m9) (by omega)] at hl
                                                    rw [ex145] at hl
                                                    have hmu2 : 2 * lf + agN v9 j9 (p9 + 1) < n := by have y := @agN_le v9 j9 (p9 + 1); omega
                                                    exact ih (p9 + 1) (m9 - 1) lf sz Ij Fj Lj (ldn js.1, js.2) hmu2 hjr2 hjp2 hjo (by omega) (by omega) hIo h38j hbj h66j h68j hsz64 hFo hLo Gv hM hF _ _ hG hS ls (lv_sub hl [9, 10, 1, 6, 0] rfl)
                                                  · skip
                                                    refine lv_aload_n hx hb dX14_job_509 rfl (lv_at hl 9 rfl) ?_
                                                    refine mm_get (v := .ref (Ar 36)) hx hb hf_X14 (fun _ h9 => h9) hown hK hG hM.1 rfl 36 (by decide) (tb_use hT tw_1427) (fun _ h9 => h9) (mfs_g36 _ _) dX14_job_510 ?_
                                                    refine lv_sipush (v := 400) hx hb dX14_job_513 (by decide) ?_
                                                    refine lv_aload_n hx hb dX14_job_516 rfl (lv_at hl 9 rfl) ?_
                                                    refine mm_get (v := .int (Ij 42)) hx hb hf_X14 (fun _ h9 => h9) hown hK hG hM.1 rfl 42 (by decide) (tb_use hT tw_1433) (fun _ h9 => h9) (mfs_g42 _ _) dX14_job_517 ?_
                                                    rw [show (Ij 42) = nI b9 from hbj]
                                                    refine lv_imul hx hb dX14_job_520 ?_
                                                    refine lv_iload hx hb dX14_job_521 (lv_at hl 8 rfl) ?_
                                                    refine lv_iadd hx hb dX14_job_523 ?_
                                                    refine mm_iald (n := 800) (f := Fj 36) hx hb hK hG 1 (hM.2.1 36 rfl) rfl (by rw [show (400 : Int32) * nI b9 + nI (100 * j9 + p9) = nI (400 * b9 + (100 * j9 + p9)) from nI_ma 400 b9 (100 * j9 + p9)]; exact nI_in (N := 800) (by omega) (by decide)) dX14_job_524 ?_
                                                    refine lv_topi (fun x155 ex155 => ?_)
                                                    obtain ⟨t9, ht1, ht3, ht2⟩ := hk34 hkd
                                                    rw [show x155 = nI t9 by rw [ex155, show (400 : Int32) * nI b9 + nI (100 * j9 + p9) = nI (400 * b9 + (100 * j9 + p9)) from nI_ma 400 b9 (100 * j9 + p9), nI_clamp (by omega)]; exact (hop.2.2.2 (Or.inl hkd)).trans ht2]
                                                    refine lv_goto (tgt := 530) hx hb dX14_job_525 (by decide) ?_
                                                    refine lv_istore (lv' := [(8, .int (nI t9)), (5, .int x153), (15, .long x151), (13, .long x146), (12, .int 0), (11, .int 1), (6, .long x145), (10, .int 24), (9, .int (nI (100 * j9 + p9))), (0, .ref o), (4, .int (nI j9))]) hx hb dX14_job_530 hl (by decide) rfl (fun ls hl => ?_)
                                                    refine lv_goto (tgt := 582) hx hb dX14_job_532 (by decide) ?_
                                                    refine lv_goto (tgt := 68) hx hb dX14_job_582 (by decide) ?_
                                                    have hrf : rfs js.1.1 (v9.O j9 p9).1 js.2.2.1 = 0 := by rw [hkd, hjp.1, hjo.1]; exact rf_ok (by decide) (by decide) hm16b (show 1 ≤ m9 by omega) (fun z => absurd z (by decide)) (fun z => absurd z (by decide))
                                                    have hupp : x146 = Lj 75 (m9 - 1) := by rw [ex146, nI_clamp (by omega)]
                                                    have hlf0 : lft js.1 = x146 := (hjp.lf (by omega)).trans hupp.symm
                                                    have hjr2 : jrF v9 j9 ln f9 n lf (nI t9) (ldn js.1, js.2) = RJ := by rw [← hjr, jr_34 hnO hp9 hkd hrf, if_pos (by rw [hlf0]; exact (lg_cmp_eq _ _).mp c_506), ht2]
                                                    have hjp2 : JP (ldn js.1) (m9 - 1) (Lj 75) := hjp.dn
                                                    rw [show x153 = nI (m9 - 1) by rw [ex153, ← Int32.sub_eq_add_neg]; exact nI_sb (a := 1) (b := m9) (by omega)] at hl
                                                    rw [ex145] at hl
                                                    have hmu2 : 2 * lf + agN v9 j9 t9 < n := by have y := @agN_le v9 j9 t9; omega
                                                    exact ih t9 (m9 - 1) lf sz Ij Fj Lj (ldn js.1, js.2) hmu2 hjr2 hjp2 hjo (by omega) (by omega) hIo h38j hbj h66j h68j hsz64 hFo hLo Gv hM hF _ _ hG hS ls (lv_sub hl [9, 10, 1, 6, 0] rfl)
                                            · skip
                                              exact absurd (by decide) c_248
                                        · skip
                                          exact absurd c_229 (by decide)
                                  · skip
                                    exact absurd c_201 (by decide)
                          · skip
                            exact absurd c_169 (by decide)
                      · skip
                        refine lv_iconst (v := 0) hx hb dX14_job_150 (by decide) ?_
                        have hz0 : lf9 = 0 := by have z := congrArg Int64.toInt ((lg_cmp_eq _ _).mp c_147); rw [i64_on (by omega), show (0 : Int64).toInt = 0 by decide] at z; omega
                        have hRJ : RJ = (0, js) := by rw [← hjr]; exact jr_0 hnO hp9 (by rw [hkd]; decide) hz0
                        exact W.iret (v := 0) hx hb hr (fun t ht hW => ⟨⟨_, _, rfl, ⟨Ij, Fj, Lj, hM, hF, hIo, h38j, ⟨sz, hsz64, h68j⟩, hFo, hLo, (by rw [hA9, hRJ]), (fun k hk _ => by rw [hoI] at hk; rw [← Option.some.inj hk, hE9, hRJ]; exact ⟨sz, h68j, hjo⟩), (fun z => z.elim (fun z => by rw [hoI] at z; cases z) (fun z => absurd hxr z))⟩, mk_end hG ht⟩, hS.F ht⟩) hS.2.2 dX14_job_151
                    · skip
                      exact absurd c_119 (by decide)
                  · skip
                    replace hkd := hkde.trans hkd
                    rw [show x9 = 25 by rw [hx35, hkd]; rfl] at hl
                    refine lv_iload hx hb dX14_job_115 (lv_at hl 0 rfl) ?_
                    refine lv_bipush (v := 25) hx hb dX14_job_117 (by decide) ?_
                    refine lv_icmp_ne (tgt := 143) hx hb dX14_job_119 (by decide) (fun c_119 => ?_) (fun c_119 => ?_)
                    · skip
                      exact absurd (by decide) c_119
                    · skip
                      refine lv_aload_n hx hb dX14_job_122 rfl (lv_at hl 2 rfl) ?_
                      refine mm_get (v := .ref (Ar 36)) hx hb hf_X14 (fun _ h9 => h9) hown hK hG hM.1 rfl 36 (by decide) (tb_use hT tw_1427) (fun _ h9 => h9) (mfs_g36 _ _) dX14_job_123 ?_
                      refine lv_sipush (v := 400) hx hb dX14_job_126 (by decide) ?_
                      refine lv_aload_n hx hb dX14_job_129 rfl (lv_at hl 2 rfl) ?_
                      refine mm_get (v := .int (Ij 42)) hx hb hf_X14 (fun _ h9 => h9) hown hK hG hM.1 rfl 42 (by decide) (tb_use hT tw_1433) (fun _ h9 => h9) (mfs_g42 _ _) dX14_job_130 ?_
                      rw [show (Ij 42) = nI b9 from hbj]
                      refine lv_imul hx hb dX14_job_133 ?_
                      refine lv_iload hx hb dX14_job_134 (lv_at hl 1 rfl) ?_
                      refine lv_iadd hx hb dX14_job_136 ?_
                      refine mm_iald (n := 800) (f := Fj 36) hx hb hK hG 1 (hM.2.1 36 rfl) rfl (by rw [show (400 : Int32) * nI b9 + nI (100 * j9 + p9) = nI (400 * b9 + (100 * j9 + p9)) from nI_ma 400 b9 (100 * j9 + p9)]; exact nI_in (N := 800) (by omega) (by decide)) dX14_job_137 ?_
                      refine lv_topi (fun x156 ex156 => ?_)
                      obtain ⟨t9, ht1, ht2, ht3⟩ := hk5 hkd
                      rw [show x156 = nI t9 by rw [ex156, show (400 : Int32) * nI b9 + nI (100 * j9 + p9) = nI (400 * b9 + (100 * j9 + p9)) from nI_ma 400 b9 (100 * j9 + p9), nI_clamp (by omega)]; exact (hop.2.2.2 (Or.inr hkd)).trans ht2]
                      refine lv_istore (lv' := [(8, .int (nI t9)), (10, .int 25), (9, .int (nI (100 * j9 + p9))), (0, .ref o), (4, .int (nI j9)), (5, .int (nI m9)), (6, .long (Int64.ofNat lf9))]) hx hb dX14_job_138 hl (by decide) rfl (fun ls hl => ?_)
                      refine lv_goto (tgt := 68) hx hb dX14_job_140 (by decide) ?_
                      have hjr2 : jrF v9 j9 ln f9 n lf9 (nI t9) js = RJ := by rw [← hjr, jr_5 hnO hp9 hkd, ht2]
                      have hmu2 : 2 * lf9 + agN v9 j9 t9 < n := by have y : agN v9 j9 p9 = 1 := if_pos ⟨hp9, hkd⟩; have z : agN v9 j9 t9 = 0 := if_neg (fun u => by rw [ht3] at u; exact absurd u.2 (by decide)); omega
                      exact ih t9 m9 lf9 sz Ij Fj Lj js hmu2 hjr2 hjp hjo (by omega) (by omega) hIo h38j hbj h66j h68j hsz64 hFo hLo Gv hM hF _ _ hG hS ls (lv_sub hl [3, 4, 5, 6, 0] rfl)
            refine lv_iconst (v := 0) hx hb dX14_job_59 (by decide) ?_
            refine lv_istore (lv' := [(5, .int 0), (4, .int (nI j9)), (0, .ref o), (1, .int iv), (2, .long xs)]) hx hb dX14_job_60 hl (by decide) rfl (fun ls hl => ?_)
            refine lv_lload_n hx hb dX14_job_62 rfl (lv_at hl 4 rfl) ?_
            refine lv_lstore (lv' := [(6, .long xs), (5, .int 0), (4, .int (nI j9)), (0, .ref o), (1, .int iv), (2, .long xs)]) hx hb dX14_job_63 hl (by decide) rfl (fun ls hl => ?_)
            refine lv_iconst (v := 0) hx hb dX14_job_65 (by decide) ?_
            refine lv_istore (lv' := [(8, .int 0), (6, .long xs), (5, .int 0), (4, .int (nI j9)), (0, .ref o), (1, .int iv), (2, .long xs)]) hx hb dX14_job_66 hl (by decide) rfl (fun ls hl => ?_)
            rw [hxs] at hl
            exact hlj jbT 0 0 lf0 0 I6 F L ((0, pf0), P0, 0, sf0) (by have y := @agN_le v9 j9 0; show _ < 10003; omega) eRJ ⟨rfl, by decide, fun i hi => absurd hi (Nat.not_lt_zero i)⟩ ⟨rfl, by decide, fun i hi => absurd hi (Nat.not_lt_zero i)⟩ (by decide) (by omega) (fun j h1 h2 => by rw [eI6, pk_un h2, eI1, pk_un h1]) (by rw [eI6, pk_un (by decide), eI1, pk_us]) (by rw [eI6, pk_un (by decide), eI1, pk_un (by decide)]; exact hbk) (by rw [eI6, pk_un (by decide), eI1, pk_un (by decide)]; exact h66) (by rw [eI6, pk_us]; rfl) (by decide) (fun _ _ => rfl) (fun _ _ => rfl) G7 hM hF _ _ hG hS ls (lv_sub hl [4, 3, 2, 1, 0] rfl)
          · skip
            refine lv_bipush (v := (-2)) hx hb dX14_job_46 (by decide) ?_
            have hbad : ¬ (¬ xs < 0 ∧ xs ≤ 5000) := fun z => c_43 ((lg_cmp_le _ _).mpr z.2)
            obtain ⟨j9, hj9, hjv, hoI⟩ := ix_of (i := iv) (n := v9.nJ) (by omega) c_14 (by have z := c_27; rw [ex3, hbk, nI_clamp (by omega), hB.2.2.2.2.2.1] at z; exact z)
            exact W.iret (v := (-2)) hx hb hr (fun t ht hW => ⟨⟨_, _, rfl, ⟨I1, F, L, hM, hF, (fun j h1 h2 => by rw [eI1, pk_un h1]), (by rw [eI1, pk_us]), ⟨sl9, hsl, (by rw [eI1, pk_un (by decide)]; exact h68)⟩, (fun _ _ => rfl), (fun _ _ => rfl), (by unfold jbA; rw [hoI]; dsimp only; rw [if_neg hbad]), (fun _ _ z => absurd z hbad), (fun _ => ⟨by rw [eI1, pk_un (by decide)], rfl⟩)⟩, mk_end hG ht⟩, hS.F ht⟩) hS.2.2 dX14_job_48
      · skip
        refine lv_iconst (v := (-1)) hx hb dX14_job_30 (by decide) ?_
        have hoN : oIx iv v9.nJ = none := oIx_n2 (by omega) (by have z := c_27; rw [ex3, hbk, nI_clamp (by omega), hB.2.2.2.2.2.1] at z; exact z)
        exact W.iret (v := (-1)) hx hb hr (fun t ht hW => ⟨⟨_, _, rfl, ⟨I1, F, L, hM, hF, (fun j h1 h2 => by rw [eI1, pk_un h1]), (by rw [eI1, pk_us]), ⟨sl9, hsl, (by rw [eI1, pk_un (by decide)]; exact h68)⟩, (fun _ _ => rfl), (fun _ _ => rfl), (by unfold jbA; rw [hoN]), (fun k hk _ => by rw [hoN] at hk; cases hk), (fun _ => ⟨by rw [eI1, pk_un (by decide)], rfl⟩)⟩, mk_end hG ht⟩, hS.F ht⟩) hS.2.2 dX14_job_31
