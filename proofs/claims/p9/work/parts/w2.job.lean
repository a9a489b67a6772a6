/-! ===== a job's turns, on both sides ===== -/
theorem xor_neg {x y : Int64} (hy : 0 ≤ y.toInt) : (x ^^^ y) < 0 ↔ x.toInt < 0 := by
  rw [i64_lt, i64_z]
  have h1 : ∀ z : Int64, z.toBitVec.msb = decide (z.toInt < 0) := fun z => BitVec.msb_eq_toInt
  have e : (x ^^^ y).toBitVec.msb = (x.toBitVec.msb ^^ y.toBitVec.msb) := by
    show (x.toBitVec ^^^ y.toBitVec).msb = _
    exact BitVec.msb_xor
  rw [h1, h1, h1, decide_eq_false (show ¬ y.toInt < 0 by omega), Bool.xor_false] at e
  exact ⟨fun z => of_decide_eq_true (by rw [← e]; exact decide_eq_true z), fun z => of_decide_eq_true (by rw [e]; exact decide_eq_true z)⟩
theorem fdv_eq {x y : Int64} (h1 : -4611686018427387904 < x.toInt ∧ x.toInt < 4611686018427387904) (h2 : 1 ≤ y.toInt) : fdv x y = if x < x / y * y then x / y - 1 else x / y := by
  have e1 : (x / y).toInt = x.toInt.tdiv y.toInt := i64_div (by omega) (by omega)
  have q6 : (x.toInt.tdiv y.toInt * y.toInt).natAbs ≤ x.toInt.natAbs := by
    rw [Int.natAbs_mul, Int.natAbs_tdiv]
    exact Nat.div_mul_le_self _ _
  have e2 : (x / y * y).toInt = x.toInt.tdiv y.toInt * y.toInt := by
    rw [i64_mul (by rw [e1]; omega) (by rw [e1]; omega), e1]
  unfold fdv
  by_cases hx : x.toInt < 0
  · by_cases z : x / y * y = x
    · rw [if_neg (fun u => u.2 z), if_neg (by rw [z, i64_lt]; omega)]
    · rw [if_pos ⟨(xor_neg (by omega)).mpr hx, z⟩, if_pos]
      have u : ¬ x.toInt.tdiv y.toInt * y.toInt = x.toInt := fun u => z (Int64.toInt_inj.mp (by rw [e2]; exact u))
      rw [i64_lt, e2]
      omega
  · rw [if_neg (fun u => hx ((xor_neg (by omega)).mp u.1)), if_neg]
    rw [i64_lt, e2]
    omega
theorem fv_gt {v : EdV} {d : OpD} {s i ln : Nat} {f : Nat → Int32} {P : Nat → PdT} (hW : WDv v) (hC : CBv v) (hk : d.1 = 26) (hs : svN v d.2.2.1 = some s) (hp : paN v s d.2.2.2.2.1 = some i) : fvV v (teF v s ln f (P s)) s i = gtV v ln f P d := by
  have e : opK v d = (cdN v (v.P s i).2.2.1).map (fun k => (s, i, k)) := by
    unfold opK opP opS
    rw [if_pos hk, hs]
    dsimp only
    rw [hp]
    rfl
  unfold gtV fvV
  rw [e]
  cases hc : cdN v (v.P s i).2.2.1 with
  | none => rfl
  | some k =>
    dsimp only [Option.map]
    by_cases z : (teF v s ln f (P s) i).2.1 = 0
    · rw [if_pos z, if_pos z]
    · rw [if_neg z, if_neg z]
      have hb := hC k (cdN_lt hc)
      have hr := teF_b hW (c := s) (ln := ln) (f := f) (P := P s) (paN_lt hp)
      have hx := cWh_b hb hr
      have e2 : flr (v.C k).2.2.2.1 (v.C k).2.2.2.2.1 (v.C k).2.2.2.2.2 (teF v s ln f (P s) i).2.2.1 = fdv (cWh (v.C k).2.2.2.1 (v.C k).2.2.2.2.1 (v.C k).2.2.2.2.2 (teF v s ln f (P s) i).2.2.1) (v.C k).2.2.2.2.1 := if_neg (fun y => by have u := hb.1.1; rw [y, i64_z] at u; omega)
      rw [e2]
      exact (fdv_eq hx hb.1.1).symm
/-- what an op takes, and whether it lays -/
def wtN (k : Nat) : Nat := if k = 25 ∨ k = 26 then 0 else if k = 27 ∨ k = 28 ∨ k = 29 ∨ k = 31 then 2 else 1
def lyB (k : Nat) : Bool := decide (k = 25 ∨ k = 26 ∨ k = 30)
theorem rf_tab : ∀ k, k < 35 → 25 ≤ k → ∀ m, m < 17 → (decide (nI m < tkT k ∨ 16 < nI m - tkT k + tkL k) = (decide (m < wtN k) || (lyB k && decide (m = 16)))) := by decide +kernel
theorem rf_ok {k m sz : Nat} (h1 : 25 ≤ k) (h2 : k < 35) (hm : m ≤ 16) (hw : wtN k ≤ m) (hl : lyB k = true → m ≠ 16) (hs : k = 33 → sz < 64) : rfs m k sz = 0 := by
  have h := rf_tab k h2 h1 m (by omega)
  unfold rfs
  rw [if_neg, if_neg (fun y => by have := hs y.1; omega)]
  intro z
  rw [decide_eq_true z, decide_eq_false (by omega)] at h
  cases hq : lyB k with
  | false => rw [hq] at h; cases h
  | true => rw [hq, decide_eq_false (hl hq)] at h; cases h
theorem rf_n3 {k m sz : Nat} (h1 : 25 ≤ k) (h2 : k < 35) (hm : m ≤ 16) (hw : m < wtN k ∨ (lyB k = true ∧ m = 16)) : rfs m k sz = -3 := by
  have h := rf_tab k h2 h1 m (by omega)
  unfold rfs
  rw [if_pos]
  refine of_decide_eq_true (h.trans ?_)
  rcases hw with z | ⟨z, y⟩
  · rw [decide_eq_true z, Bool.true_or]
  · rw [z, decide_eq_true y, Bool.and_self, Bool.or_true]
theorem rf_n4 {m sz : Nat} (hm : m ≤ 16) (h1 : 1 ≤ m) (hs : 64 ≤ sz) : rfs m 33 sz = -4 := by
  have h := rf_tab 33 (by decide) (by decide) m (by omega)
  unfold rfs
  rw [if_neg, if_pos ⟨rfl, hs⟩]
  intro z
  rw [decide_eq_true z, decide_eq_false (show ¬ m < wtN 33 by show ¬ m < 1; omega)] at h
  cases h
section
variable {v : EdV} {c ln n lf p : Nat} {f : Nat → Int32} {s : JST}
theorem jr_1 (hb : v.nO c ≤ 80) (hq : p ≤ v.nO c) (hp : ¬ p < v.nO c) : jrF v c ln f (n + 1) lf (nI p) s = (1, s) := by
  rw [jrF, if_pos (Or.inr (nI_le (by omega) (by omega)))]
theorem jr_g (hb : v.nO c ≤ 80) (hp : p < v.nO c) : ¬ (nI p < 0 ∨ nI (v.nO c) ≤ nI p) := by
  rintro (z | z)
  · exact nI_pos (by omega) z
  · exact nI_ge hp (by omega) z
theorem jr_5 (hb : v.nO c ≤ 80) (hp : p < v.nO c) (hk : (v.O c p).1 = 5) : jrF v c ln f (n + 1) lf (nI p) s = jrF v c ln f n lf (v.O c p).2.2.2.2.2.2 s := by
  rw [jrF, if_neg (jr_g hb hp), nI_clamp (by omega), if_pos hk]
theorem jr_0 (hb : v.nO c ≤ 80) (hp : p < v.nO c) (hk : ¬ (v.O c p).1 = 5) (h0 : lf = 0) : jrF v c ln f (n + 1) lf (nI p) s = (0, s) := by
  rw [jrF, if_neg (jr_g hb hp), nI_clamp (by omega), if_neg hk, if_pos h0]
theorem jr_r (hb : v.nO c ≤ 80) (hp : p < v.nO c) (hk : ¬ (v.O c p).1 = 5) {x : Int32} (hr : rfs s.1.1 (v.O c p).1 s.2.2.1 = x) (hx : ¬ x = 0) : jrF v c ln f (n + 1) (lf + 1) (nI p) s = (x, s) := by
  rw [jrF, if_neg (jr_g hb hp), nI_clamp (by omega), if_neg hk, if_neg (by omega), hr, if_pos hx]
theorem jr_34 (hb : v.nO c ≤ 80) (hp : p < v.nO c) (hk : (v.O c p).1 = 34) (hr : rfs s.1.1 (v.O c p).1 s.2.2.1 = 0) : jrF v c ln f (n + 1) (lf + 1) (nI p) s = jrF v c ln f n lf (if lft s.1 = 0 then (v.O c p).2.2.2.2.2.2 else nI (p + 1)) (ldn s.1, s.2) := by
  rw [jrF, if_neg (jr_g hb hp), nI_clamp (by omega), if_neg (by omega), if_neg (by omega), hr, if_neg (fun z => z rfl), if_pos hk, nI_succ, Nat.add_sub_cancel]
theorem jr_st (hb : v.nO c ≤ 80) (hp : p < v.nO c) (hk : ¬ (v.O c p).1 = 5) (h34 : ¬ (v.O c p).1 = 34) (hr : rfs s.1.1 (v.O c p).1 s.2.2.1 = 0) : jrF v c ln f (n + 1) (lf + 1) (nI p) s = jrF v c ln f n lf (nI (p + 1)) (stF9 v ln f (v.O c p) s) := by
  rw [jrF, if_neg (jr_g hb hp), nI_clamp (by omega), if_neg hk, if_neg (by omega), hr, if_neg (fun z => z rfl), if_neg h34, nI_succ, Nat.add_sub_cancel]
end
section
variable {v : EdV} {ln : Nat} {f : Nat → Int32} {d : OpD} {s : JST}
theorem st_25 (h : d.1 = 25) : stF9 v ln f d s = (lyy d.2.1 s.1, s.2) := by rw [stF9, if_pos h]
theorem st_26 (h : d.1 = 26) : stF9 v ln f d s = (lyy (gtV v ln f s.2.1 d) s.1, gtP v ln f s.2.1 d, s.2.2) := by rw [stF9, if_neg (by omega), if_pos h]
theorem st_32 (h : d.1 = 32) : stF9 v ln f d s = (ldn s.1, s.2) := by rw [stF9, if_neg (by omega), if_neg (by omega), if_pos h]
theorem st_33 (h : d.1 = 33) : stF9 v ln f d s = (ldn s.1, s.2.1, s.2.2.1 + 1, upd s.2.2.2 s.2.2.1 (vp_nar .byte ((lft s.1).toInt32.toInt8.toInt32))) := by rw [stF9, if_neg (by omega), if_neg (by omega), if_neg (by omega), if_pos h]
theorem st_30 (h : d.1 = 30) : stF9 v ln f d s = (lyy (lft s.1) (lyy (lft s.1) (ldn s.1)), s.2) := by rw [stF9, if_neg (by omega), if_neg (by omega), if_neg (by omega), if_neg (by omega), if_pos h]
theorem st_j (h : d.1 = 27 ∨ d.1 = 28 ∨ d.1 = 29 ∨ d.1 = 31) : stF9 v ln f d s = (jnF d.1 s.1, s.2) := by rw [stF9, if_neg (by omega), if_neg (by omega), if_neg (by omega), if_neg (by omega), if_neg (by omega)]
theorem st_27 (h : d.1 = 27) : stF9 v ln f d s = (lyy (lft (ldn s.1) + lft s.1) (ldn (ldn s.1)), s.2) := by rw [st_j (Or.inl h), jnF, if_pos h]
theorem st_28 (h : d.1 = 28) : stF9 v ln f d s = (lyy (lft (ldn s.1) - lft s.1) (ldn (ldn s.1)), s.2) := by rw [st_j (Or.inr (Or.inl h)), jnF, if_neg (by omega), if_pos h]
theorem st_29 (h : d.1 = 29) : stF9 v ln f d s = (lyy (lft (ldn s.1) * lft s.1) (ldn (ldn s.1)), s.2) := by rw [st_j (Or.inr (Or.inr (Or.inl h))), jnF, if_neg (by omega), if_neg (by omega), if_pos h]
theorem st_31 (h : d.1 = 31) : stF9 v ln f d s = (lyy (lft (ldn s.1)) (lyy (lft s.1) (ldn (ldn s.1))), s.2) := by rw [st_j (Or.inr (Or.inr (Or.inr h))), jnF, if_neg (by omega), if_neg (by omega), if_neg (by omega)]
end
/-- the pile and what was sent, on both sides -/
def JP (a : Nat × (Nat → Int64)) (m : Nat) (L : Nat → Int64) : Prop := a.1 = m ∧ m ≤ 16 ∧ ∀ i, i < m → a.2 i = L i
section
variable {a : Nat × (Nat → Int64)} {m : Nat} {L L2 : Nat → Int64}
theorem JP.lf (h : JP a m L) (h1 : 1 ≤ m) : lft a = L (m - 1) := by
  unfold lft
  rw [h.1, if_neg (by omega)]
  exact h.2.2 _ (by omega)
theorem JP.dn (h : JP a m L) : JP (ldn a) (m - 1) L := by
  refine ⟨?_, by have := h.2.1; omega, fun i hi => h.2.2 i (by omega)⟩
  show a.1 - 1 = m - 1
  rw [h.1]
theorem JP.l2 (h : JP a m L) (h2 : 2 ≤ m) : lft (ldn a) = L (m - 2) := (h.dn.lf (by omega)).trans (by rw [show m - 1 - 1 = m - 2 by omega])
theorem JP.cg (h : JP a m L) (e : ∀ i, i < m → L2 i = L i) : JP a m L2 := ⟨h.1, h.2.1, fun i hi => (h.2.2 i hi).trans (e i hi).symm⟩
theorem JP.ly (h : JP a m L) (hm : m < 16) {x : Int64} : JP (lyy x a) (m + 1) (vp_updL L m x) := by
  unfold lyy
  rw [h.1, if_pos hm, if_pos hm]
  refine ⟨rfl, by omega, fun i hi => ?_⟩
  show vp_updL a.2 m x i = vp_updL L m x i
  by_cases e : i = m
  · rw [e, pk_uLs, pk_uLs]
  · rw [pk_uLn e, pk_uLn e]
    exact h.2.2 i (by omega)
theorem JP.dup (h : JP a m L) (h1 : 1 ≤ m) (h2 : m < 16) : JP (lyy (lft a) (lyy (lft a) (ldn a))) (m + 1) (vp_updL L m (L (m - 1))) := by
  have y := (h.dn.ly (x := lft a) (by omega)).ly (x := lft a) (by omega)
  rw [h.lf h1, show m - 1 + 1 = m by omega] at y
  rw [h.lf h1]
  refine y.cg (fun i hi => ?_)
  by_cases e : i = m
  · rw [e, pk_uLs, pk_uLs]
  · rw [pk_uLn e, pk_uLn e]
    by_cases u : i = m - 1
    · rw [u, pk_uLs]
    · rw [pk_uLn u]
theorem JP.op2 (h : JP a m L) (h2 : 2 ≤ m) {x : Int64} : JP (lyy x (ldn (ldn a))) (m - 1) (vp_updL L (m - 2) x) := by
  have y := h.dn.dn.ly (x := x) (by have := h.2.1; omega)
  rw [show m - 1 - 1 = m - 2 by omega, show m - 2 + 1 = m - 1 by omega] at y
  exact y
theorem JP.swap (h : JP a m L) (h2 : 2 ≤ m) : JP (lyy (lft (ldn a)) (lyy (lft a) (ldn (ldn a)))) m (vp_updL (vp_updL L (m - 1) (L (m - 2))) (m - 2) (L (m - 1))) := by
  have hm := h.2.1
  have y := (h.dn.dn.ly (x := lft a) (by omega)).ly (x := lft (ldn a)) (by omega)
  rw [show m - 1 - 1 = m - 2 by omega, show m - 2 + 1 = m - 1 by omega, show m - 1 + 1 = m by omega, h.lf (by omega), h.l2 h2] at y
  rw [h.lf (by omega), h.l2 h2]
  refine y.cg (fun i hi => ?_)
  by_cases e : i = m - 2
  · rw [e, pk_uLs, pk_uLn (by omega), pk_uLs]
  · rw [pk_uLn e]
    by_cases u : i = m - 1
    · rw [u, pk_uLs, pk_uLs]
    · rw [pk_uLn u, pk_uLn u, pk_uLn e]
end
