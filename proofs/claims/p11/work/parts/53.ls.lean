/-- a contract with more room, a narrower start and a wider end -/
theorem Met.mono {l : Launch} {y : MethodName} {ws : List Cond} {rm rm' : Room} {Pc Pc' : Array Value → State → Prop} {Qc Qc' : Array Value → State → Outcome → State → Prop} {mc mc' ms ms' : Nat} {free : Addr → Prop} (h : Met l y ws rm Pc Qc mc ms free) (h1 : rm.frames ≤ rm'.frames) (h2 : rm.cells ≤ rm'.cells) (h3 : rm.slots ≤ rm'.slots) (h4 : rm.locals ≤ rm'.locals) (hc : mc ≤ mc') (hs : ms ≤ ms') (hP : ∀ a U, Pc' a U → Pc a U) (hQ : ∀ a s o t, Qc a s o t → Qc' a s o t) : Met l y ws rm' Pc' Qc' mc' ms' free := by
  intro p e ha hcas hclk s m args below hf happ hPs hK
  obtain ⟨g1, g2, g3, g4, g5, g6, g7, g8⟩ := (Spec.appliesLoose_iff hf).mp happ
  have g7' : s.hasRoom e.platform (headSpec ws rm).room = true := by
    have g : s.hasRoom e.platform rm' = true := g7
    show s.hasRoom e.platform rm = true
    simp only [State.hasRoom, Bool.and_eq_true, decide_eq_true_eq] at g ⊢
    obtain ⟨⟨⟨⟨a1, a2, a3, a4, a5, a6⟩, a7⟩, a8⟩, a9⟩ := g
    exact ⟨⟨⟨⟨by omega, by omega, by omega, by omega, by omega, a6⟩, by omega⟩, by omega⟩, a9⟩
  obtain ⟨n, o, k1, k2, k3, k4, L, k5, k6⟩ := h p e ha hcas hclk s m args below hf ((Spec.appliesLoose_iff hf).mpr ⟨g1, g2, g3, g4, g5, g6, g7', g8⟩) (hP _ _ hPs) hK
  exact ⟨n, o, k1, k2, k3, hQ _ _ _ _ k4, L, ⟨k5.1, k5.2.1, k5.2.2.mono hc hs⟩, k6⟩
/-- how many places a list of n has, and what one more costs -/
def cpf (n : Nat) : Nat := if n ≤ 10 then 10 else if n ≤ 15 then 15 else if n ≤ 22 then 22 else if n ≤ 33 then 33 else if n ≤ 49 then 49 else if n ≤ 73 then 73 else 109
def gco (n : Nat) : Nat := if n = 0 then 10 else if n = cpf n then n + n / 2 else 0
theorem cpf_ok : ∀ n, n < 109 → 1 ≤ n → (n = cpf n → cpf (n + 1) = n + n / 2 ∧ 2 ≤ n) ∧ (n ≠ cpf n → n < cpf n ∧ cpf (n + 1) = cpf n) := by decide +kernel
theorem cpf_le (n : Nat) : cpf n ≤ 109 := by
  unfold cpf
  repeat' split
  all_goals omega
/-- a list with the elements f 0 .. f (n - 1) -/
def LiS (cy : Nat → ClassId) (e0 : Nat) (G : Nat → Option va_E) (al ea n : Nat) (f : Nat → Nat) : Prop := ∃ mo : Int32, G al = some (.inr (1, [.int mo, .ref ea, .int (nI n)])) ∧ ((n = 0 ∧ ea = e0) ∨ (1 ≤ n ∧ n ≤ cpf n ∧ ∃ gv : Nat → Option Nat, G ea = some (.inl (cy 4, cpf n, .inr (.inr (.inr (.inr gv))))) ∧ ∀ j, j < n → gv j = some (f j)))
/-- its elements are objects (and no lists) -/
def LO (G : Nat → Option va_E) (n : Nat) (f : Nat → Nat) : Prop := ∀ j, j < n → ∃ (ci : Nat) (fs : List Value) (r : vw_C), G (f j) = some (.inr (ci, fs)) ∧ vwCl[ci]? = some r ∧ Cond.castable r.1 "java/lang/Object" ∈ lw_tbl ∧ ci ≠ 1
def fup (f : Nat → Nat) (n x : Nat) : Nat → Nat := fun j => if j = n then x else f j
theorem fup_lt {f : Nat → Nat} {n x j : Nat} (h : j < n) : fup f n x j = f j := if_neg (by omega)
theorem fup_eq {f : Nat → Nat} {n x : Nat} : fup f n x n = x := if_pos rfl
theorem LiS.fr {cy : Nat → ClassId} {e0 : Nat} {G G2 : Nat → Option va_E} {al ea n : Nat} {f : Nat → Nat} (h : LiS cy e0 G al ea n f) (h1 : ∀ e, G al = some e → G2 al = some e) (h2 : ∀ e, G ea = some e → G2 ea = some e) : LiS cy e0 G2 al ea n f := by
  obtain ⟨mo, q, h | ⟨a, b, gv, q2, q3⟩⟩ := h
  · exact ⟨mo, h1 _ q, Or.inl h⟩
  · exact ⟨mo, h1 _ q, Or.inr ⟨a, b, gv, h2 _ q2, q3⟩⟩
theorem LiS.put {cy : Nat → ClassId} {e0 : Nat} {G : Nat → Option va_E} {al ea n a ci : Nat} {f : Nat → Nat} {fs : List Value} {e : va_E} (h : LiS cy e0 G al ea n f) (ha : G a = some (.inr (ci, fs))) (hc : ci ≠ 1) : LiS cy e0 (mm_set G a e) al ea n f := by
  obtain ⟨mo, q, h | ⟨z1, z2, gv, q2, q3⟩⟩ := h
  · exact ⟨mo, mm_set_of q (mm_ne_oo q ha (Ne.symm hc)), Or.inl h⟩
  · exact ⟨mo, mm_set_of q (mm_ne_oo q ha (Ne.symm hc)), Or.inr ⟨z1, z2, gv, mm_set_of q2 (mm_ne_ao q2 ha), q3⟩⟩
theorem LiS.new {cy : Nat → ClassId} {e0 : Nat} {G : Nat → Option va_E} {al ea n q : Nat} {f : Nat → Nat} {e : va_E} (h : LiS cy e0 G al ea n f) (hn : G q = none) : LiS cy e0 (mm_set G q e) al ea n f := by
  obtain ⟨mo, q, h | ⟨z1, z2, gv, q2, q3⟩⟩ := h
  · exact ⟨mo, mm_set_new q hn, Or.inl h⟩
  · exact ⟨mo, mm_set_new q hn, Or.inr ⟨z1, z2, gv, mm_set_new q2 hn, q3⟩⟩
theorem LiS.fr2 {cy : Nat → ClassId} {e0 : Nat} {G G2 : Nat → Option va_E} {al ea n : Nat} {f : Nat → Nat} (P : Nat → Prop) (h : LiS cy e0 G al ea n f) (hfr : ∀ (x : Nat) (e : va_E), G x = some e → P x → G2 x = some e) (h1 : P al) (h2 : ∀ v, 1 ≤ n → G ea = some (.inl v) → P ea) : LiS cy e0 G2 al ea n f := by
  obtain ⟨mo, q, h | ⟨z1, z2, gv, q2, q3⟩⟩ := h
  · exact ⟨mo, hfr _ _ q h1, Or.inl h⟩
  · exact ⟨mo, hfr _ _ q h1, Or.inr ⟨z1, z2, gv, hfr _ _ q2 (h2 _ z1 q2), q3⟩⟩
theorem LiS.ne {cy : Nat → ClassId} {e0 : Nat} {G : Nat → Option va_E} {al ea n a ci : Nat} {f : Nat → Nat} {fs : List Value} (h : LiS cy e0 G al ea n f) (ha : G a = some (.inr (ci, fs))) (hc : ci ≠ 1) : al ≠ a := by
  obtain ⟨mo, q, -⟩ := h
  exact mm_ne_oo q ha (Ne.symm hc)
theorem LO.fr {G G2 : Nat → Option va_E} {n : Nat} {f : Nat → Nat} (h : LO G n f) (hfr : ∀ j, j < n → ∀ (ci : Nat) (fs : List Value), ci ≠ 1 → G (f j) = some (.inr (ci, fs)) → ∃ fs2, G2 (f j) = some (.inr (ci, fs2))) : LO G2 n f := by
  intro j hj
  obtain ⟨ci, fs, r, z1, z2, z3, z4⟩ := h j hj
  obtain ⟨fs2, z5⟩ := hfr j hj ci fs z4 z1
  exact ⟨ci, fs2, r, z5, z2, z3, z4⟩
theorem LO.el {G : Nat → Option va_E} {n : Nat} {f : Nat → Nat} {gv : Nat → Option Nat} (h : LO G n f) (hg : ∀ j, j < n → gv j = some (f j)) : el_ok G n gv := by
  intro j hj y hy
  rw [hg j hj] at hy
  cases hy
  exact h j hj
set_option maxRecDepth 100000 in
theorem c_LS_add (l : Launch) (D : va_G) (cy : Nat → ClassId) (A : Nat → Prop) (X : State → Prop) (hst : mk_St A X) (hXT : ∀ U : State, X U → TB U) (e0 : Nat) (tk : Nat → Nat) (hXE : ∀ U : State, X U → ES e0 tk A U) (mi : Nat) (hXL : ∀ U : State, X U → EL e0 mi A U) (G : Nat → Option va_E) (al ea n : Nat) (f : Nat → Nat) (xv ci : Nat) (fx : List Value) (rr : vw_C) (h : LiS cy e0 G al ea n f) (hO : LO G n f) (hn : n < 109) (hxv : G xv = some (.inr (ci, fx))) (hvr : vwCl[ci]? = some rr) (hci : ci ≠ 1) (hcas : Cond.castable rr.1 "java/lang/Object" ∈ lw_tbl) : Met l yJx4a65c_add_9ea2d [.code yJx4a65c_add_9ea2d cJx4a65c_add_9ea2d 2 (some .boolean)] ({ frames := 6, cells := 1, slots := gco n, locals := 180 }) (mk_Pre D vwCl (tyL cy) A X G [.ref al, .ref xv]) (va_Qi (fun (_ : Int32) (G2 : Nat → Option va_E) => ∃ ea2 : Nat, LiS cy e0 G2 al ea2 (n + 1) (fup f n xv) ∧ ((1 ≤ n ∧ ea2 = ea) ∨ G ea2 = none) ∧ ∀ (x : Nat) (e : va_E), G x = some e → x ≠ al → (1 ≤ n → x ≠ ea) → G2 x = some e) (mk_B D vwCl A) A) 1 (gco n) A := by
  obtain ⟨mo, h0, h | ⟨hn1, hnc, gv, h1, hgv⟩⟩ := h
  · obtain ⟨rfl, he⟩ := h
    have h0' := h0
    rw [nI_0, he] at h0'
    refine (c_AL_addF l D cy A X hst hXT e0 tk hXE mi hXL G al mo xv ci fx rr h0' hxv hvr hci hcas).mono (Nat.le_of_ble_eq_true rfl) (Nat.le_of_ble_eq_true rfl) (Nat.le_of_ble_eq_true rfl) (Nat.le_of_ble_eq_true rfl) (Nat.le_of_ble_eq_true rfl) (Nat.le_of_ble_eq_true rfl) (fun _ _ h => h) ?_
    rintro a s o t ⟨⟨r, G2, e1, ⟨qa, k1, k2, k3, k4⟩, k5⟩, k6⟩
    refine ⟨⟨r, G2, e1, ⟨qa, ⟨mo + 1, k2, Or.inr ⟨by decide, by decide, _, k3, ?_⟩⟩, Or.inr k1, fun x e hx n1 _ => k4 x e hx n1⟩, k5⟩, k6⟩
    intro j hj
    have : j = 0 := by omega
    subst this
    rfl
  · by_cases hf : n = cpf n
    · have hk := (cpf_ok n hn hn1).1 hf
      have hg : gco n = n + n / 2 := by rw [gco, if_neg (by omega), if_pos hf]
      rw [hg]
      rw [← hf] at h1
      refine (c_AL_addG l D cy A X hst hXT e0 tk hXE mi hXL G al ea mo n gv xv ci fx rr h0 h1 (hO.el hgv) hk.2 (by omega) hxv hvr hci hcas).mono (Nat.le_of_ble_eq_true rfl) (Nat.le_of_ble_eq_true rfl) (Nat.le_refl _) (Nat.le_of_ble_eq_true rfl) (Nat.le_of_ble_eq_true rfl) (Nat.le_refl _) (fun _ _ h => h) ?_
      rintro a s o t ⟨⟨r, G2, e1, ⟨qa, k1, k2, k3, k4⟩, k5⟩, k6⟩
      refine ⟨⟨r, G2, e1, ⟨qa, ⟨mo + 1, k2, Or.inr ⟨by omega, by rw [hk.1]; omega, _, by rw [hk.1]; exact k3, ?_⟩⟩, Or.inr k1, fun x e hx n1 _ => k4 x e hx n1⟩, k5⟩, k6⟩
      intro j hj
      by_cases hz : j = n
      · subst hz
        rw [fup_eq]
        simp [va_up]
      · rw [fup_lt (by omega), ← hgv j (by omega)]
        simp [va_up, va_cpy, hz]
        intro h9
        omega
    · have hk := (cpf_ok n hn hn1).2 hf
      refine (c_AL_addR l D cy A X hst hXT e0 tk hXE G al ea mo n (cpf n) gv xv ci fx rr h0 h1 hxv hvr hci hcas hk.1 (by have := cpf_le n; omega)).mono (Nat.le_of_ble_eq_true rfl) (Nat.le_of_ble_eq_true rfl) (Nat.zero_le _) (Nat.le_of_ble_eq_true rfl) (Nat.le_of_ble_eq_true rfl) (Nat.zero_le _) (fun _ _ h => h) ?_
      rintro a s o t ⟨⟨r, G2, e1, ⟨k2, k3, k4⟩, k5⟩, k6⟩
      refine ⟨⟨r, G2, e1, ⟨ea, ⟨mo + 1, k2, Or.inr ⟨by omega, by rw [hk.2]; omega, _, by rw [hk.2]; exact k3, ?_⟩⟩, Or.inl ⟨hn1, rfl⟩, fun x e hx n1 n2 => k4 x e hx n1 (n2 hn1)⟩, k5⟩, k6⟩
      intro j hj
      by_cases hz : j = n
      · subst hz
        rw [fup_eq]
        simp [va_up]
      · rw [fup_lt (by omega), ← hgv j (by omega)]
        simp [va_up, hz]
theorem c_LS_size (l : Launch) (D : va_G) (cy : Nat → ClassId) (A : Nat → Prop) (X : State → Prop) (hst : mk_St A X) (hXT : ∀ U : State, X U → TB U) (e0 : Nat) (tk : Nat → Nat) (hXE : ∀ U : State, X U → ES e0 tk A U) (mi : Nat) (hXL : ∀ U : State, X U → EL e0 mi A U) (G : Nat → Option va_E) (al ea n : Nat) (f : Nat → Nat) (h : LiS cy e0 G al ea n f) : Met l yJx4a65c_size_8abf5 [.code yJx4a65c_size_8abf5 cJx4a65c_size_8abf5 1 (some .int)] ({ frames := 0, cells := 0, slots := 0, locals := 0 }) (mk_Pre D vwCl (tyL cy) A X G [.ref al]) (va_Qi (fun (r : Int32) (G2 : Nat → Option va_E) => r = nI n ∧ G2 = G) (mk_B D vwCl A) A) 0 0 A := by
  obtain ⟨mo, h0, -⟩ := h
  exact c_AL_size l D cy A X hst hXT e0 tk hXE G al ea mo n h0
theorem c_LS_get (l : Launch) (D : va_G) (cy : Nat → ClassId) (A : Nat → Prop) (X : State → Prop) (hst : mk_St A X) (hXT : ∀ U : State, X U → TB U) (e0 : Nat) (tk : Nat → Nat) (hXE : ∀ U : State, X U → ES e0 tk A U) (mi : Nat) (hXL : ∀ U : State, X U → EL e0 mi A U) (G : Nat → Option va_E) (al ea n : Nat) (f : Nat → Nat) (j : Nat) (h : LiS cy e0 G al ea n f) (hj : j < n) : Met l yJx4a65c_get_915e3 [.code yJx4a65c_get_915e3 cJx4a65c_get_915e3 2 (some (.object "java/lang/Object"))] ({ frames := 2, cells := 0, slots := 0, locals := 60 }) (mk_Pre D vwCl (tyL cy) A X G [.ref al, .int (nI j)]) (va_Qq (fun (r : Option Nat) (G2 : Nat → Option va_E) => r = some (f j) ∧ G2 = G) (mk_B D vwCl A) A) 0 0 A := by
  obtain ⟨mo, h0, h | ⟨hn1, hnc, gv, h1, hgv⟩⟩ := h
  · omega
  · have hc : cpf n ≤ 109 := cpf_le n
    rw [← hgv j hj]
    exact c_AL_get l D cy A X hst hXT e0 tk hXE G al ea mo n (cpf n) gv j h0 h1 hj hnc (by omega)
