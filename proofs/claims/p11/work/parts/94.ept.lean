/-! ===== an edition's cells by their kind, and what a put makes of it ===== -/
section

variable {cy : Nat → ClassId} {e0 : Nat} {tk : Nat → Nat} {G0 : Nat → Option va_E} {Bx : Nat → Prop} {G G2 : Nat → Option va_E} {v : EdV} {z : PtV} {LA EA : Nat → Nat} {AD : Nat → Nat → Nat} {PI : Nat → Nat}
theorem lv_l6 {k : Nat} (h : k < 6) : lvV v k := Or.inl h
theorem lv_R {c : Nat} (h : c < v.nC) : lvV v (6 + c) := Or.inr (Or.inl ⟨by omega, by omega⟩)
theorem lv_P {c : Nat} (h : c < v.nS) : lvV v (20 + c) := Or.inr (Or.inr (Or.inl ⟨by omega, by omega⟩))
theorem lv_O {c : Nat} (h : c < v.nJ) : lvV v (40 + c) := Or.inr (Or.inr (Or.inr ⟨by omega, by omega⟩))
theorem ln_R {c : Nat} (h : c < 14) : lnV v (6 + c) = v.nR c := by
  unfold lnV
  rw [if_neg (by omega), if_neg (by omega), if_neg (by omega), if_neg (by omega), if_neg (by omega), if_neg (by omega), if_pos (by omega), Nat.add_sub_cancel_left]
theorem ln_P {c : Nat} (h : c < 20) : lnV v (20 + c) = v.nP c := by
  unfold lnV
  rw [if_neg (by omega), if_neg (by omega), if_neg (by omega), if_neg (by omega), if_neg (by omega), if_neg (by omega), if_neg (by omega), if_pos (by omega), Nat.add_sub_cancel_left]
theorem ln_O {c : Nat} : lnV v (40 + c) = v.nO c := by
  unfold lnV
  rw [if_neg (by omega), if_neg (by omega), if_neg (by omega), if_neg (by omega), if_neg (by omega), if_neg (by omega), if_neg (by omega), if_neg (by omega), Nat.add_sub_cancel_left]
theorem fs_R {c i : Nat} (h : c < 14) : fsV tk v z LA AD PI (6 + c) i = enF (v.R c i) none := by
  unfold fsV
  rw [if_neg (by omega), if_neg (by omega), if_neg (by omega), if_neg (by omega), if_neg (by omega), if_neg (by omega), if_pos (by omega), Nat.add_sub_cancel_left]
theorem fs_P {c i : Nat} (h : c < 20) : fsV tk v z LA AD PI (20 + c) i = prF i (v.P c i) (z.pc c i) (z.pe c i) (z.pd c i) := by
  unfold fsV
  rw [if_neg (by omega), if_neg (by omega), if_neg (by omega), if_neg (by omega), if_neg (by omega), if_neg (by omega), if_neg (by omega), if_pos (by omega), Nat.add_sub_cancel_left]
theorem fs_O {c i : Nat} : fsV tk v z LA AD PI (40 + c) i = opF tk (v.O c i) (z.fo c i) (z.wo c i) := by
  unfold fsV
  rw [if_neg (by omega), if_neg (by omega), if_neg (by omega), if_neg (by omega), if_neg (by omega), if_neg (by omega), if_neg (by omega), if_neg (by omega), Nat.add_sub_cancel_left]
theorem cI_R {c : Nat} (h : c < 14) : cIL (6 + c) = 4 := by
  unfold cIL
  rw [if_neg (by omega), if_neg (by omega), if_neg (by omega), if_neg (by omega), if_neg (by omega), if_neg (by omega), if_pos (by omega)]
theorem cI_P {c : Nat} (h : c < 20) : cIL (20 + c) = 9 := by
  unfold cIL
  rw [if_neg (by omega), if_neg (by omega), if_neg (by omega), if_neg (by omega), if_neg (by omega), if_neg (by omega), if_neg (by omega), if_pos (by omega)]
theorem cI_O {c : Nat} : cIL (40 + c) = 8 := by
  unfold cIL
  rw [if_neg (by omega), if_neg (by omega), if_neg (by omega), if_neg (by omega), if_neg (by omega), if_neg (by omega), if_neg (by omega), if_neg (by omega)]
theorem EDP.elC (h : EDP cy e0 tk G0 Bx G v z LA EA AD PI) {i : Nat} (hi : i < v.nC) : G (AD 0 i) = some (.inr (2, coF i (v.C i) (LA (6 + i)))) := h.L.el 0 i (Or.inl (by decide)) hi
theorem EDP.lsC (h : EDP cy e0 tk G0 Bx G v z LA EA AD PI) : LiS cy e0 G (LA 0) (EA 0) v.nC (AD 0) := h.L.ls 0 (Or.inl (by decide))
theorem EDP.inC (h : EDP cy e0 tk G0 Bx G v z LA EA AD PI) : ∀ a b, a < v.nC → b < v.nC → AD 0 a = AD 0 b → a = b := fun a b ha hb e => (h.L.ad 0 a 0 b (Or.inl (by decide)) (Or.inl (by decide)) ha hb e).2
theorem EDP.elL (h : EDP cy e0 tk G0 Bx G v z LA EA AD PI) {i : Nat} (hi : i < v.nL) : G (AD 1 i) = some (.inr (6, laF i (v.L i) (z.lo i))) := h.L.el 1 i (Or.inl (by decide)) hi
theorem EDP.lsL (h : EDP cy e0 tk G0 Bx G v z LA EA AD PI) : LiS cy e0 G (LA 1) (EA 1) v.nL (AD 1) := h.L.ls 1 (Or.inl (by decide))
theorem EDP.inL (h : EDP cy e0 tk G0 Bx G v z LA EA AD PI) : ∀ a b, a < v.nL → b < v.nL → AD 1 a = AD 1 b → a = b := fun a b ha hb e => (h.L.ad 1 a 1 b (Or.inl (by decide)) (Or.inl (by decide)) ha hb e).2
theorem EDP.elS (h : EDP cy e0 tk G0 Bx G v z LA EA AD PI) {i : Nat} (hi : i < v.nS) : G (AD 2 i) = some (.inr (11, seF i (v.S i).2 (AD 1 (v.S i).1) (LA (20 + i)))) := h.L.el 2 i (Or.inl (by decide)) hi
theorem EDP.lsS (h : EDP cy e0 tk G0 Bx G v z LA EA AD PI) : LiS cy e0 G (LA 2) (EA 2) v.nS (AD 2) := h.L.ls 2 (Or.inl (by decide))
theorem EDP.inS (h : EDP cy e0 tk G0 Bx G v z LA EA AD PI) : ∀ a b, a < v.nS → b < v.nS → AD 2 a = AD 2 b → a = b := fun a b ha hb e => (h.L.ad 2 a 2 b (Or.inl (by decide)) (Or.inl (by decide)) ha hb e).2
theorem EDP.elE (h : EDP cy e0 tk G0 Bx G v z LA EA AD PI) {i : Nat} (hi : i < v.nE) : G (AD 3 i) = some (.inr (4, enF (v.E i) none)) := h.L.el 3 i (Or.inl (by decide)) hi
theorem EDP.lsE (h : EDP cy e0 tk G0 Bx G v z LA EA AD PI) : LiS cy e0 G (LA 3) (EA 3) v.nE (AD 3) := h.L.ls 3 (Or.inl (by decide))
theorem EDP.inE (h : EDP cy e0 tk G0 Bx G v z LA EA AD PI) : ∀ a b, a < v.nE → b < v.nE → AD 3 a = AD 3 b → a = b := fun a b ha hb e => (h.L.ad 3 a 3 b (Or.inl (by decide)) (Or.inl (by decide)) ha hb e).2
theorem EDP.elV (h : EDP cy e0 tk G0 Bx G v z LA EA AD PI) {i : Nat} (hi : i < v.nV) : G (AD 4 i) = some (.inr (4, enF (v.V i) (z.vl i))) := h.L.el 4 i (Or.inl (by decide)) hi
theorem EDP.lsV (h : EDP cy e0 tk G0 Bx G v z LA EA AD PI) : LiS cy e0 G (LA 4) (EA 4) v.nV (AD 4) := h.L.ls 4 (Or.inl (by decide))
theorem EDP.inV (h : EDP cy e0 tk G0 Bx G v z LA EA AD PI) : ∀ a b, a < v.nV → b < v.nV → AD 4 a = AD 4 b → a = b := fun a b ha hb e => (h.L.ad 4 a 4 b (Or.inl (by decide)) (Or.inl (by decide)) ha hb e).2
theorem EDP.elJ (h : EDP cy e0 tk G0 Bx G v z LA EA AD PI) {i : Nat} (hi : i < v.nJ) : G (AD 5 i) = some (.inr (5, joF (v.J i) (LA (40 + i)) (PI i) (z.jh i))) := h.L.el 5 i (Or.inl (by decide)) hi
theorem EDP.lsJ (h : EDP cy e0 tk G0 Bx G v z LA EA AD PI) : LiS cy e0 G (LA 5) (EA 5) v.nJ (AD 5) := h.L.ls 5 (Or.inl (by decide))
theorem EDP.inJ (h : EDP cy e0 tk G0 Bx G v z LA EA AD PI) : ∀ a b, a < v.nJ → b < v.nJ → AD 5 a = AD 5 b → a = b := fun a b ha hb e => (h.L.ad 5 a 5 b (Or.inl (by decide)) (Or.inl (by decide)) ha hb e).2
theorem EDP.elR (h : EDP cy e0 tk G0 Bx G v z LA EA AD PI) {c i : Nat} (hc : c < v.nC) (hi : i < v.nR c) : G (AD (6 + c) i) = some (.inr (4, enF (v.R c i) none)) := by
  have h1 := h.L.el (6 + c) i (lv_R hc) (by rw [ln_R (by have := h.b; omega)]; exact hi)
  rw [cI_R (by have := h.b; omega), fs_R (by have := h.b; omega)] at h1
  exact h1
theorem EDP.lsR (h : EDP cy e0 tk G0 Bx G v z LA EA AD PI) {c : Nat} (hc : c < v.nC) : LiS cy e0 G (LA (6 + c)) (EA (6 + c)) (v.nR c) (AD (6 + c)) := by
  have h1 := h.L.ls (6 + c) (lv_R hc)
  rw [ln_R (by have := h.b; omega)] at h1
  exact h1
theorem EDP.inR (h : EDP cy e0 tk G0 Bx G v z LA EA AD PI) {c : Nat} (hc : c < v.nC) : ∀ a b, a < v.nR c → b < v.nR c → AD (6 + c) a = AD (6 + c) b → a = b := fun a b ha hb e => (h.L.ad (6 + c) a (6 + c) b (lv_R hc) (lv_R hc) (by rw [ln_R (by have := h.b; omega)]; exact ha) (by rw [ln_R (by have := h.b; omega)]; exact hb) e).2
theorem EDP.elP (h : EDP cy e0 tk G0 Bx G v z LA EA AD PI) {c i : Nat} (hc : c < v.nS) (hi : i < v.nP c) : G (AD (20 + c) i) = some (.inr (9, prF i (v.P c i) (z.pc c i) (z.pe c i) (z.pd c i))) := by
  have h1 := h.L.el (20 + c) i (lv_P hc) (by rw [ln_P (by have := h.b; omega)]; exact hi)
  rw [cI_P (by have := h.b; omega), fs_P (by have := h.b; omega)] at h1
  exact h1
theorem EDP.lsP (h : EDP cy e0 tk G0 Bx G v z LA EA AD PI) {c : Nat} (hc : c < v.nS) : LiS cy e0 G (LA (20 + c)) (EA (20 + c)) (v.nP c) (AD (20 + c)) := by
  have h1 := h.L.ls (20 + c) (lv_P hc)
  rw [ln_P (by have := h.b; omega)] at h1
  exact h1
theorem EDP.inP (h : EDP cy e0 tk G0 Bx G v z LA EA AD PI) {c : Nat} (hc : c < v.nS) : ∀ a b, a < v.nP c → b < v.nP c → AD (20 + c) a = AD (20 + c) b → a = b := fun a b ha hb e => (h.L.ad (20 + c) a (20 + c) b (lv_P hc) (lv_P hc) (by rw [ln_P (by have := h.b; omega)]; exact ha) (by rw [ln_P (by have := h.b; omega)]; exact hb) e).2
theorem EDP.elO (h : EDP cy e0 tk G0 Bx G v z LA EA AD PI) {c i : Nat} (hc : c < v.nJ) (hi : i < v.nO c) : G (AD (40 + c) i) = some (.inr (8, opF tk (v.O c i) (z.fo c i) (z.wo c i))) := by
  have h1 := h.L.el (40 + c) i (lv_O hc) (by rw [ln_O ]; exact hi)
  rw [cI_O , fs_O ] at h1
  exact h1
theorem EDP.lsO (h : EDP cy e0 tk G0 Bx G v z LA EA AD PI) {c : Nat} (hc : c < v.nJ) : LiS cy e0 G (LA (40 + c)) (EA (40 + c)) (v.nO c) (AD (40 + c)) := by
  have h1 := h.L.ls (40 + c) (lv_O hc)
  rw [ln_O ] at h1
  exact h1
theorem EDP.inO (h : EDP cy e0 tk G0 Bx G v z LA EA AD PI) {c : Nat} (hc : c < v.nJ) : ∀ a b, a < v.nO c → b < v.nO c → AD (40 + c) a = AD (40 + c) b → a = b := fun a b ha hb e => (h.L.ad (40 + c) a (40 + c) b (lv_O hc) (lv_O hc) (by rw [ln_O ]; exact ha) (by rw [ln_O ]; exact hb) e).2
/-- one of the lists' objects written -/
theorem LSS.put {lv : Nat → Prop} {LN : Nat → Nat} {FS FS' : Nat → Nat → List Value} (h : LSS cy e0 G0 Bx G lv LA EA LN AD FS) {k i : Nat} {fs : List Value} (hk : lv k) (hi : i < LN k) (hF : ∀ k' i', lv k' → i' < LN k' → FS' k' i' = if k' = k ∧ i' = i then fs else FS k' i') : LSS cy e0 G0 Bx (mm_set G (AD k i) (.inr (cIL k, fs))) lv LA EA LN AD FS' := by
  have h0 := h.el k i hk hi
  refine ⟨fun k' hk' => (h.ls k' hk').put h0 (cIL_ne k).1, fun k' i' hk' hi' => ?_, h.la, h.ea, h.ad, h.fl, h.fe, h.fa, fun x e hx => ?_, fun x e hx nb => ?_⟩
  · rw [hF k' i' hk' hi']
    by_cases e : AD k' i' = AD k i
    · obtain ⟨e1, e2⟩ := h.ad k' i' k i hk' hk hi' hi e
      rw [if_pos ⟨e1, e2⟩, e, e1]
      exact mm_set_self
    · rw [if_neg (fun z => e (by rw [z.1, z.2])), mm_set_ne e]
      exact h.el k' i' hk' hi'
  · obtain ⟨e', h'⟩ := h.al x e hx
    by_cases e1 : x = AD k i
    · exact ⟨_, by rw [e1]; exact mm_set_self⟩
    · exact ⟨e', by rw [mm_set_ne e1]; exact h'⟩
  · rw [mm_set_ne (fun z => by rw [z, h.fa k i hk hi] at hx; cases hx)]
    exact h.fr x e hx nb
theorem EDP.put (h : EDP cy e0 tk G0 Bx G v z LA EA AD PI) {z' : PtV} {k i : Nat} {fs : List Value} (hk : lvV v k) (hi : i < lnV v k) (hF : ∀ k' i', fsV tk v z' LA AD PI k' i' = if k' = k ∧ i' = i then fs else fsV tk v z LA AD PI k' i') (hp : z'.pv = z.pv) : EDP cy e0 tk G0 Bx (mm_set G (AD k i) (.inr (cIL k, fs))) v z' LA EA AD PI := by
  refine ⟨h.L.put hk hi (fun k' i' _ _ => hF k' i'), h.b, h.sl, fun j hj => ?_, h.pn, h.pj⟩
  rw [hp, mm_set_ne (mm_ne_ao (h.pi j hj) (h.L.el k i hk hi))]
  exact h.pi j hj
def PtV.s_lo (z : PtV) (i : Nat) (x : Option Nat) : PtV := (up1 z.lo i x, z.vl, z.pc, z.pe, z.pd, z.fo, z.wo, z.jh, z.pv)
def PtV.s_vl (z : PtV) (i : Nat) (x : Option Nat) : PtV := (z.lo, up1 z.vl i x, z.pc, z.pe, z.pd, z.fo, z.wo, z.jh, z.pv)
def PtV.s_pc (z : PtV) (c : Nat) (i : Nat) (x : Option Nat) : PtV := (z.lo, z.vl, up1 z.pc c (up1 (z.pc c) i x), z.pe, z.pd, z.fo, z.wo, z.jh, z.pv)
def PtV.s_pe (z : PtV) (c : Nat) (i : Nat) (x : Option Nat) : PtV := (z.lo, z.vl, z.pc, up1 z.pe c (up1 (z.pe c) i x), z.pd, z.fo, z.wo, z.jh, z.pv)
def PtV.s_pd (z : PtV) (c : Nat) (i : Nat) (x : Int32 × Int32 × Int64 × Int64) : PtV := (z.lo, z.vl, z.pc, z.pe, up1 z.pd c (up1 (z.pd c) i x), z.fo, z.wo, z.jh, z.pv)
def PtV.s_fo (z : PtV) (c : Nat) (i : Nat) (x : Option Nat) : PtV := (z.lo, z.vl, z.pc, z.pe, z.pd, up1 z.fo c (up1 (z.fo c) i x), z.wo, z.jh, z.pv)
def PtV.s_wo (z : PtV) (c : Nat) (i : Nat) (x : Option Nat) : PtV := (z.lo, z.vl, z.pc, z.pe, z.pd, z.fo, up1 z.wo c (up1 (z.wo c) i x), z.jh, z.pv)
def PtV.s_jh (z : PtV) (i : Nat) (x : Int32) : PtV := (z.lo, z.vl, z.pc, z.pe, z.pd, z.fo, z.wo, up1 z.jh i x, z.pv)
theorem EDP.put_lo (h : EDP cy e0 tk G0 Bx G v z LA EA AD PI) {i : Nat} {x : Option Nat} (hi : i < v.nL) : EDP cy e0 tk G0 Bx (mm_set G (AD 1 i) (.inr (6, laF i (v.L i) x))) v (z.s_lo i x) LA EA AD PI := by
  refine EDP.put (z' := z.s_lo i x) (k := 1) h (Or.inl (by decide)) hi (fun k' i' => ?_) rfl
  by_cases e1 : k' = 1
  · rw [e1]
    by_cases e2 : i' = i
    · rw [if_pos ⟨rfl, e2⟩, e2]
      show laF i (v.L i) ((z.s_lo i x).lo i) = _
      rw [show (z.s_lo i x).lo i = x from up1_eq]
    · rw [if_neg (fun y => e2 y.2)]
      show laF i' (v.L i') ((z.s_lo i x).lo i') = laF i' (v.L i') (z.lo i')
      rw [show (z.s_lo i x).lo i' = z.lo i' from up1_ne e2]
  · rw [if_neg (fun y => e1 y.1)]
    unfold fsV
    rw [if_neg e1, if_neg e1]
    rfl
theorem EDP.put_vl (h : EDP cy e0 tk G0 Bx G v z LA EA AD PI) {i : Nat} {x : Option Nat} (hi : i < v.nV) : EDP cy e0 tk G0 Bx (mm_set G (AD 4 i) (.inr (4, enF (v.V i) x))) v (z.s_vl i x) LA EA AD PI := by
  refine EDP.put (z' := z.s_vl i x) (k := 4) h (Or.inl (by decide)) hi (fun k' i' => ?_) rfl
  by_cases e1 : k' = 4
  · rw [e1]
    by_cases e2 : i' = i
    · rw [if_pos ⟨rfl, e2⟩, e2]
      show enF (v.V i) ((z.s_vl i x).vl i) = _
      rw [show (z.s_vl i x).vl i = x from up1_eq]
    · rw [if_neg (fun y => e2 y.2)]
      show enF (v.V i') ((z.s_vl i x).vl i') = enF (v.V i') (z.vl i')
      rw [show (z.s_vl i x).vl i' = z.vl i' from up1_ne e2]
  · rw [if_neg (fun y => e1 y.1)]
    unfold fsV
    rw [if_neg e1, if_neg e1]
    rfl
theorem EDP.put_pc (h : EDP cy e0 tk G0 Bx G v z LA EA AD PI) {c i : Nat} {x : Option Nat} (hc : c < v.nS) (hi : i < v.nP c) : EDP cy e0 tk G0 Bx (mm_set G (AD (20 + c) i) (.inr (9, prF i (v.P c i) x (z.pe c i) (z.pd c i)))) v (z.s_pc c i x) LA EA AD PI := by
  have h1 := EDP.put (z' := z.s_pc c i x) (k := 20 + c) (fs := prF i (v.P c i) x (z.pe c i) (z.pd c i)) h (lv_P hc) (by rw [ln_P (by have := h.b; omega)]; exact hi) (fun k' i' => ?_) rfl
  · rw [cI_P (by have := h.b; omega)] at h1
    exact h1
  · have hb := h.b
    by_cases e1 : k' = 20 + c
    · rw [e1, fs_P (by have := h.b; omega), fs_P (by have := h.b; omega)]
      by_cases e2 : i' = i
      · rw [if_pos ⟨rfl, e2⟩, e2, show (z.s_pc c i x).pc c i = x by show up1 z.pc c (up1 (z.pc c) i x) c i = x; rw [up1_eq, up1_eq]]
        rfl
      · rw [if_neg (fun y => e2 y.2), show (z.s_pc c i x).pc c i' = z.pc c i' by show up1 z.pc c (up1 (z.pc c) i x) c i' = _; rw [up1_eq, up1_ne e2]]
        rfl
    · rw [if_neg (fun y => e1 y.1)]
      unfold fsV
      repeat' split
      all_goals first | rfl | skip
      rw [show (z.s_pc c i x).pc (k' - 20) = z.pc (k' - 20) from up1_ne (by omega)]
      rfl
theorem EDP.put_pe (h : EDP cy e0 tk G0 Bx G v z LA EA AD PI) {c i : Nat} {x : Option Nat} (hc : c < v.nS) (hi : i < v.nP c) : EDP cy e0 tk G0 Bx (mm_set G (AD (20 + c) i) (.inr (9, prF i (v.P c i) (z.pc c i) x (z.pd c i)))) v (z.s_pe c i x) LA EA AD PI := by
  have h1 := EDP.put (z' := z.s_pe c i x) (k := 20 + c) (fs := prF i (v.P c i) (z.pc c i) x (z.pd c i)) h (lv_P hc) (by rw [ln_P (by have := h.b; omega)]; exact hi) (fun k' i' => ?_) rfl
  · rw [cI_P (by have := h.b; omega)] at h1
    exact h1
  · have hb := h.b
    by_cases e1 : k' = 20 + c
    · rw [e1, fs_P (by have := h.b; omega), fs_P (by have := h.b; omega)]
      by_cases e2 : i' = i
      · rw [if_pos ⟨rfl, e2⟩, e2, show (z.s_pe c i x).pe c i = x by show up1 z.pe c (up1 (z.pe c) i x) c i = x; rw [up1_eq, up1_eq]]
        rfl
      · rw [if_neg (fun y => e2 y.2), show (z.s_pe c i x).pe c i' = z.pe c i' by show up1 z.pe c (up1 (z.pe c) i x) c i' = _; rw [up1_eq, up1_ne e2]]
        rfl
    · rw [if_neg (fun y => e1 y.1)]
      unfold fsV
      repeat' split
      all_goals first | rfl | skip
      rw [show (z.s_pe c i x).pe (k' - 20) = z.pe (k' - 20) from up1_ne (by omega)]
      rfl
theorem EDP.put_pd (h : EDP cy e0 tk G0 Bx G v z LA EA AD PI) {c i : Nat} {x : Int32 × Int32 × Int64 × Int64} (hc : c < v.nS) (hi : i < v.nP c) : EDP cy e0 tk G0 Bx (mm_set G (AD (20 + c) i) (.inr (9, prF i (v.P c i) (z.pc c i) (z.pe c i) x))) v (z.s_pd c i x) LA EA AD PI := by
  have h1 := EDP.put (z' := z.s_pd c i x) (k := 20 + c) (fs := prF i (v.P c i) (z.pc c i) (z.pe c i) x) h (lv_P hc) (by rw [ln_P (by have := h.b; omega)]; exact hi) (fun k' i' => ?_) rfl
  · rw [cI_P (by have := h.b; omega)] at h1
    exact h1
  · have hb := h.b
    by_cases e1 : k' = 20 + c
    · rw [e1, fs_P (by have := h.b; omega), fs_P (by have := h.b; omega)]
      by_cases e2 : i' = i
      · rw [if_pos ⟨rfl, e2⟩, e2, show (z.s_pd c i x).pd c i = x by show up1 z.pd c (up1 (z.pd c) i x) c i = x; rw [up1_eq, up1_eq]]
        rfl
      · rw [if_neg (fun y => e2 y.2), show (z.s_pd c i x).pd c i' = z.pd c i' by show up1 z.pd c (up1 (z.pd c) i x) c i' = _; rw [up1_eq, up1_ne e2]]
        rfl
    · rw [if_neg (fun y => e1 y.1)]
      unfold fsV
      repeat' split
      all_goals first | rfl | skip
      rw [show (z.s_pd c i x).pd (k' - 20) = z.pd (k' - 20) from up1_ne (by omega)]
      rfl
theorem EDP.put_fo (h : EDP cy e0 tk G0 Bx G v z LA EA AD PI) {c i : Nat} {x : Option Nat} (hc : c < v.nJ) (hi : i < v.nO c) : EDP cy e0 tk G0 Bx (mm_set G (AD (40 + c) i) (.inr (8, opF tk (v.O c i) x (z.wo c i)))) v (z.s_fo c i x) LA EA AD PI := by
  have h1 := EDP.put (z' := z.s_fo c i x) (k := 40 + c) (fs := opF tk (v.O c i) x (z.wo c i)) h (lv_O hc) (by rw [ln_O ]; exact hi) (fun k' i' => ?_) rfl
  · rw [cI_O ] at h1
    exact h1
  · have hb := h.b
    by_cases e1 : k' = 40 + c
    · rw [e1, fs_O , fs_O ]
      by_cases e2 : i' = i
      · rw [if_pos ⟨rfl, e2⟩, e2, show (z.s_fo c i x).fo c i = x by show up1 z.fo c (up1 (z.fo c) i x) c i = x; rw [up1_eq, up1_eq]]
        rfl
      · rw [if_neg (fun y => e2 y.2), show (z.s_fo c i x).fo c i' = z.fo c i' by show up1 z.fo c (up1 (z.fo c) i x) c i' = _; rw [up1_eq, up1_ne e2]]
        rfl
    · rw [if_neg (fun y => e1 y.1)]
      unfold fsV
      repeat' split
      all_goals first | rfl | skip
      rw [show (z.s_fo c i x).fo (k' - 40) = z.fo (k' - 40) from up1_ne (by omega)]
      rfl
theorem EDP.put_wo (h : EDP cy e0 tk G0 Bx G v z LA EA AD PI) {c i : Nat} {x : Option Nat} (hc : c < v.nJ) (hi : i < v.nO c) : EDP cy e0 tk G0 Bx (mm_set G (AD (40 + c) i) (.inr (8, opF tk (v.O c i) (z.fo c i) x))) v (z.s_wo c i x) LA EA AD PI := by
  have h1 := EDP.put (z' := z.s_wo c i x) (k := 40 + c) (fs := opF tk (v.O c i) (z.fo c i) x) h (lv_O hc) (by rw [ln_O ]; exact hi) (fun k' i' => ?_) rfl
  · rw [cI_O ] at h1
    exact h1
  · have hb := h.b
    by_cases e1 : k' = 40 + c
    · rw [e1, fs_O , fs_O ]
      by_cases e2 : i' = i
      · rw [if_pos ⟨rfl, e2⟩, e2, show (z.s_wo c i x).wo c i = x by show up1 z.wo c (up1 (z.wo c) i x) c i = x; rw [up1_eq, up1_eq]]
        rfl
      · rw [if_neg (fun y => e2 y.2), show (z.s_wo c i x).wo c i' = z.wo c i' by show up1 z.wo c (up1 (z.wo c) i x) c i' = _; rw [up1_eq, up1_ne e2]]
        rfl
    · rw [if_neg (fun y => e1 y.1)]
      unfold fsV
      repeat' split
      all_goals first | rfl | skip
      rw [show (z.s_wo c i x).wo (k' - 40) = z.wo (k' - 40) from up1_ne (by omega)]
      rfl
end
