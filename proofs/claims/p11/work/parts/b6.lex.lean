/-! ===== the reference's reading state ===== -/
/-- all arrays but the names' -/
def FX (F : Nat → Nat → Int32) : Nat → Nat → Int32 := fun j => if j = 0 ∨ j = 7 ∨ j = 8 then (fun _ => 0) else F j
/-- all ints but those of the token under way -/
def IX (Iv : Nat → Int32) : Nat → Int32 := fun j => if 50 ≤ j ∧ j ≤ 55 then 0 else Iv j
theorem FXe {F F2 : Nat → Nat → Int32} (h : FX F2 = FX F) {j : Nat} (hj : ¬ (j = 0 ∨ j = 7 ∨ j = 8)) : F2 j = F j := by
  have := congrFun h j
  rw [FX, FX, if_neg hj, if_neg hj] at this
  exact this
theorem IXe {I J : Nat → Int32} (h : IX I = IX J) {j : Nat} (hj : ¬ (50 ≤ j ∧ j ≤ 55)) : I j = J j := by
  have := congrFun h j
  rw [IX, IX, if_neg hj, if_neg hj] at this
  exact this
theorem FX_up {F : Nat → Nat → Int32} {j : Nat} {g : Nat → Int32} (hj : j = 0 ∨ j = 7 ∨ j = 8) : FX (va_up F j g) = FX F := by
  funext k
  unfold FX
  by_cases h : k = 0 ∨ k = 7 ∨ k = 8
  · rw [if_pos h, if_pos h]
  · rw [if_neg h, if_neg h, va_up_ne _ _ (fun e => h (by rw [e]; exact hj))]
theorem FX_va {F : Nat → Nat → Int32} {j : Nat} {g : Nat → Int32} (hj : ¬ (j = 0 ∨ j = 7 ∨ j = 8)) : FX (va_up F j g) = va_up (FX F) j g := by
  funext k
  by_cases h : k = j
  · rw [h, va_up_self, FX, if_neg hj, va_up_self]
  · rw [va_up_ne _ _ h, FX, FX, va_up_ne _ _ h]
theorem IX_up {Iv : Nat → Int32} {j : Nat} {x : Int32} (hj : 50 ≤ j ∧ j ≤ 55) : IX (upd Iv j x) = IX Iv := by
  funext k
  unfold IX
  by_cases h : 50 ≤ k ∧ k ≤ 55
  · rw [if_pos h, if_pos h]
  · rw [if_neg h, if_neg h, pk_un (fun e => h (by rw [e]; exact hj))]
theorem IX_ud {Iv : Nat → Int32} {j : Nat} {x : Int32} (hj : ¬ (50 ≤ j ∧ j ≤ 55)) : IX (upd Iv j x) = upd (IX Iv) j x := by
  funext k
  by_cases h : k = j
  · rw [h, pk_us, IX, if_neg hj, pk_us]
  · rw [pk_un h, IX, IX, pk_un h]
/-- the names' table of a book: m names, packed as the class packs them -/
def NTb (F : Nat → Nat → Int32) (d m : Nat) (nv : Nat → Int64) : Prop := F 0 d = nI m ∧ ∀ j, j < m → ∃ ln, 1 ≤ ln ∧ ln ≤ 12 ∧ F 7 (1001 * d + (j + 1)) = nI ln ∧ (∀ k, k < ln → aln (F 8 (12012 * d + 12 * (j + 1) + k)) = true) ∧ pkd (F 8) (12012 * d + 12 * (j + 1)) ln = nv j
theorem NTb.cg {F F2 : Nat → Nat → Int32} {d m : Nat} {nv : Nat → Int64} (h : NTb F d m nv) (h0 : F2 0 = F 0) (h7 : F2 7 = F 7) (h8 : F2 8 = F 8) : NTb F2 d m nv := by
  unfold NTb
  rw [h0, h7, h8]
  exact h
/-- a name's number, the table with it -/
def nuS (m : Nat) (nv : Nat → Int64) (x : Int64) : Nat := match fndF (fun j => decide (nv j = x)) m 0 with
  | none => m + 1
  | some j => j + 1
def ntS (m : Nat) (nv : Nat → Int64) (x : Int64) : Nat × (Nat → Int64) := match fndF (fun j => decide (nv j = x)) m 0 with
  | none => (m + 1, kup nv m x)
  | some _ => (m, nv)
theorem nuS_ok {m : Nat} {nv : Nat → Int64} {x : Int64} : ∃ j, j < (ntS m nv x).1 ∧ nuS m nv x = j + 1 ∧ (ntS m nv x).2 j = x := by
  unfold nuS ntS
  cases h : fndF (fun j => decide (nv j = x)) m 0 with
  | none => exact ⟨m, Nat.lt_succ_self m, rfl, by dsimp only; rw [kup, if_pos rfl]⟩
  | some j =>
    obtain ⟨_, h2, h3⟩ := fndF_some h
    exact ⟨j, by dsimp only; omega, rfl, of_decide_eq_true h3⟩
theorem ntS_le {m : Nat} {nv : Nat → Int64} {x : Int64} : m ≤ (ntS m nv x).1 ∧ (ntS m nv x).1 ≤ m + 1 := by
  unfold ntS
  split
  · exact ⟨Nat.le_succ _, Nat.le_refl _⟩
  · exact ⟨Nat.le_refl _, Nat.le_succ _⟩
theorem ntL_z {K : Nat → Nat} {V : Nat → Int64} {i : Nat} (h : K i = 0) (hm : (ntL K V i).1 < 2 ^ 30) : ntL K V (i + 1) = ntS (ntL K V i).1 (ntL K V i).2 (V i) := by
  rw [ntL]
  generalize ntL K V i = y at *
  unfold ntS nof
  cases hq : fndF (fun j => decide (y.2 j = V i)) y.1 0 with
  | none => exact if_pos ⟨h, rfl⟩
  | some j =>
    have h2 := (fndF_some hq).2.1
    exact if_neg (fun z => nI_ne0 (n := j + 1) (by omega) (by omega) z.2)
/-- what does not change while a text is read -/
def LXs (Ar : Nat → Nat) (Iv : Nat → Int32) (F : Nat → Nat → Int32) (ft : Nat → Int32) (sx fr en bo : Nat) : Prop := (sx = 40 ∨ sx = 46) ∧ Ar 47 = Ar sx ∧ fr + en ≤ mdN sx ∧ en ≤ 2000 ∧ bo < 2 ∧ Iv 41 = nI bo ∧ Iv 49 = nI (fr + en) ∧ ∀ i, i < en → chr (F sx (fr + i)) (ft i)
section

variable {Ar : Nat → Nat} {Iv I2 : Nat → Int32} {F F2 : Nat → Nat → Int32} {ft : Nat → Int32} {sx fr en bo : Nat}
theorem LXs.mv (h : LXs Ar Iv F ft sx fr en bo) (h1 : I2 41 = Iv 41) (h9 : I2 49 = Iv 49) (h4 : F2 40 = F 40) (h6 : F2 46 = F 46) : LXs Ar I2 F2 ft sx fr en bo := by
  obtain ⟨a1, a2, a3, a4, a5, a6, a7, a8⟩ := h
  refine ⟨a1, a2, a3, a4, a5, h1.trans a6, h9.trans a7, ?_⟩
  rcases a1 with e | e
  · rw [e] at a8 ⊢; rw [h4]; exact a8
  · rw [e] at a8 ⊢; rw [h6]; exact a8
theorem LXs.mx (h : LXs Ar Iv F ft sx fr en bo) (h1 : IX I2 = IX Iv) (h2 : FX F2 = FX F) : LXs Ar I2 F2 ft sx fr en bo := h.mv (IXe h1 (by decide)) (IXe h1 (by decide)) (FXe h2 (by decide)) (FXe h2 (by decide))
theorem LXs.sN (h : LXs Ar Iv F ft sx fr en bo) : mdI sx = true ∧ mdN sx ≤ 8000 ∧ sx ≠ 0 ∧ sx ≠ 7 ∧ sx ≠ 8 := by
  rcases h.1 with e | e
  · rw [e]; decide
  · rw [e]; decide
theorem LXs.bd (h : LXs Ar Iv F ft sx fr en bo) : fr + en ≤ 8000 := Nat.le_trans h.2.2.1 h.sN.2.1
theorem LXs.src {cy : Nat → ClassId} {G : Nat → Option va_E} {o : Nat} {J : Nat → Int32} {L : Nat → Nat → Int64} (h : LXs Ar Iv F ft sx fr en bo) (hM : MD cy G o Ar J F2 L) : G (Ar 47) = some (.inl (cy 1, mdN sx, .inl (F2 sx))) := by
  rw [h.2.1]
  exact hM.2.1 sx h.sN.1
theorem LXs.hr (h : LXs Ar Iv F ft sx fr en bo) {p : Nat} (hp : p ≤ en) (h50 : Iv 50 = nI (fr + p)) : hrF (F sx) (Iv 50) (Iv 49) = if p < en then F sx (fr + p) else -1 := by
  have hb := h.bd
  rw [hrF, h50, h.2.2.2.2.2.2.1]
  by_cases e : p < en
  · rw [if_pos e, if_pos (nI_lt (by omega) (by omega)), nI_clamp (by omega)]
  · rw [if_neg e, if_neg (nI_nlt (by omega) (by omega))]
theorem LXs.hlo (h : LXs Ar Iv F ft sx fr en bo) {p : Nat} (hp : p ≤ en) (h50 : Iv 50 = nI (fr + p)) : ¬ Iv 50 < 0 := by
  have hb := h.bd
  rw [h50]
  exact nI_pos (by omega)
theorem LXs.hhi (h : LXs Ar Iv F ft sx fr en bo) : Iv 49 ≤ nI (mdN sx) := by
  rw [h.2.2.2.2.2.2.1]
  exact nI_le h.2.2.1 (by have := h.sN.2.1; omega)
end
/-- a token as the reference tells it: its kind, its value -/
def KD (k : Nat) (x : Int64) (kd vl : Int32) (m : Nat) (nv : Nat → Int64) : Prop :=
  (k = 0 ∧ kd = 2 ∧ x ≠ 0 ∧ ∃ j, j < m ∧ vl = nI (j + 1) ∧ nv j = x) ∨ (k = 1 ∧ kd = 3 ∧ ∃ n : Nat, n < 1000000 ∧ vl = nI n ∧ x = Int64.ofNat n) ∨ (k = 2 ∧ kd = 0) ∨ (k = 3 ∧ kd = 5) ∨ (4 ≤ k ∧ k ≤ 10 ∧ kd = 4 ∧ vl = tBy k 0) ∨ (11 ≤ k ∧ k < 35 ∧ kd = 1 ∧ vl = nI (k - 10))
/-- the reference is about to cut the i-th token, from p on -/
def LXp (Ar : Nat → Nat) (Iv : Nat → Int32) (F : Nat → Nat → Int32) (ft : Nat → Int32) (sx fr en bo i p : Nat) : Prop := LXs Ar Iv F ft sx fr en bo ∧ PA ft en p i ∧ Iv 50 = nI (fr + p) ∧ Iv 51 = lnc ft p ∧ NTb F bo (ntL (tkK ft en) (tkV ft en) i).1 (ntL (tkK ft en) (tkV ft en) i).2
/-- the reference has the token q.1 under way; q.2: where the fault is, negative while there is none -/
def LXq (Ar : Nat → Nat) (Iv : Nat → Int32) (F : Nat → Nat → Int32) (ft : Nat → Int32) (sx fr en bo : Nat) (q : Nat × Int32) : Prop := LXs Ar Iv F ft sx fr en bo ∧ (q.1 < tkN ft en ∧ q.1 ≤ en) ∧ KD (tkK ft en q.1) (tkV ft en q.1) (Iv 52) (Iv 53) (ntL (tkK ft en) (tkV ft en) (q.1 + 1)).1 (ntL (tkK ft en) (tkV ft en) (q.1 + 1)).2 ∧ (∃ x, x ≤ en ∧ tkS ft en q.1 = nI x ∧ Iv 54 = lnc ft x) ∧ Iv 55 = (if q.2 < 0 then 1 else 0) ∧ NTb F bo (ntL (tkK ft en) (tkV ft en) (q.1 + 1)).1 (ntL (tkK ft en) (tkV ft en) (q.1 + 1)).2 ∧ (tkK ft en q.1 ≠ 2 → tkK ft en q.1 ≠ 3 → ∃ p, PA ft en p (q.1 + 1) ∧ Iv 50 = nI (fr + p) ∧ Iv 51 = lnc ft p)
section

variable {Ar : Nat → Nat} {Iv I2 : Nat → Int32} {F F2 : Nat → Nat → Int32} {ft : Nat → Int32} {sx fr en bo : Nat} {q : Nat × Int32}
theorem LXq.mv (h : LXq Ar Iv F ft sx fr en bo q) (hI : ∀ j, j = 41 ∨ (49 ≤ j ∧ j ≤ 55) → I2 j = Iv j) (hF : ∀ j, j = 0 ∨ j = 7 ∨ j = 8 ∨ j = 40 ∨ j = 46 → F2 j = F j) : LXq Ar I2 F2 ft sx fr en bo q := by
  obtain ⟨h1, h2, h3, h4, h5, h6, h7⟩ := h
  refine ⟨h1.mv (hI 41 (by omega)) (hI 49 (by omega)) (hF 40 (by omega)) (hF 46 (by omega)), h2, ?_, ?_, ?_, h6.cg (hF 0 (by omega)) (hF 7 (by omega)) (hF 8 (by omega)), ?_⟩
  · rw [hI 52 (by omega), hI 53 (by omega)]; exact h3
  · rw [hI 54 (by omega)]; exact h4
  · rw [hI 55 (by omega)]; exact h5
  · rw [hI 50 (by omega), hI 51 (by omega)]; exact h7
/-- an array that is none of the lexer's is written -/
theorem LXq.wF (h : LXq Ar Iv F ft sx fr en bo q) {k : Nat} {g : Nat → Int32} (hk : ¬ (k = 0 ∨ k = 7 ∨ k = 8 ∨ k = 40 ∨ k = 46)) : LXq Ar Iv (va_up F k g) ft sx fr en bo q := h.mv (fun _ _ => rfl) (fun j hj => va_up_ne _ _ (fun e => hk (by rw [← e]; exact hj)))
theorem LXq.wI (h : LXq Ar Iv F ft sx fr en bo q) {k : Nat} {x : Int32} (hk : ¬ (k = 41 ∨ (49 ≤ k ∧ k ≤ 55))) : LXq Ar (upd Iv k x) F ft sx fr en bo q := h.mv (fun j hj => pk_un (fun e => hk (by rw [← e]; exact hj))) (fun _ _ => rfl)
theorem LXq.set55 (h : LXq Ar Iv F ft sx fr en bo q) {x fa : Int32} (hx : x = if fa < 0 then 1 else 0) : LXq Ar (upd Iv 55 x) F ft sx fr en bo (q.1, fa) := by
  obtain ⟨h1, h2, h3, h4, h5, h6, h7⟩ := h
  exact ⟨h1.mv rfl rfl rfl rfl, h2, h3, h4, hx, h6, h7⟩
theorem LXq.nx (h : LXq Ar Iv F ft sx fr en bo q) (h2 : tkK ft en q.1 ≠ 2) (h3 : tkK ft en q.1 ≠ 3) : ∃ p, LXp Ar Iv F ft sx fr en bo (q.1 + 1) p := by
  obtain ⟨p, a1, a2, a3⟩ := h.2.2.2.2.2.2 h2 h3
  exact ⟨p, h.1, a1, a2, a3, h.2.2.2.2.2.1⟩
theorem LXq.Sn (h : LXq Ar Iv F ft sx fr en bo q) : ¬ tkS ft en q.1 < 0 := by
  obtain ⟨x, a1, a2, _⟩ := h.2.2.2.1
  have := h.1.2.2.2.1
  rw [a2]
  exact nI_pos (by omega)
theorem LXq.good (h : LXq Ar Iv F ft sx fr en bo q) : Iv 55 = (if q.2 < 0 then 1 else 0) := h.2.2.2.2.1
theorem LXq.g1 (h : LXq Ar Iv F ft sx fr en bo q) : (¬ Iv 55 = 0) ↔ q.2 < 0 := by
  rw [h.good]
  by_cases e : q.2 < 0
  · rw [if_pos e]; exact ⟨fun _ => e, fun _ => by decide⟩
  · rw [if_neg e]; exact ⟨fun z => absurd rfl z, fun z => absurd z e⟩
theorem LXq.kd (h : LXq Ar Iv F ft sx fr en bo q) : KD (tkK ft en q.1) (tkV ft en q.1) (Iv 52) (Iv 53) (ntL (tkK ft en) (tkV ft en) (q.1 + 1)).1 (ntL (tkK ft en) (tkV ft en) (q.1 + 1)).2 := h.2.2.1
theorem KD.word {k : Nat} {x : Int64} {kd vl : Int32} {m : Nat} {nv : Nat → Int64} (h : KD k x kd vl m nv) {w : Nat} (hw : 1 ≤ w) (hw2 : w < 25) : (kd = 1 ∧ vl = nI w) ↔ k = w + 10 := by
  rcases h with ⟨h1, h2, _⟩ | ⟨h1, h2, _⟩ | ⟨h1, h2⟩ | ⟨h1, h2⟩ | ⟨h1, h2, h3, _⟩ | ⟨h1, h2, h3, h4⟩
  · exact ⟨fun z => absurd (h2.symm.trans z.1) (by decide), fun z => by omega⟩
  · exact ⟨fun z => absurd (h2.symm.trans z.1) (by decide), fun z => by omega⟩
  · exact ⟨fun z => absurd (h2.symm.trans z.1) (by decide), fun z => by omega⟩
  · exact ⟨fun z => absurd (h2.symm.trans z.1) (by decide), fun z => by omega⟩
  · exact ⟨fun z => absurd (h3.symm.trans z.1) (by decide), fun z => by omega⟩
  · refine ⟨fun z => ?_, fun z => ⟨h3, by rw [h4]; congr 1; omega⟩⟩
    have := nI_inj (by omega) (by omega) (h4.symm.trans z.2)
    omega
theorem tBy_inj : ∀ i, i < 11 → 4 ≤ i → ∀ j, j < 11 → 4 ≤ j → tBy i 0 = tBy j 0 → i = j := by decide +kernel
theorem KD.sign {k : Nat} {x : Int64} {kd vl : Int32} {m : Nat} {nv : Nat → Int64} (h : KD k x kd vl m nv) {w : Nat} (hw : 4 ≤ w) (hw2 : w ≤ 10) : (kd = 4 ∧ vl = tBy w 0) ↔ k = w := by
  rcases h with ⟨h1, h2, _⟩ | ⟨h1, h2, _⟩ | ⟨h1, h2⟩ | ⟨h1, h2⟩ | ⟨h1, h2, h3, h4⟩ | ⟨h1, h2, h3, h4⟩
  · exact ⟨fun z => absurd (h2.symm.trans z.1) (by decide), fun z => by omega⟩
  · exact ⟨fun z => absurd (h2.symm.trans z.1) (by decide), fun z => by omega⟩
  · exact ⟨fun z => absurd (h2.symm.trans z.1) (by decide), fun z => by omega⟩
  · exact ⟨fun z => absurd (h2.symm.trans z.1) (by decide), fun z => by omega⟩
  · exact ⟨fun z => tBy_inj k (by omega) h1 w (by omega) hw (h4.symm.trans z.2), fun z => ⟨h3, by rw [h4, z]⟩⟩
  · exact ⟨fun z => absurd (h3.symm.trans z.1) (by decide), fun z => by omega⟩
theorem KD.name {k : Nat} {x : Int64} {kd vl : Int32} {m : Nat} {nv : Nat → Int64} (h : KD k x kd vl m nv) : kd = 2 ↔ k = 0 := by
  rcases h with ⟨h1, h2, _⟩ | ⟨h1, h2, _⟩ | ⟨h1, h2⟩ | ⟨h1, h2⟩ | ⟨h1, h2, h3, h4⟩ | ⟨h1, h2, h3, h4⟩
  · exact ⟨fun _ => h1, fun _ => h2⟩
  · exact ⟨fun z => absurd (h2.symm.trans z) (by decide), fun z => by omega⟩
  · exact ⟨fun z => absurd (h2.symm.trans z) (by decide), fun z => by omega⟩
  · exact ⟨fun z => absurd (h2.symm.trans z) (by decide), fun z => by omega⟩
  · exact ⟨fun z => absurd (h3.symm.trans z) (by decide), fun z => by omega⟩
  · exact ⟨fun z => absurd (h3.symm.trans z) (by decide), fun z => by omega⟩
theorem KD.num {k : Nat} {x : Int64} {kd vl : Int32} {m : Nat} {nv : Nat → Int64} (h : KD k x kd vl m nv) : kd = 3 ↔ k = 1 := by
  rcases h with ⟨h1, h2, _⟩ | ⟨h1, h2, _⟩ | ⟨h1, h2⟩ | ⟨h1, h2⟩ | ⟨h1, h2, h3, h4⟩ | ⟨h1, h2, h3, h4⟩
  · exact ⟨fun z => absurd (h2.symm.trans z) (by decide), fun z => by omega⟩
  · exact ⟨fun _ => h1, fun _ => h2⟩
  · exact ⟨fun z => absurd (h2.symm.trans z) (by decide), fun z => by omega⟩
  · exact ⟨fun z => absurd (h2.symm.trans z) (by decide), fun z => by omega⟩
  · exact ⟨fun z => absurd (h3.symm.trans z) (by decide), fun z => by omega⟩
  · exact ⟨fun z => absurd (h3.symm.trans z) (by decide), fun z => by omega⟩
theorem KD.end_ {k : Nat} {x : Int64} {kd vl : Int32} {m : Nat} {nv : Nat → Int64} (h : KD k x kd vl m nv) : kd = 0 ↔ k = 2 := by
  rcases h with ⟨h1, h2, _⟩ | ⟨h1, h2, _⟩ | ⟨h1, h2⟩ | ⟨h1, h2⟩ | ⟨h1, h2, h3, h4⟩ | ⟨h1, h2, h3, h4⟩
  · exact ⟨fun z => absurd (h2.symm.trans z) (by decide), fun z => by omega⟩
  · exact ⟨fun z => absurd (h2.symm.trans z) (by decide), fun z => by omega⟩
  · exact ⟨fun _ => h1, fun _ => h2⟩
  · exact ⟨fun z => absurd (h2.symm.trans z) (by decide), fun z => by omega⟩
  · exact ⟨fun z => absurd (h3.symm.trans z) (by decide), fun z => by omega⟩
  · exact ⟨fun z => absurd (h3.symm.trans z) (by decide), fun z => by omega⟩
theorem LXq.isW (h : LXq Ar Iv F ft sx fr en bo q) {w : Nat} {y : Int32} (hy : y = nI w) (hw : 1 ≤ w) (hw2 : w < 25) : isKV Iv 1 y = se (tkK ft en) q.1 q.2 (w + 10) := by
  rw [hy, Bool.eq_iff_iff]
  unfold isKV se
  simp only [Bool.and_eq_true, decide_eq_true_eq]
  rw [h.g1, and_assoc, h.kd.word hw hw2]
theorem LXq.isS (h : LXq Ar Iv F ft sx fr en bo q) {w : Nat} {y : Int32} (hy : y = tBy w 0) (hw : 4 ≤ w) (hw2 : w ≤ 10) : isKV Iv 4 y = se (tkK ft en) q.1 q.2 w := by
  rw [hy, Bool.eq_iff_iff]
  unfold isKV se
  simp only [Bool.and_eq_true, decide_eq_true_eq]
  rw [h.g1, and_assoc, h.kd.sign hw hw2]
end
/-- what a step of the reader does to (place, fault) -/
def wtQ (S : Nat → Int32) (is : Bool) (q : Nat × Int32) : Nat × Int32 := if is = true then (if q.2 < 0 then (q.1 + 1, q.2) else q) else (q.1, fl S q.1 q.2)
theorem wtQ_take {K : Nat → Nat} {S : Nat → Int32} {j : Nat} {q : Nat × Int32} : wtQ S (decide (K q.1 = j)) q = q_take K S j q := by
  unfold wtQ q_take se
  by_cases h1 : K q.1 = j
  · by_cases h2 : q.2 < 0
    · rw [if_pos (decide_eq_true h1), if_pos h2, if_pos (by rw [decide_eq_true h1, decide_eq_true h2]; rfl)]
    · rw [if_pos (decide_eq_true h1), if_neg h2, if_neg (by rw [decide_eq_false h2]; exact Bool.false_ne_true), fl, if_neg h2]
  · rw [if_neg (by rw [decide_eq_false h1]; exact Bool.false_ne_true), if_neg (by rw [decide_eq_false h1, Bool.and_false]; exact Bool.false_ne_true)]
theorem wtQ_begin {S : Nat → Int32} {hv mo : Int32} {q : Nat × Int32} : wtQ S (decide (hv < mo)) q = q_begin S hv mo q := by
  unfold wtQ q_begin
  by_cases h1 : hv < mo
  · rw [if_pos (decide_eq_true h1), if_pos h1]
  · rw [if_neg (by rw [decide_eq_false h1]; exact Bool.false_ne_true), if_neg h1]
