/-! ===== the reference's object ===== -/
def mdN (k : Nat) : Nat := match k with
  | 0 => 2
  | 1 => 2
  | 2 => 2
  | 3 => 2
  | 4 => 2
  | 5 => 2
  | 6 => 2
  | 7 => 2002
  | 8 => 24024
  | 9 => 24
  | 10 => 24
  | 11 => 24
  | 12 => 24
  | 13 => 24
  | 14 => 24
  | 15 => 24
  | 16 => 192
  | 17 => 192
  | 18 => 12
  | 19 => 12
  | 20 => 32
  | 21 => 32
  | 22 => 32
  | 23 => 32
  | 24 => 256
  | 25 => 256
  | 26 => 256
  | 27 => 256
  | 28 => 256
  | 29 => 24
  | 30 => 24
  | 31 => 12
  | 32 => 12
  | 33 => 8
  | 34 => 8
  | 35 => 800
  | 36 => 800
  | 37 => 800
  | 40 => 2000
  | 45 => 4
  | 46 => 8000
  | 59 => 2000
  | 60 => 2000
  | 61 => 2000
  | 62 => 2000
  | 64 => 6
  | 65 => 64
  | 67 => 64
  | 70 => 128
  | 71 => 8
  | 72 => 8
  | 73 => 8
  | 74 => 8
  | 75 => 16
  | _ => 0
def mdI (k : Nat) : Bool := match k with
  | 0 => true
  | 1 => true
  | 2 => true
  | 3 => true
  | 4 => true
  | 5 => true
  | 6 => true
  | 7 => true
  | 8 => true
  | 9 => true
  | 10 => true
  | 11 => true
  | 12 => true
  | 13 => true
  | 14 => true
  | 15 => true
  | 16 => true
  | 17 => true
  | 18 => true
  | 19 => true
  | 20 => true
  | 21 => true
  | 22 => true
  | 23 => true
  | 24 => true
  | 25 => true
  | 26 => true
  | 27 => true
  | 28 => true
  | 29 => true
  | 30 => true
  | 31 => true
  | 32 => true
  | 33 => true
  | 34 => true
  | 35 => true
  | 36 => true
  | 37 => true
  | 40 => true
  | 45 => true
  | 46 => true
  | 59 => true
  | 60 => true
  | 61 => true
  | 62 => true
  | 64 => true
  | 65 => true
  | 67 => true
  | 72 => true
  | 73 => true
  | _ => false
def mdJ (k : Nat) : Bool := match k with
  | 70 => true
  | 74 => true
  | 75 => true
  | _ => false
def mdR (k : Nat) : Bool := mdI k || mdJ k || k == 71
def mfs (Ar : Nat → Nat) (Iv : Nat → Int32) : List Value := [.ref (Ar 0), .ref (Ar 1), .ref (Ar 2), .ref (Ar 3), .ref (Ar 4), .ref (Ar 5), .ref (Ar 6), .ref (Ar 7), .ref (Ar 8), .ref (Ar 9), .ref (Ar 10), .ref (Ar 11), .ref (Ar 12), .ref (Ar 13), .ref (Ar 14), .ref (Ar 15), .ref (Ar 16), .ref (Ar 17), .ref (Ar 18), .ref (Ar 19), .ref (Ar 20), .ref (Ar 21), .ref (Ar 22), .ref (Ar 23), .ref (Ar 24), .ref (Ar 25), .ref (Ar 26), .ref (Ar 27), .ref (Ar 28), .ref (Ar 29), .ref (Ar 30), .ref (Ar 31), .ref (Ar 32), .ref (Ar 33), .ref (Ar 34), .ref (Ar 35), .ref (Ar 36), .ref (Ar 37), .int (Iv 38), .int (Iv 39), .ref (Ar 40), .int (Iv 41), .int (Iv 42), .int (Iv 43), .int (Iv 44), .ref (Ar 45), .ref (Ar 46), .ref (Ar 47), .int (Iv 48), .int (Iv 49), .int (Iv 50), .int (Iv 51), .int (Iv 52), .int (Iv 53), .int (Iv 54), .int (Iv 55), .int (Iv 56), .int (Iv 57), .int (Iv 58), .ref (Ar 59), .ref (Ar 60), .ref (Ar 61), .ref (Ar 62), .int (Iv 63), .ref (Ar 64), .ref (Ar 65), .int (Iv 66), .ref (Ar 67), .int (Iv 68), .int (Iv 69), .ref (Ar 70), .ref (Ar 71), .ref (Ar 72), .ref (Ar 73), .ref (Ar 74), .ref (Ar 75)]
/-- G holds the reference's object o: arrays at Ar (by the field's number), ints Iv, int arrays' contents F, long arrays' L -/
def MD (cy : Nat → ClassId) (G : Nat → Option va_E) (o : Nat) (Ar : Nat → Nat) (Iv : Nat → Int32) (F : Nat → Nat → Int32) (L : Nat → Nat → Int64) : Prop :=
  G o = some (.inr (15, mfs Ar Iv)) ∧ (∀ k, mdI k = true → G (Ar k) = some (.inl (cy 1, mdN k, .inl (F k)))) ∧ (∀ k, mdJ k = true → G (Ar k) = some (.inl (cy 2, mdN k, .inr (.inl (L k))))) ∧ G (Ar 71) = some (.inl (cy 3, mdN 71, .inl (F 71))) ∧ ∀ j k, mdR j = true → mdR k = true → Ar j = Ar k → j = k
/-- nothing but the reference's cells has changed -/
def MF (G G2 : Nat → Option va_E) (o : Nat) (Ar : Nat → Nat) : Prop := ∀ (x : Nat) (e : va_E), G x = some e → x ≠ o → (∀ k, mdR k = true → x ≠ Ar k) → G2 x = some e
theorem mdR_I {k : Nat} (h : mdI k = true) : mdR k = true := by simp [mdR, h]
theorem mdR_J {k : Nat} (h : mdJ k = true) : mdR k = true := by simp [mdR, h]
theorem MF.rf {G : Nat → Option va_E} {o : Nat} {Ar : Nat → Nat} : MF G G o Ar := fun _ _ h _ _ => h
theorem MF.wo {G G1 : Nat → Option va_E} {o : Nat} {Ar : Nat → Nat} {e' : va_E} (h : MF G G1 o Ar) : MF G (mm_set G1 o e') o Ar := fun x e h0 h1 h2 => mm_set_of (h x e h0 h1 h2) h1
theorem MF.wa {G G1 : Nat → Option va_E} {o : Nat} {Ar : Nat → Nat} {e' : va_E} {k : Nat} (h : MF G G1 o Ar) (hk : mdR k = true) : MF G (mm_set G1 (Ar k) e') o Ar := fun x e h0 h1 h2 => mm_set_of (h x e h0 h1 h2) (h2 k hk)
theorem MF.tr {G G1 G2 : Nat → Option va_E} {o : Nat} {Ar : Nat → Nat} (h : MF G G1 o Ar) (h' : MF G1 G2 o Ar) : MF G G2 o Ar := fun x e h0 h1 h2 => h' x e (h x e h0 h1 h2) h1 h2
section MDS

variable {cy : Nat → ClassId} {G : Nat → Option va_E} {o : Nat} {Ar : Nat → Nat} {Iv : Nat → Int32} {F : Nat → Nat → Int32} {L : Nat → Nat → Int64}
theorem MD.puti {k : Nat} {v : Int32} (h : MD cy G o Ar Iv F L) (hs : (mfs Ar Iv).set k (.int v) = mfs Ar (upd Iv k v)) : MD cy (mm_set G o (.inr (15, (mfs Ar Iv).set k (.int v)))) o Ar (upd Iv k v) F L := by
  obtain ⟨h1, h2, h3, h4, h5⟩ := h
  exact ⟨by rw [hs]; exact mm_set_self, fun j hj => mm_set_of (h2 j hj) (mm_ne_ao (h2 j hj) h1), fun j hj => mm_set_of (h3 j hj) (mm_ne_ao (h3 j hj) h1), mm_set_of h4 (mm_ne_ao h4 h1), h5⟩
theorem MD.seti {k : Nat} (f' : Nat → Int32) (h : MD cy G o Ar Iv F L) (hk : mdI k = true) : MD cy (mm_set G (Ar k) (.inl (cy 1, mdN k, .inl f'))) o Ar Iv (va_up F k f') L := by
  obtain ⟨h1, h2, h3, h4, h5⟩ := h
  have h71 : 71 ≠ k := fun z => by rw [← z] at hk; exact absurd hk (by decide)
  refine ⟨mm_set_of h1 (mm_ne_oa h1 (h2 k hk)), fun j hj => ?_, fun j hj => mm_set_of (h3 j hj) (mm_ne_ji (h3 j hj) (h2 k hk)), ?_, h5⟩
  · by_cases e : j = k
    · subst e
      rw [va_up_self]
      exact mm_set_self
    · rw [va_up_ne _ _ e]
      exact mm_set_of (h2 j hj) (fun z => e (h5 j k (mdR_I hj) (mdR_I hk) z))
  · rw [va_up_ne _ _ h71]
    exact mm_set_of h4 (fun z => h71 (h5 _ k (by decide) (mdR_I hk) z))
theorem MD.setj {k : Nat} (f' : Nat → Int64) (h : MD cy G o Ar Iv F L) (hk : mdJ k = true) : MD cy (mm_set G (Ar k) (.inl (cy 2, mdN k, .inr (.inl f')))) o Ar Iv F (va_up L k f') := by
  obtain ⟨h1, h2, h3, h4, h5⟩ := h
  refine ⟨mm_set_of h1 (mm_ne_oa h1 (h3 k hk)), fun j hj => mm_set_of (h2 j hj) (mm_ne_ij (h2 j hj) (h3 k hk)), fun j hj => ?_, mm_set_of h4 (mm_ne_ij h4 (h3 k hk)), h5⟩
  by_cases e : j = k
  · subst e
    rw [va_up_self]
    exact mm_set_self
  · rw [va_up_ne _ _ e]
    exact mm_set_of (h3 j hj) (fun z => e (h5 j k (mdR_J hj) (mdR_J hk) z))
theorem MD.setz (f' : Nat → Int32) (h : MD cy G o Ar Iv F L) : MD cy (mm_set G (Ar 71) (.inl (cy 3, mdN 71, .inl f'))) o Ar Iv (va_up F 71 f') L := by
  obtain ⟨h1, h2, h3, h4, h5⟩ := h
  refine ⟨mm_set_of h1 (mm_ne_oa h1 h4), fun j hj => ?_, fun j hj => mm_set_of (h3 j hj) (mm_ne_ji (h3 j hj) h4), ?_, h5⟩
  · have e : j ≠ 71 := fun z => by rw [z] at hj; exact absurd hj (by decide)
    rw [va_up_ne _ _ e]
    exact mm_set_of (h2 j hj) (fun z => e (h5 j _ (mdR_I hj) (by decide) z))
  · rw [va_up_self]
    exact mm_set_self
end MDS
