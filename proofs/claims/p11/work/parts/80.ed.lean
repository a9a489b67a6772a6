/-- a function changed at one place -/
def up1 {α : Type} (f : Nat → α) (n : Nat) (x : α) : Nat → α := fun j => if j = n then x else f j
theorem up1_eq {α : Type} {f : Nat → α} {n : Nat} {x : α} : up1 f n x n = x := if_pos rfl
theorem up1_ne {α : Type} {f : Nat → α} {n j : Nat} {x : α} (h : j ≠ n) : up1 f n x j = f j := if_neg h
theorem LiS.cg {cy : Nat → ClassId} {e0 : Nat} {G : Nat → Option va_E} {al ea n : Nat} {f f' : Nat → Nat} (h : LiS cy e0 G al ea n f) (hf : ∀ j, j < n → f' j = f j) : LiS cy e0 G al ea n f' := by
  obtain ⟨mo, q, h | ⟨a, b, gv, q2, q3⟩⟩ := h
  · exact ⟨mo, q, Or.inl h⟩
  · exact ⟨mo, q, Or.inr ⟨a, b, gv, q2, fun j hj => by rw [hf j hj]; exact q3 j hj⟩⟩
theorem LiS.some {cy : Nat → ClassId} {e0 : Nat} {G : Nat → Option va_E} {al ea n : Nat} {f : Nat → Nat} (h : LiS cy e0 G al ea n f) : ∃ fs, G al = some (.inr (1, fs)) := by
  obtain ⟨mo, q, -⟩ := h
  exact ⟨_, q⟩
/-- the class number of the elements of list k -/
def cIL (k : Nat) : Nat := if k = 0 then 2 else if k = 1 then 6 else if k = 2 then 11 else if k = 3 then 4 else if k = 4 then 4 else if k = 5 then 5 else if k < 20 then 4 else if k < 40 then 9 else 8
theorem cIL_ne (k : Nat) : cIL k ≠ 1 ∧ cIL k ≠ 10 ∧ cIL k ≠ 3 := by
  unfold cIL
  repeat (first | decide | split)
/-- lists with their elements, all apart; G0: what stood before they came, Bx: what of it may have changed -/
def LSS (cy : Nat → ClassId) (e0 : Nat) (G0 : Nat → Option va_E) (Bx : Nat → Prop) (G : Nat → Option va_E) (lv : Nat → Prop) (LA EA LN : Nat → Nat) (AD : Nat → Nat → Nat) (FS : Nat → Nat → List Value) : Prop :=
  (∀ k, lv k → LiS cy e0 G (LA k) (EA k) (LN k) (AD k)) ∧ (∀ k i, lv k → i < LN k → G (AD k i) = some (.inr (cIL k, FS k i))) ∧ (∀ k k', lv k → lv k' → LA k = LA k' → k = k') ∧ (∀ k k', lv k → lv k' → 1 ≤ LN k → 1 ≤ LN k' → EA k = EA k' → k = k') ∧ (∀ k i k' i', lv k → lv k' → i < LN k → i' < LN k' → AD k i = AD k' i' → k = k' ∧ i = i') ∧ (∀ k, lv k → G0 (LA k) = none ∨ Bx (LA k)) ∧ (∀ k, lv k → 1 ≤ LN k → G0 (EA k) = none) ∧ (∀ k i, lv k → i < LN k → G0 (AD k i) = none) ∧ (∀ x e, G0 x = some e → ∃ e', G x = some e') ∧ (∀ x e, G0 x = some e → ¬ Bx x → G x = some e)
theorem LSS.ls {cy : Nat → ClassId} {e0 : Nat} {G0 : Nat → Option va_E} {Bx : Nat → Prop} {G : Nat → Option va_E} {lv : Nat → Prop} {LA EA LN : Nat → Nat} {AD : Nat → Nat → Nat} {FS : Nat → Nat → List Value} (h : LSS cy e0 G0 Bx G lv LA EA LN AD FS) : ∀ k, lv k → LiS cy e0 G (LA k) (EA k) (LN k) (AD k) := h.1
theorem LSS.el {cy : Nat → ClassId} {e0 : Nat} {G0 : Nat → Option va_E} {Bx : Nat → Prop} {G : Nat → Option va_E} {lv : Nat → Prop} {LA EA LN : Nat → Nat} {AD : Nat → Nat → Nat} {FS : Nat → Nat → List Value} (h : LSS cy e0 G0 Bx G lv LA EA LN AD FS) : ∀ k i, lv k → i < LN k → G (AD k i) = some (.inr (cIL k, FS k i)) := h.2.1
theorem LSS.la {cy : Nat → ClassId} {e0 : Nat} {G0 : Nat → Option va_E} {Bx : Nat → Prop} {G : Nat → Option va_E} {lv : Nat → Prop} {LA EA LN : Nat → Nat} {AD : Nat → Nat → Nat} {FS : Nat → Nat → List Value} (h : LSS cy e0 G0 Bx G lv LA EA LN AD FS) : ∀ k k', lv k → lv k' → LA k = LA k' → k = k' := h.2.2.1
theorem LSS.ea {cy : Nat → ClassId} {e0 : Nat} {G0 : Nat → Option va_E} {Bx : Nat → Prop} {G : Nat → Option va_E} {lv : Nat → Prop} {LA EA LN : Nat → Nat} {AD : Nat → Nat → Nat} {FS : Nat → Nat → List Value} (h : LSS cy e0 G0 Bx G lv LA EA LN AD FS) : ∀ k k', lv k → lv k' → 1 ≤ LN k → 1 ≤ LN k' → EA k = EA k' → k = k' := h.2.2.2.1
theorem LSS.ad {cy : Nat → ClassId} {e0 : Nat} {G0 : Nat → Option va_E} {Bx : Nat → Prop} {G : Nat → Option va_E} {lv : Nat → Prop} {LA EA LN : Nat → Nat} {AD : Nat → Nat → Nat} {FS : Nat → Nat → List Value} (h : LSS cy e0 G0 Bx G lv LA EA LN AD FS) : ∀ k i k' i', lv k → lv k' → i < LN k → i' < LN k' → AD k i = AD k' i' → k = k' ∧ i = i' := h.2.2.2.2.1
theorem LSS.fl {cy : Nat → ClassId} {e0 : Nat} {G0 : Nat → Option va_E} {Bx : Nat → Prop} {G : Nat → Option va_E} {lv : Nat → Prop} {LA EA LN : Nat → Nat} {AD : Nat → Nat → Nat} {FS : Nat → Nat → List Value} (h : LSS cy e0 G0 Bx G lv LA EA LN AD FS) : ∀ k, lv k → G0 (LA k) = none ∨ Bx (LA k) := h.2.2.2.2.2.1
theorem LSS.fe {cy : Nat → ClassId} {e0 : Nat} {G0 : Nat → Option va_E} {Bx : Nat → Prop} {G : Nat → Option va_E} {lv : Nat → Prop} {LA EA LN : Nat → Nat} {AD : Nat → Nat → Nat} {FS : Nat → Nat → List Value} (h : LSS cy e0 G0 Bx G lv LA EA LN AD FS) : ∀ k, lv k → 1 ≤ LN k → G0 (EA k) = none := h.2.2.2.2.2.2.1
theorem LSS.fa {cy : Nat → ClassId} {e0 : Nat} {G0 : Nat → Option va_E} {Bx : Nat → Prop} {G : Nat → Option va_E} {lv : Nat → Prop} {LA EA LN : Nat → Nat} {AD : Nat → Nat → Nat} {FS : Nat → Nat → List Value} (h : LSS cy e0 G0 Bx G lv LA EA LN AD FS) : ∀ k i, lv k → i < LN k → G0 (AD k i) = none := h.2.2.2.2.2.2.2.1
theorem LSS.al {cy : Nat → ClassId} {e0 : Nat} {G0 : Nat → Option va_E} {Bx : Nat → Prop} {G : Nat → Option va_E} {lv : Nat → Prop} {LA EA LN : Nat → Nat} {AD : Nat → Nat → Nat} {FS : Nat → Nat → List Value} (h : LSS cy e0 G0 Bx G lv LA EA LN AD FS) : ∀ x e, G0 x = some e → ∃ e', G x = some e' := h.2.2.2.2.2.2.2.2.1
theorem LSS.fr {cy : Nat → ClassId} {e0 : Nat} {G0 : Nat → Option va_E} {Bx : Nat → Prop} {G : Nat → Option va_E} {lv : Nat → Prop} {LA EA LN : Nat → Nat} {AD : Nat → Nat → Nat} {FS : Nat → Nat → List Value} (h : LSS cy e0 G0 Bx G lv LA EA LN AD FS) : ∀ x e, G0 x = some e → ¬ Bx x → G x = some e := h.2.2.2.2.2.2.2.2.2
section

variable {cy : Nat → ClassId} {e0 : Nat} {G0 : Nat → Option va_E} {Bx : Nat → Prop} {G G2 : Nat → Option va_E} {lv lv' : Nat → Prop} {LA EA LN LA' EA' LN' : Nat → Nat} {AD AD' : Nat → Nat → Nat} {FS FS' : Nat → Nat → List Value}
theorem LSS.nw (h : LSS cy e0 G0 Bx G lv LA EA LN AD FS) {x : Nat} (hx : G x = none) : G0 x = none := by
  cases hz : G0 x with
  | none => rfl
  | some e =>
    obtain ⟨e', h'⟩ := h.al x e hz
    rw [hx] at h'
    cases h'
theorem LSS.cg (h : LSS cy e0 G0 Bx G lv LA EA LN AD FS) (h1 : ∀ k, lv' k → lv k) (hA : ∀ k, lv' k → LA' k = LA k) (hE : ∀ k, lv' k → EA' k = EA k) (hN : ∀ k, lv' k → LN' k = LN k) (hD : ∀ k i, lv' k → i < LN k → AD' k i = AD k i) (hF : ∀ k i, lv' k → i < LN k → FS' k i = FS k i) : LSS cy e0 G0 Bx G lv' LA' EA' LN' AD' FS' := by
  refine ⟨?_, ?_, ?_, ?_, ?_, ?_, ?_, ?_, ?_, ?_⟩
  · intro k hk
    rw [hA k hk, hE k hk, hN k hk]
    exact (h.ls k (h1 k hk)).cg (fun j hj => hD k j hk hj)
  · intro k i hk hi
    rw [hN k hk] at hi
    rw [hD k i hk hi, hF k i hk hi]
    exact h.el k i (h1 k hk) hi
  · intro k k' hk hk' e
    rw [hA k hk, hA k' hk'] at e
    exact h.la k k' (h1 k hk) (h1 k' hk') e
  · intro k k' hk hk' n n' e
    rw [hN k hk] at n
    rw [hN k' hk'] at n'
    rw [hE k hk, hE k' hk'] at e
    exact h.ea k k' (h1 k hk) (h1 k' hk') n n' e
  · intro k i k' i' hk hk' n n' e
    rw [hN k hk] at n
    rw [hN k' hk'] at n'
    rw [hD k i hk n, hD k' i' hk' n'] at e
    exact h.ad k i k' i' (h1 k hk) (h1 k' hk') n n' e
  · intro k hk
    rw [hA k hk]; exact h.fl k (h1 k hk)
  · intro k hk n
    rw [hN k hk] at n
    rw [hE k hk]
    exact h.fe k (h1 k hk) n
  · intro k i hk n
    rw [hN k hk] at n
    rw [hD k i hk n]
    exact h.fa k i (h1 k hk) n
  · exact h.al
  · exact h.fr
/-- another memory in which all that belongs to the lists stands -/
theorem LSS.mv (h : LSS cy e0 G0 Bx G lv LA EA LN AD FS) (Wx : Nat → Prop) (hWB : ∀ x, Wx x → Bx x) (hWl : ∀ k, lv k → ¬ Wx (LA k)) (hWe : ∀ k, lv k → 1 ≤ LN k → ¬ Wx (EA k)) (hWa : ∀ k i, lv k → i < LN k → ¬ Wx (AD k i)) (hWs : ∀ x, Wx x → ∃ e, G2 x = some e) (hf : ∀ x e, G x = some e → ¬ Wx x → G2 x = some e) : LSS cy e0 G0 Bx G2 lv LA EA LN AD FS := by
  refine ⟨?_, ?_, ?_, ?_, ?_, ?_, ?_, ?_, ?_, ?_⟩
  · intro k hk
    exact (h.ls k hk).fr2 (fun x => ¬ Wx x) hf (hWl k hk) (fun _ n _ => hWe k hk n)
  · intro k i hk hi
    exact hf _ _ (h.el k i hk hi) (hWa k i hk hi)
  · exact h.la
  · exact h.ea
  · exact h.ad
  · exact h.fl
  · exact h.fe
  · exact h.fa
  · intro x e hx
    by_cases hw : Wx x
    · exact hWs x hw
    · obtain ⟨e', h'⟩ := h.al x e hx
      exact ⟨e', hf x e' h' hw⟩
  · intro x e hx nb
    exact hf x e (h.fr x e hx nb) (fun hw => nb (hWB x hw))
/-- an object more in list k -/
theorem LSS.grow (h : LSS cy e0 G0 Bx G lv LA EA LN AD FS) {k ec2 ca : Nat} {fx : List Value} (hk : lv k) (Wx : Nat → Prop) (hWB : ∀ x, Wx x → Bx x) (hWl : ∀ k, lv k → ¬ Wx (LA k)) (hWe : ∀ k, lv k → 1 ≤ LN k → ¬ Wx (EA k)) (hWa : ∀ k i, lv k → i < LN k → ¬ Wx (AD k i)) (hWs : ∀ x, Wx x → ∃ e, G2 x = some e)
    (hl : LiS cy e0 G2 (LA k) ec2 (LN k + 1) (fup (AD k) (LN k) ca)) (hec : (1 ≤ LN k ∧ ec2 = EA k) ∨ G ec2 = none) (hca : G ca = none) (hc2 : G2 ca = some (.inr (cIL k, fx)))
    (hf : ∀ x e, G x = some e → ¬ Wx x → x ≠ LA k → (1 ≤ LN k → x ≠ EA k) → G2 x = some e) :
    LSS cy e0 G0 Bx G2 lv LA (up1 EA k ec2) (up1 LN k (LN k + 1)) (up1 AD k (fup (AD k) (LN k) ca)) (up1 FS k (up1 (FS k) (LN k) fx)) := by
  refine ⟨?_, ?_, ?_, ?_, ?_, ?_, ?_, ?_, ?_, ?_⟩
  · intro k' hk'
    by_cases e : k' = k
    · rw [e, up1_eq, up1_eq, up1_eq]; exact hl
    · rw [up1_ne e, up1_ne e, up1_ne e]
      refine (h.ls k' hk').fr2 (fun x => ¬ Wx x ∧ x ≠ LA k ∧ (1 ≤ LN k → x ≠ EA k)) (fun x e h0 hp => hf x e h0 hp.1 hp.2.1 hp.2.2) ⟨hWl k' hk', fun z => e (h.la _ _ hk' hk z), fun n z => ?_⟩ (fun v n hv => ⟨hWe k' hk' n, fun z => ?_, fun n2 z => e (h.ea _ _ hk' hk n n2 z)⟩)
      · obtain ⟨fs, h3⟩ := (h.ls k' hk').some
        exact LiS.nea (h.ls k hk) n h3 z
      · obtain ⟨fs, h3⟩ := (h.ls k hk).some
        exact mm_ne_ao hv h3 z
  · intro k' i hk' hi
    by_cases e : k' = k
    · rw [e, up1_eq, up1_eq]
      rw [e, up1_eq] at hi
      by_cases e2 : i = LN k
      · rw [e2, fup_eq, up1_eq]; exact hc2
      · rw [fup_lt (by omega), up1_ne e2]
        have h3 := h.el k i hk (by omega)
        exact hf _ _ h3 (hWa k i hk (by omega)) (Ne.symm ((h.ls k hk).ne h3 (cIL_ne k).1)) (fun n => LiS.nea (h.ls k hk) n h3)
    · rw [up1_ne e] at hi
      rw [up1_ne e, up1_ne e]
      have h3 := h.el k' i hk' hi
      exact hf _ _ h3 (hWa k' i hk' hi) (Ne.symm ((h.ls k hk).ne h3 (cIL_ne k').1)) (fun n => LiS.nea (h.ls k hk) n h3)
  · exact h.la
  · intro k1 k2 h1 h2 n1 n2 e
    have new : ∀ k', lv k' → k' ≠ k → 1 ≤ LN k' → ec2 ≠ EA k' := by
      intro k' hk' ne n z
      rcases hec with ⟨n3, e3⟩ | h3
      · exact ne (h.ea _ _ hk' hk n n3 (by rw [← z, e3]))
      · obtain ⟨v, hv⟩ := (h.ls k' hk').arr n
        rw [← z, h3] at hv
        cases hv
    by_cases e1 : k1 = k <;> by_cases e2 : k2 = k
    · omega
    · rw [e1, up1_eq, up1_ne e2] at e
      rw [up1_ne e2] at n2
      exact absurd e (new k2 h2 e2 n2)
    · rw [e2, up1_eq, up1_ne e1] at e
      rw [up1_ne e1] at n1
      exact absurd e.symm (new k1 h1 e1 n1)
    · rw [up1_ne e1, up1_ne e2] at e
      rw [up1_ne e1] at n1
      rw [up1_ne e2] at n2
      exact h.ea k1 k2 h1 h2 n1 n2 e
  · intro k1 i1 k2 i2 h1 h2 n1 n2 e
    have new : ∀ k' i', lv k' → i' < LN k' → ca ≠ AD k' i' := by
      intro k' i' hk' n z
      have h3 := h.el k' i' hk' n
      rw [← z, hca] at h3
      cases h3
    have key : ∀ k' i', lv k' → i' < up1 LN k (LN k + 1) k' → (k' = k ∧ i' = LN k ∧ up1 AD k (fup (AD k) (LN k) ca) k' i' = ca) ∨ (i' < LN k' ∧ up1 AD k (fup (AD k) (LN k) ca) k' i' = AD k' i') := by
      intro k' i' hk' n
      by_cases e1 : k' = k
      · rw [e1, up1_eq] at n
        by_cases e2 : i' = LN k
        · exact Or.inl ⟨e1, e2, by rw [e1, up1_eq, e2, fup_eq]⟩
        · exact Or.inr ⟨by rw [e1]; omega, by rw [e1, up1_eq, fup_lt (by omega)]⟩
      · rw [up1_ne e1] at n
        exact Or.inr ⟨n, by rw [up1_ne e1]⟩
    rcases key k1 i1 h1 n1 with ⟨a1, a2, a3⟩ | ⟨a2, a3⟩ <;> rcases key k2 i2 h2 n2 with ⟨b1, b2, b3⟩ | ⟨b2, b3⟩
    · omega
    · rw [a3, b3] at e
      exact absurd e (new _ _ h2 b2)
    · rw [a3, b3] at e
      exact absurd e.symm (new _ _ h1 a2)
    · rw [a3, b3] at e
      exact h.ad _ _ _ _ h1 h2 a2 b2 e
  · exact h.fl
  · intro k' hk' n
    by_cases e : k' = k
    · rw [e, up1_eq]
      rcases hec with ⟨n3, e3⟩ | h3
      · rw [e3]; exact h.fe k hk n3
      · exact h.nw h3
    · rw [up1_ne e] at n
      rw [up1_ne e]
      exact h.fe k' hk' n
  · intro k' i hk' hi
    by_cases e : k' = k
    · rw [e, up1_eq]
      rw [e, up1_eq] at hi
      by_cases e2 : i = LN k
      · rw [e2, fup_eq]; exact h.nw hca
      · rw [fup_lt (by omega)]; exact h.fa k i hk (by omega)
    · rw [up1_ne e] at hi
      rw [up1_ne e]
      exact h.fa k' i hk' hi
  · intro x e hx
    by_cases hw : Wx x
    · exact hWs x hw
    · obtain ⟨e', h'⟩ := h.al x e hx
      by_cases e1 : x = LA k
      · obtain ⟨fs, h3⟩ := hl.some
        exact ⟨_, by rw [e1]; exact h3⟩
      · refine ⟨e', hf x e' h' hw e1 (fun n z => ?_)⟩
        rw [z, h.fe k hk n] at hx
        cases hx
  · intro x e hx nb
    refine hf x e (h.fr x e hx nb) (fun hw => nb (hWB x hw)) (fun z => ?_) (fun n z => ?_)
    · rcases h.fl k hk with h3 | h3
      · rw [z, h3] at hx; cases hx
      · exact nb (by rw [z]; exact h3)
    · rw [z, h.fe k hk n] at hx
      cases hx
/-- a list more -/
theorem LSS.addl (h : LSS cy e0 G0 Bx G lv LA EA LN AD FS) {k rl ra n : Nat} {f : Nat → Nat} {g : Nat → List Value} (hk : ¬ lv k) (hl : LiS cy e0 G rl ra n f) (hel : ∀ i, i < n → G (f i) = some (.inr (cIL k, g i))) (hrl : G0 rl = none) (hra : 1 ≤ n → G0 ra = none) (hnw : NW G0 n f)
    (hr : ∀ k', lv k' → LA k' ≠ rl) (ha : 1 ≤ n → ∀ k', lv k' → 1 ≤ LN k' → EA k' ≠ ra) (hd : ∀ k' i j, lv k' → i < LN k' → j < n → AD k' i ≠ f j) :
    LSS cy e0 G0 Bx G (fun k' => lv k' ∨ k' = k) (up1 LA k rl) (up1 EA k ra) (up1 LN k n) (up1 AD k f) (up1 FS k g) := by
  refine ⟨?_, ?_, ?_, ?_, ?_, ?_, ?_, ?_, ?_, ?_⟩
  · intro k' hk'
    by_cases e : k' = k
    · rw [e, up1_eq, up1_eq, up1_eq, up1_eq]; exact hl
    · rw [up1_ne e, up1_ne e, up1_ne e, up1_ne e]; exact h.ls k' (hk'.resolve_right e)
  · intro k' i hk' hi
    by_cases e : k' = k
    · rw [e, up1_eq] at hi
      rw [e, up1_eq, up1_eq]; exact hel i hi
    · rw [up1_ne e] at hi
      rw [up1_ne e, up1_ne e]; exact h.el k' i (hk'.resolve_right e) hi
  · intro k1 k2 h1 h2 e
    by_cases e1 : k1 = k <;> by_cases e2 : k2 = k
    · omega
    · rw [e1, up1_eq, up1_ne e2] at e
      exact absurd e.symm (hr k2 (h2.resolve_right e2))
    · rw [e2, up1_eq, up1_ne e1] at e
      exact absurd e (hr k1 (h1.resolve_right e1))
    · rw [up1_ne e1, up1_ne e2] at e
      exact h.la k1 k2 (h1.resolve_right e1) (h2.resolve_right e2) e
  · intro k1 k2 h1 h2 n1 n2 e
    by_cases e1 : k1 = k <;> by_cases e2 : k2 = k
    · omega
    · rw [e1, up1_eq] at n1
      rw [up1_ne e2] at n2
      rw [e1, up1_eq, up1_ne e2] at e
      exact absurd e.symm (ha n1 k2 (h2.resolve_right e2) n2)
    · rw [e2, up1_eq] at n2
      rw [up1_ne e1] at n1
      rw [e2, up1_eq, up1_ne e1] at e
      exact absurd e (ha n2 k1 (h1.resolve_right e1) n1)
    · rw [up1_ne e1] at n1
      rw [up1_ne e2] at n2
      rw [up1_ne e1, up1_ne e2] at e
      exact h.ea k1 k2 (h1.resolve_right e1) (h2.resolve_right e2) n1 n2 e
  · intro k1 i1 k2 i2 h1 h2 n1 n2 e
    by_cases e1 : k1 = k <;> by_cases e2 : k2 = k
    · rw [e1, up1_eq] at n1
      rw [e2, up1_eq] at n2
      rw [e1, e2, up1_eq] at e
      exact ⟨by omega, hnw.2 i1 i2 n1 n2 e⟩
    · rw [e1, up1_eq] at n1
      rw [up1_ne e2] at n2
      rw [e1, up1_eq, up1_ne e2] at e
      exact absurd e.symm (hd k2 i2 i1 (h2.resolve_right e2) n2 n1)
    · rw [e2, up1_eq] at n2
      rw [up1_ne e1] at n1
      rw [e2, up1_eq, up1_ne e1] at e
      exact absurd e (hd k1 i1 i2 (h1.resolve_right e1) n1 n2)
    · rw [up1_ne e1] at n1
      rw [up1_ne e2] at n2
      rw [up1_ne e1, up1_ne e2] at e
      exact h.ad k1 i1 k2 i2 (h1.resolve_right e1) (h2.resolve_right e2) n1 n2 e
  · intro k' hk'
    by_cases e : k' = k
    · rw [e, up1_eq]; exact Or.inl hrl
    · rw [up1_ne e]; exact h.fl k' (hk'.resolve_right e)
  · intro k' hk' n'
    by_cases e : k' = k
    · rw [e, up1_eq] at n'
      rw [e, up1_eq]; exact hra n'
    · rw [up1_ne e] at n'
      rw [up1_ne e]; exact h.fe k' (hk'.resolve_right e) n'
  · intro k' i hk' hi
    by_cases e : k' = k
    · rw [e, up1_eq] at hi
      rw [e, up1_eq]; exact hnw.1 i hi
    · rw [up1_ne e] at hi
      rw [up1_ne e]; exact h.fa k' i (hk'.resolve_right e) hi
  · exact h.al
  · exact h.fr
end
