/-! ===== the claims are what is asked of the edition ===== -/
def CLn (S : Nat → Int32) (N : Nat → Nat → Nat → Int32 → Prop) (lo hi : Nat) (cl : List CLi) : Prop :=
  (∀ x, x ∈ cl → N x.1 x.2.2.1 x.2.2.2 (S x.2.1)) ∧ (∀ k a b p, N k a b p → ∃ t, (k, t, a, b) ∈ cl ∧ p = S t) ∧ (∀ x, x ∈ cl → lo ≤ x.2.1 ∧ x.2.1 < hi) ∧ cl.Pairwise (fun x y => x.2.1 < y.2.1)
section

variable {S : Nat → Int32} {N N1 N2 : Nat → Nat → Nat → Int32 → Prop} {lo mi hi lo2 hi2 : Nat} {cl c1 c2 : List CLi}
theorem CLn.nil (h : ∀ k a b p, ¬ N k a b p) : CLn S N lo hi [] := ⟨fun x hx => absurd hx List.not_mem_nil, fun k a b p z => absurd z (h k a b p), fun x hx => absurd hx List.not_mem_nil, List.Pairwise.nil⟩
theorem CLn.one {k0 t0 a0 b0 : Nat} : CLn S (fun k a b p => k = k0 ∧ a = a0 ∧ b = b0 ∧ p = S t0) t0 (t0 + 1) [(k0, t0, a0, b0)] := by
  refine ⟨fun x hx => ?_, fun k a b p z => ?_, fun x hx => ?_, List.pairwise_singleton _ _⟩
  · rw [List.mem_singleton.mp hx]
    exact ⟨rfl, rfl, rfl, rfl⟩
  · exact ⟨t0, by rw [z.1, z.2.1, z.2.2.1]; exact List.mem_singleton.mpr rfl, z.2.2.2⟩
  · rw [List.mem_singleton.mp hx]
    exact ⟨Nat.le_refl _, Nat.lt_succ_self _⟩
theorem CLn.app (h1 : CLn S N1 lo mi c1) (h2 : CLn S N2 mi hi c2) (hu : lo ≤ mi) (hh : mi ≤ hi) : CLn S (fun k a b p => N1 k a b p ∨ N2 k a b p) lo hi (c1 ++ c2) := by
  refine ⟨fun x hx => ?_, fun k a b p z => ?_, fun x hx => ?_, ?_⟩
  · rcases List.mem_append.mp hx with z | z
    · exact Or.inl (h1.1 x z)
    · exact Or.inr (h2.1 x z)
  · rcases z with z | z
    · obtain ⟨t, a1, a2⟩ := h1.2.1 k a b p z
      exact ⟨t, List.mem_append.mpr (Or.inl a1), a2⟩
    · obtain ⟨t, a1, a2⟩ := h2.2.1 k a b p z
      exact ⟨t, List.mem_append.mpr (Or.inr a1), a2⟩
  · rcases List.mem_append.mp hx with z | z
    · have y := h1.2.2.1 x z
      exact ⟨y.1, by omega⟩
    · have y := h2.2.2.1 x z
      exact ⟨by omega, y.2⟩
  · exact List.pairwise_append.mpr ⟨h1.2.2.2, h2.2.2.2, fun x hx y hy => by have a := h1.2.2.1 x hx; have b := h2.2.2.1 y hy; omega⟩
theorem CLn.cg (h : CLn S N lo hi cl) (e : ∀ k a b p, N k a b p ↔ N2 k a b p) : CLn S N2 lo hi cl := ⟨fun x hx => (e _ _ _ _).mp (h.1 x hx), fun k a b p z => h.2.1 k a b p ((e k a b p).mpr z), h.2.2⟩
theorem CLn.mo (h : CLn S N lo hi cl) (h1 : lo2 ≤ lo) (h2 : hi ≤ hi2) : CLn S N lo2 hi2 cl := ⟨h.1, h.2.1, fun x hx => by have y := h.2.2.1 x hx; exact ⟨by omega, by omega⟩, h.2.2.2⟩
theorem CLn.cons {k0 t0 a0 b0 : Nat} (h : CLn S N mi hi cl) (h1 : t0 + 1 ≤ mi) (h2 : mi ≤ hi) : CLn S (fun k a b p => (k = k0 ∧ a = a0 ∧ b = b0 ∧ p = S t0) ∨ N k a b p) t0 hi ((k0, t0, a0, b0) :: cl) :=
  (CLn.one.mo (Nat.le_refl _) h1).app h (by omega) h2
end
/-! what an addition asks -/
theorem or_up {n a : Nat} {P P' : Nat → Prop} {Q : Prop} (h1 : ∀ i, i ≠ n → (P' i ↔ P i)) (h2 : P' n ↔ Q) : (a < n + 1 ∧ P' a) ↔ (a < n ∧ P a) ∨ (a = n ∧ Q) := by
  by_cases e : a = n
  · rw [e]
    exact ⟨fun z => Or.inr ⟨rfl, h2.mp z.2⟩, fun z => z.elim (fun y => absurd y.1 (Nat.lt_irrefl n)) (fun y => ⟨Nat.lt_succ_self n, h2.mpr y.2⟩)⟩
  · exact ⟨fun z => Or.inl ⟨by omega, (h1 a e).mp z.2⟩, fun z => z.elim (fun y => ⟨by omega, (h1 a e).mpr y.2⟩) (fun y => absurd y.1 e)⟩
theorem ex_up {n : Nat} {P P' : Nat → Prop} {Q : Prop} (h1 : ∀ i, i ≠ n → (P' i ↔ P i)) (h2 : P' n ↔ Q) : (∃ s, s < n + 1 ∧ P' s) ↔ (∃ s, s < n ∧ P s) ∨ Q := by
  constructor
  · rintro ⟨s, a, z⟩
    by_cases e : s = n
    · rw [e] at z
      exact Or.inr (h2.mp z)
    · exact Or.inl ⟨s, by omega, (h1 s e).mp z⟩
  · rintro (⟨s, a, z⟩ | z)
    · exact ⟨s, by omega, (h1 s (by omega)).mpr z⟩
    · exact ⟨n, Nat.lt_succ_self n, h2.mpr z⟩
def NC (c : Nat) (x : ((Int32 × Int64 × Int32) × (Int32 × Int32 × Int64 × Int64 × Int64) × (Nat × (Nat → RwD)))) (k a b : Nat) (p : Int32) : Prop := (k = 1 ∧ a = c ∧ b = 0 ∧ p = x.1.1) ∨ (k = 6 ∧ a = c ∧ (0 ≤ b ∧ b < x.2.2.1) ∧ p = (x.2.2.2 b).2.1)
def NL (c : Nat) (x : Int32 × Int64 × Int64 × Int32) (k a b : Nat) (p : Int32) : Prop := (k = 2 ∧ a = c ∧ b = 0 ∧ p = x.1) ∨ (k = 9 ∧ a = c ∧ b = 0 ∧ x.2.2.1 ≠ 0 ∧ p = x.2.2.2)
def NP1 (c j : Nat) (x : PrD) (k a b : Nat) (p : Int32) : Prop := (k = 5 ∧ a = c ∧ b = j ∧ p = x.1) ∨ (k = 10 ∧ a = 8 * c + j ∧ b = 0 ∧ p = x.2.2.2.1) ∨ (k = 11 ∧ a = c ∧ b = 8 * c + j ∧ x.2.2.2.2.1 ≠ 0 ∧ p = x.2.2.2.2.2.2.1)
def NS (c : Nat) (x : (Int32 × Int64 × Int32) × (Nat × (Nat → PrD))) (k a b : Nat) (p : Int32) : Prop := (k = 4 ∧ a = c ∧ b = 0 ∧ p = x.1.1) ∨ ∃ i, (0 ≤ i ∧ i < x.2.1) ∧ NP1 c i (x.2.2 i) k a b p
def NE (c : Nat) (x : RwD) (k a b : Nat) (p : Int32) : Prop := k = 7 ∧ a = c ∧ b = 0 ∧ p = x.2.1
def NV (c : Nat) (x : RwD) (k a b : Nat) (p : Int32) : Prop := (k = 12 ∧ a = c ∧ b = 0 ∧ p = x.2.2.2) ∨ (k = 8 ∧ a = c ∧ b = 0 ∧ p = x.2.1)
def NO (c i : Nat) (d : OpD) (k a b : Nat) (p : Int32) : Prop := (k = 13 ∧ a = 100 * c + i ∧ b = 0 ∧ d.1 = 26 ∧ p = d.2.2.2.1) ∨ (k = 14 ∧ a = 100 * c + i ∧ b = 0 ∧ d.1 = 26 ∧ p = d.2.2.2.2.2.1)
def NJ (c : Nat) (x : (Int32 × Int64) × (Nat × (Nat → OpD))) (k a b : Nat) (p : Int32) : Prop := (k = 3 ∧ a = c ∧ b = 0 ∧ p = x.1.1) ∨ ∃ i, (0 ≤ i ∧ i < x.2.1) ∧ NO c i (x.2.2 i) k a b p

theorem PKo_C {v : EdV} {x : ((Int32 × Int64 × Int32) × (Int32 × Int32 × Int64 × Int64 × Int64) × (Nat × (Nat → RwD)))} {k a b : Nat} {p : Int32} (h1 : k ≠ 1) (h6 : k ≠ 6) : PK (v.addC x) k a b p = PK v k a b p := by
  match k, h1, h6 with
  | 0, _, _ => rfl
  | 1, z, _ => exact absurd rfl z
  | 2, _, _ => rfl
  | 3, _, _ => rfl
  | 4, _, _ => rfl
  | 5, _, _ => rfl
  | 6, _, z => exact absurd rfl z
  | 7, _, _ => rfl
  | 8, _, _ => rfl
  | 9, _, _ => rfl
  | 10, _, _ => rfl
  | 11, _, _ => rfl
  | 12, _, _ => rfl
  | 13, _, _ => rfl
  | 14, _, _ => rfl
  | _ + 15, _, _ => rfl
theorem PKo_L {v : EdV} {x : Int32 × Int64 × Int64 × Int32} {k a b : Nat} {p : Int32} (h2 : k ≠ 2) (h9 : k ≠ 9) : PK (v.addL x) k a b p = PK v k a b p := by
  match k, h2, h9 with
  | 0, _, _ => rfl
  | 1, _, _ => rfl
  | 2, z, _ => exact absurd rfl z
  | 3, _, _ => rfl
  | 4, _, _ => rfl
  | 5, _, _ => rfl
  | 6, _, _ => rfl
  | 7, _, _ => rfl
  | 8, _, _ => rfl
  | 9, _, z => exact absurd rfl z
  | 10, _, _ => rfl
  | 11, _, _ => rfl
  | 12, _, _ => rfl
  | 13, _, _ => rfl
  | 14, _, _ => rfl
  | _ + 15, _, _ => rfl
theorem PKo_S {v : EdV} {la : Nat} {x : (Int32 × Int64 × Int32) × (Nat × (Nat → PrD))} {k a b : Nat} {p : Int32} (h4 : k ≠ 4) (h5 : k ≠ 5) (h10 : k ≠ 10) (h11 : k ≠ 11) : PK (v.addS la x) k a b p = PK v k a b p := by
  match k, h4, h5, h10, h11 with
  | 0, _, _, _, _ => rfl
  | 1, _, _, _, _ => rfl
  | 2, _, _, _, _ => rfl
  | 3, _, _, _, _ => rfl
  | 4, z, _, _, _ => exact absurd rfl z
  | 5, _, z, _, _ => exact absurd rfl z
  | 6, _, _, _, _ => rfl
  | 7, _, _, _, _ => rfl
  | 8, _, _, _, _ => rfl
  | 9, _, _, _, _ => rfl
  | 10, _, _, z, _ => exact absurd rfl z
  | 11, _, _, _, z => exact absurd rfl z
  | 12, _, _, _, _ => rfl
  | 13, _, _, _, _ => rfl
  | 14, _, _, _, _ => rfl
  | _ + 15, _, _, _, _ => rfl
theorem PKo_E {v : EdV} {x : RwD} {k a b : Nat} {p : Int32} (h7 : k ≠ 7) : PK (v.addE x) k a b p = PK v k a b p := by
  match k, h7 with
  | 0, _ => rfl
  | 1, _ => rfl
  | 2, _ => rfl
  | 3, _ => rfl
  | 4, _ => rfl
  | 5, _ => rfl
  | 6, _ => rfl
  | 7, z => exact absurd rfl z
  | 8, _ => rfl
  | 9, _ => rfl
  | 10, _ => rfl
  | 11, _ => rfl
  | 12, _ => rfl
  | 13, _ => rfl
  | 14, _ => rfl
  | _ + 15, _ => rfl
theorem PKo_V {v : EdV} {x : RwD} {k a b : Nat} {p : Int32} (h8 : k ≠ 8) (h12 : k ≠ 12) : PK (v.addV x) k a b p = PK v k a b p := by
  match k, h8, h12 with
  | 0, _, _ => rfl
  | 1, _, _ => rfl
  | 2, _, _ => rfl
  | 3, _, _ => rfl
  | 4, _, _ => rfl
  | 5, _, _ => rfl
  | 6, _, _ => rfl
  | 7, _, _ => rfl
  | 8, z, _ => exact absurd rfl z
  | 9, _, _ => rfl
  | 10, _, _ => rfl
  | 11, _, _ => rfl
  | 12, _, z => exact absurd rfl z
  | 13, _, _ => rfl
  | 14, _, _ => rfl
  | _ + 15, _, _ => rfl
theorem PKo_J {v : EdV} {x : (Int32 × Int64) × (Nat × (Nat → OpD))} {k a b : Nat} {p : Int32} (h3 : k ≠ 3) (h13 : k ≠ 13) (h14 : k ≠ 14) : PK (v.addJ x) k a b p = PK v k a b p := by
  match k, h3, h13, h14 with
  | 0, _, _, _ => rfl
  | 1, _, _, _ => rfl
  | 2, _, _, _ => rfl
  | 3, z, _, _ => exact absurd rfl z
  | 4, _, _, _ => rfl
  | 5, _, _, _ => rfl
  | 6, _, _, _ => rfl
  | 7, _, _, _ => rfl
  | 8, _, _, _ => rfl
  | 9, _, _, _ => rfl
  | 10, _, _, _ => rfl
  | 11, _, _, _ => rfl
  | 12, _, _, _ => rfl
  | 13, _, z, _ => exact absurd rfl z
  | 14, _, _, z => exact absurd rfl z
  | _ + 15, _, _, _ => rfl
theorem PK_C {v : EdV} {x : ((Int32 × Int64 × Int32) × (Int32 × Int32 × Int64 × Int64 × Int64) × (Nat × (Nat → RwD)))} {k a b : Nat} {p : Int32} : PK (v.addC x) k a b p ↔ PK v k a b p ∨ NC v.nC x k a b p := by
  by_cases h1 : k = 1
  · subst h1
    exact (or_up (P' := fun i => b = 0 ∧ p = (up1 v.C v.nC (x.1, x.2.1) i).1.1) (P := fun i => b = 0 ∧ p = (v.C i).1.1) (Q := b = 0 ∧ p = x.1.1) (fun i hi => by simp only [up1_ne hi]) (by simp only [up1_eq])).trans (or_congr Iff.rfl ⟨fun z => Or.inl ⟨rfl, z⟩, fun z => z.elim (fun y => y.2) (fun y => absurd y.1 (by decide))⟩)
  · skip
    by_cases h6 : k = 6
    · subst h6
      exact (or_up (P' := fun i => b < up1 v.nR v.nC x.2.2.1 i ∧ p = (up1 v.R v.nC x.2.2.2 i b).2.1) (P := fun i => b < v.nR i ∧ p = (v.R i b).2.1) (Q := b < x.2.2.1 ∧ p = (x.2.2.2 b).2.1) (fun i hi => by simp only [up1_ne hi]) (by simp only [up1_eq])).trans (or_congr Iff.rfl ⟨fun z => Or.inr ⟨rfl, z.1, ⟨Nat.zero_le b, z.2.1⟩, z.2.2⟩, fun z => z.elim (fun y => absurd y.1 (by decide)) (fun y => ⟨y.2.1, y.2.2.1.2, y.2.2.2⟩)⟩)
    · skip
      rw [PKo_C h1 h6]
      refine ⟨fun z => Or.inl z, fun z => z.elim (fun y => y) (fun y => ?_)⟩
      exfalso
      exact y.elim (fun u => h1 u.1) (fun u => h6 u.1)
theorem PK_L {v : EdV} {x : Int32 × Int64 × Int64 × Int32} {k a b : Nat} {p : Int32} : PK (v.addL x) k a b p ↔ PK v k a b p ∨ NL v.nL x k a b p := by
  by_cases h2 : k = 2
  · subst h2
    exact (or_up (P' := fun i => b = 0 ∧ p = (up1 v.L v.nL x i).1) (P := fun i => b = 0 ∧ p = (v.L i).1) (Q := b = 0 ∧ p = x.1) (fun i hi => by simp only [up1_ne hi]) (by simp only [up1_eq])).trans (or_congr Iff.rfl ⟨fun z => Or.inl ⟨rfl, z⟩, fun z => z.elim (fun y => y.2) (fun y => absurd y.1 (by decide))⟩)
  · skip
    by_cases h9 : k = 9
    · subst h9
      exact (or_up (P' := fun i => b = 0 ∧ (up1 v.L v.nL x i).2.2.1 ≠ 0 ∧ p = (up1 v.L v.nL x i).2.2.2) (P := fun i => b = 0 ∧ (v.L i).2.2.1 ≠ 0 ∧ p = (v.L i).2.2.2) (Q := b = 0 ∧ x.2.2.1 ≠ 0 ∧ p = x.2.2.2) (fun i hi => by simp only [up1_ne hi]) (by simp only [up1_eq])).trans (or_congr Iff.rfl ⟨fun z => Or.inr ⟨rfl, z⟩, fun z => z.elim (fun y => absurd y.1 (by decide)) (fun y => y.2)⟩)
    · skip
      rw [PKo_L h2 h9]
      refine ⟨fun z => Or.inl z, fun z => z.elim (fun y => y) (fun y => ?_)⟩
      exfalso
      exact y.elim (fun u => h2 u.1) (fun u => h9 u.1)
theorem PK_S {v : EdV} {la : Nat} {x : (Int32 × Int64 × Int32) × (Nat × (Nat → PrD))} {k a b : Nat} {p : Int32} : PK (v.addS la x) k a b p ↔ PK v k a b p ∨ NS v.nS x k a b p := by
  by_cases h4 : k = 4
  · subst h4
    exact (or_up (P' := fun i => b = 0 ∧ p = (up1 v.S v.nS (la, x.1) i).2.1) (P := fun i => b = 0 ∧ p = (v.S i).2.1) (Q := b = 0 ∧ p = x.1.1) (fun i hi => by simp only [up1_ne hi]) (by simp only [up1_eq])).trans (or_congr Iff.rfl ⟨fun z => Or.inl ⟨rfl, z⟩, fun z => z.elim (fun y => y.2) (fun ⟨i, _, y⟩ => by rcases y with y | y | y <;> exact absurd y.1 (by decide))⟩)
  · skip
    by_cases h5 : k = 5
    · subst h5
      exact (or_up (P' := fun i => b < up1 v.nP v.nS x.2.1 i ∧ p = (up1 v.P v.nS x.2.2 i b).1) (P := fun i => b < v.nP i ∧ p = (v.P i b).1) (Q := b < x.2.1 ∧ p = (x.2.2 b).1) (fun i hi => by simp only [up1_ne hi]) (by simp only [up1_eq])).trans (or_congr Iff.rfl ⟨fun z => Or.inr ⟨b, ⟨Nat.zero_le b, z.2.1⟩, Or.inl ⟨rfl, z.1, rfl, z.2.2⟩⟩, fun z => z.elim (fun y => absurd y.1 (by decide)) (fun ⟨i, hi, y⟩ => by rcases y with ⟨_, e1, e2, e3⟩ | y | y; (rw [e2]; exact ⟨e1, hi.2, e3⟩); exact absurd y.1 (by decide); exact absurd y.1 (by decide))⟩)
    · skip
      by_cases h10 : k = 10
      · subst h10
        exact (ex_up (P' := fun i => ∃ t, t < up1 v.nP v.nS x.2.1 i ∧ a = 8 * i + t ∧ b = 0 ∧ p = (up1 v.P v.nS x.2.2 i t).2.2.2.1) (P := fun i => ∃ t, t < v.nP i ∧ a = 8 * i + t ∧ b = 0 ∧ p = (v.P i t).2.2.2.1) (Q := ∃ t, t < x.2.1 ∧ a = 8 * v.nS + t ∧ b = 0 ∧ p = (x.2.2 t).2.2.2.1) (fun i hi => by simp only [up1_ne hi]) (by simp only [up1_eq])).trans (or_congr Iff.rfl ⟨fun ⟨t, a1, a2, a3, a4⟩ => Or.inr ⟨t, ⟨Nat.zero_le t, a1⟩, Or.inr (Or.inl ⟨rfl, a2, a3, a4⟩)⟩, fun z => z.elim (fun y => absurd y.1 (by decide)) (fun ⟨i, hi, y⟩ => by rcases y with y | ⟨_, e1, e2, e3⟩ | y; exact absurd y.1 (by decide); exact ⟨i, hi.2, e1, e2, e3⟩; exact absurd y.1 (by decide))⟩)
      · skip
        by_cases h11 : k = 11
        · subst h11
          exact (or_up (P' := fun i => ∃ t, t < up1 v.nP v.nS x.2.1 i ∧ b = 8 * i + t ∧ (up1 v.P v.nS x.2.2 i t).2.2.2.2.1 ≠ 0 ∧ p = (up1 v.P v.nS x.2.2 i t).2.2.2.2.2.2.1) (P := fun i => ∃ t, t < v.nP i ∧ b = 8 * i + t ∧ (v.P i t).2.2.2.2.1 ≠ 0 ∧ p = (v.P i t).2.2.2.2.2.2.1) (Q := ∃ t, t < x.2.1 ∧ b = 8 * v.nS + t ∧ (x.2.2 t).2.2.2.2.1 ≠ 0 ∧ p = (x.2.2 t).2.2.2.2.2.2.1) (fun i hi => by simp only [up1_ne hi]) (by simp only [up1_eq])).trans (or_congr Iff.rfl ⟨fun ⟨a0, t, a1, a2, a3, a4⟩ => Or.inr ⟨t, ⟨Nat.zero_le t, a1⟩, Or.inr (Or.inr ⟨rfl, a0, a2, a3, a4⟩)⟩, fun z => z.elim (fun y => absurd y.1 (by decide)) (fun ⟨i, hi, y⟩ => by rcases y with y | y | ⟨_, e0, e1, e2, e3⟩; exact absurd y.1 (by decide); exact absurd y.1 (by decide); exact ⟨e0, i, hi.2, e1, e2, e3⟩)⟩)
        · skip
          rw [PKo_S h4 h5 h10 h11]
          refine ⟨fun z => Or.inl z, fun z => z.elim (fun y => y) (fun y => ?_)⟩
          exfalso
          exact y.elim (fun u => h4 u.1) (fun ⟨i, _, u⟩ => by rcases u with u | u | u; exact h5 u.1; exact h10 u.1; exact h11 u.1)
theorem PK_E {v : EdV} {x : RwD} {k a b : Nat} {p : Int32} : PK (v.addE x) k a b p ↔ PK v k a b p ∨ NE v.nE x k a b p := by
  by_cases h7 : k = 7
  · subst h7
    exact (or_up (P' := fun i => b = 0 ∧ p = (up1 v.E v.nE x i).2.1) (P := fun i => b = 0 ∧ p = (v.E i).2.1) (Q := b = 0 ∧ p = x.2.1) (fun i hi => by simp only [up1_ne hi]) (by simp only [up1_eq])).trans (or_congr Iff.rfl ⟨fun z => ⟨rfl, z⟩, fun z => z.2⟩)
  · skip
    rw [PKo_E h7]
    refine ⟨fun z => Or.inl z, fun z => z.elim (fun y => y) (fun y => ?_)⟩
    exfalso
    exact h7 y.1
theorem PK_V {v : EdV} {x : RwD} {k a b : Nat} {p : Int32} : PK (v.addV x) k a b p ↔ PK v k a b p ∨ NV v.nV x k a b p := by
  by_cases h8 : k = 8
  · subst h8
    exact (or_up (P' := fun i => b = 0 ∧ p = (up1 v.V v.nV x i).2.1) (P := fun i => b = 0 ∧ p = (v.V i).2.1) (Q := b = 0 ∧ p = x.2.1) (fun i hi => by simp only [up1_ne hi]) (by simp only [up1_eq])).trans (or_congr Iff.rfl ⟨fun z => Or.inr ⟨rfl, z⟩, fun z => z.elim (fun y => absurd y.1 (by decide)) (fun y => y.2)⟩)
  · skip
    by_cases h12 : k = 12
    · subst h12
      exact (or_up (P' := fun i => b = 0 ∧ p = (up1 v.V v.nV x i).2.2.2) (P := fun i => b = 0 ∧ p = (v.V i).2.2.2) (Q := b = 0 ∧ p = x.2.2.2) (fun i hi => by simp only [up1_ne hi]) (by simp only [up1_eq])).trans (or_congr Iff.rfl ⟨fun z => Or.inl ⟨rfl, z⟩, fun z => z.elim (fun y => y.2) (fun y => absurd y.1 (by decide))⟩)
    · skip
      rw [PKo_V h8 h12]
      refine ⟨fun z => Or.inl z, fun z => z.elim (fun y => y) (fun y => ?_)⟩
      exfalso
      exact y.elim (fun u => h12 u.1) (fun u => h8 u.1)
theorem PK_J {v : EdV} {x : (Int32 × Int64) × (Nat × (Nat → OpD))} {k a b : Nat} {p : Int32} : PK (v.addJ x) k a b p ↔ PK v k a b p ∨ NJ v.nJ x k a b p := by
  by_cases h3 : k = 3
  · subst h3
    exact (or_up (P' := fun i => b = 0 ∧ p = (up1 v.J v.nJ x.1 i).1) (P := fun i => b = 0 ∧ p = (v.J i).1) (Q := b = 0 ∧ p = x.1.1) (fun i hi => by simp only [up1_ne hi]) (by simp only [up1_eq])).trans (or_congr Iff.rfl ⟨fun z => Or.inl ⟨rfl, z⟩, fun z => z.elim (fun y => y.2) (fun ⟨i, _, y⟩ => by rcases y with y | y <;> exact absurd y.1 (by decide))⟩)
  · skip
    by_cases h13 : k = 13
    · subst h13
      exact (ex_up (P' := fun i => ∃ t, t < up1 v.nO v.nJ x.2.1 i ∧ a = 100 * i + t ∧ b = 0 ∧ (up1 v.O v.nJ x.2.2 i t).1 = 26 ∧ p = (up1 v.O v.nJ x.2.2 i t).2.2.2.1) (P := fun i => ∃ t, t < v.nO i ∧ a = 100 * i + t ∧ b = 0 ∧ (v.O i t).1 = 26 ∧ p = (v.O i t).2.2.2.1) (Q := ∃ t, t < x.2.1 ∧ a = 100 * v.nJ + t ∧ b = 0 ∧ (x.2.2 t).1 = 26 ∧ p = (x.2.2 t).2.2.2.1) (fun i hi => by simp only [up1_ne hi]) (by simp only [up1_eq])).trans (or_congr Iff.rfl ⟨fun ⟨t, a1, a2, a3, a4, a5⟩ => Or.inr ⟨t, ⟨Nat.zero_le t, a1⟩, Or.inl ⟨rfl, a2, a3, a4, a5⟩⟩, fun z => z.elim (fun y => absurd y.1 (by decide)) (fun ⟨i, hi, y⟩ => by rcases y with y | y; (exact ⟨i, hi.2, y.2.1, y.2.2.1, y.2.2.2.1, y.2.2.2.2⟩); exact absurd y.1 (by decide))⟩)
    · skip
      by_cases h14 : k = 14
      · subst h14
        exact (ex_up (P' := fun i => ∃ t, t < up1 v.nO v.nJ x.2.1 i ∧ a = 100 * i + t ∧ b = 0 ∧ (up1 v.O v.nJ x.2.2 i t).1 = 26 ∧ p = (up1 v.O v.nJ x.2.2 i t).2.2.2.2.2.1) (P := fun i => ∃ t, t < v.nO i ∧ a = 100 * i + t ∧ b = 0 ∧ (v.O i t).1 = 26 ∧ p = (v.O i t).2.2.2.2.2.1) (Q := ∃ t, t < x.2.1 ∧ a = 100 * v.nJ + t ∧ b = 0 ∧ (x.2.2 t).1 = 26 ∧ p = (x.2.2 t).2.2.2.2.2.1) (fun i hi => by simp only [up1_ne hi]) (by simp only [up1_eq])).trans (or_congr Iff.rfl ⟨fun ⟨t, a1, a2, a3, a4, a5⟩ => Or.inr ⟨t, ⟨Nat.zero_le t, a1⟩, Or.inr ⟨rfl, a2, a3, a4, a5⟩⟩, fun z => z.elim (fun y => absurd y.1 (by decide)) (fun ⟨i, hi, y⟩ => by rcases y with y | y; exact absurd y.1 (by decide); exact ⟨i, hi.2, y.2.1, y.2.2.1, y.2.2.2.1, y.2.2.2.2⟩)⟩)
      · skip
        rw [PKo_J h3 h13 h14]
        refine ⟨fun z => Or.inl z, fun z => z.elim (fun y => y) (fun y => ?_)⟩
        exfalso
        exact y.elim (fun u => h3 u.1) (fun ⟨i, _, u⟩ => by rcases u with u | u; exact h13 u.1; exact h14 u.1)
