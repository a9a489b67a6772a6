/-- the tags behind a read: what is new is the new edition's -/
def tgN (G : Nat → Option va_E) (tag : Nat → Nat) (m : Nat) : Nat → Nat := fun x => match G x with
  | none => m
  | some _ => tag x
theorem tgN_n {G : Nat → Option va_E} {tag : Nat → Nat} {m x : Nat} (h : G x = none) : tgN G tag m x = m := by unfold tgN; rw [h]
theorem tgN_s {G : Nat → Option va_E} {tag : Nat → Nat} {m x : Nat} {e : va_E} (h : G x = some e) : tgN G tag m x = tag x := by unfold tgN; rw [h]
theorem kup_eq {α : Type} {f : Nat → α} {m : Nat} {x : α} : kup f m x m = x := if_pos rfl
theorem kup_ne {α : Type} {f : Nat → α} {m j : Nat} {x : α} (h : j ≠ m) : kup f m x j = f j := if_neg h
theorem kn4 {N : Nat} : (if (if N < 4 then N else 4) < 4 then (if N < 4 then N else 4) + 1 else (if N < 4 then N else 4)) = (if N + 1 < 4 then N + 1 else 4) := by
  by_cases h : N < 4
  · rw [if_pos h, if_pos h]
    by_cases h3 : N + 1 < 4
    · rw [if_pos h3]
    · rw [if_neg h3]; omega
  · rw [if_neg h, if_neg (by decide), if_neg (by omega)]