/-! ===== octets ===== -/
theorem nar_255 (bv : Int32) : vp_nar .byte bv.toInt8.toInt32 &&& 255 = bv &&& 255 := by
  show bv.toInt8.toInt32.toInt8.toInt32 &&& 255 = bv &&& 255
  rw [Int8.toInt8_toInt32]
  apply Int32.toBitVec_inj.mp
  show ((bv.toBitVec.signExtend 8).signExtend 32 &&& 255#32) = (bv.toBitVec &&& 255#32)
  apply BitVec.eq_of_getLsbD_eq
  intro i hi
  rw [BitVec.getLsbD_and, BitVec.getLsbD_and]
  by_cases h8 : i < 8
  · rw [BitVec.getLsbD_signExtend, BitVec.getLsbD_signExtend]
    simp [h8, show i < 32 by omega]
  · have h0 : (255#32).getLsbD i = false := by
      have : ∀ j : Fin 32, 8 ≤ j.val → (255#32).getLsbD j.val = false := by decide
      exact this ⟨i, hi⟩ (by simpa using h8)
    rw [h0, Bool.and_false, Bool.and_false]
theorem l_255 (x : Int64) : (x &&& 255).toInt32 = x.toInt32 &&& 255 := by
  apply Int32.toBitVec_inj.mp
  show ((x.toBitVec &&& 255#64).signExtend 32) = (x.toBitVec.signExtend 32 &&& 255#32)
  apply BitVec.eq_of_getLsbD_eq
  intro i hi
  rw [BitVec.getLsbD_and, BitVec.getLsbD_signExtend, BitVec.getLsbD_signExtend, BitVec.getLsbD_and]
  have e : (255#64).getLsbD i = (255#32).getLsbD i := by
    have : ∀ j : Fin 32, (255#64).getLsbD j.val = (255#32).getLsbD j.val := by decide
    exact this ⟨i, hi⟩
  rw [e]
  simp [show i < 64 by omega, hi]
/-- octets that were sent, on both sides -/
def JS (b : Nat × (Nat → Int32)) (sz : Nat) (F : Nat → Int32) : Prop := b.1 = sz ∧ sz ≤ 64 ∧ ∀ i, i < sz → b.2 i &&& 255 = F i &&& 255
theorem JS.send {b : Nat × (Nat → Int32)} {sz : Nat} {F : Nat → Int32} (h : JS b sz F) (h64 : sz < 64) {x : Int64} : JS (b.1 + 1, upd b.2 b.1 (vp_nar .byte (x.toInt32.toInt8.toInt32))) (sz + 1) (upd F sz (x &&& 255).toInt32) := by
  refine ⟨?_, by omega, fun i hi => ?_⟩
  · show b.1 + 1 = sz + 1
    rw [h.1]
  · show upd b.2 b.1 (vp_nar .byte (x.toInt32.toInt8.toInt32)) i &&& 255 = upd F sz (x &&& 255).toInt32 i &&& 255
    rw [h.1]
    by_cases e : i = sz
    · rw [e, pk_us, pk_us, nar_255, l_255, Int32.and_assoc, show (255 : Int32) &&& 255 = 255 by decide]
    · rw [pk_un e, pk_un e]
      exact h.2.2 i (by omega)
