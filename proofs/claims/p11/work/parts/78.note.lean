theorem g_mul2 (m : Nat) : 2 * nI m = nI (2 * m) := by
  rw [show 2 * m = m + m by omega, ← nI_add m m, Int32.two_mul]