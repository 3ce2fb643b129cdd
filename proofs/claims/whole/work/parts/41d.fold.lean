-- ===== the last steps of a count =====
theorem fdv (a b w : Nat) (h : a < b) : (a + b * w) / b = w := by
  rw [Nat.add_mul_div_left _ _ (Nat.lt_of_le_of_lt (Nat.zero_le a) h), Nat.div_eq_of_lt h, Nat.zero_add]
theorem fb2 {p0 p1 p2 : Nat} (h0 : p0 ≤ 8) (h1 : p1 ≤ 8) (h2 : p2 ≤ 8) : p0 + p1 + 256 * (p1 + p2) < 65536 := by omega
theorem fb3 {a b c d : Nat} (h0 : a ≤ 32) (h1 : b ≤ 32) (h2 : c ≤ 32) (h3 : d ≤ 32) : a + 256 * b + 65536 * c + 16777216 * d < 4294967296 := by omega
theorem fa4 {p0 p1 p2 v w1 w2 w3 : Nat} (hv : v = p0 + 256 * w1) (h1 : w1 = p1 + 256 * w2) (h2 : w2 = p2 + 256 * w3) : v + w1 = (p0 + p1 + 256 * (p1 + p2)) + 65536 * (w2 + w3) := by omega
theorem fa5 {p0 p1 p2 p3 p4 p5 p6 w2 w3 w4 w5 w6 w7 : Nat} (h2 : w2 = p2 + 256 * w3) (h3 : w3 = p3 + 256 * w4) (h4 : w4 = p4 + 256 * w5) (h5 : w5 = p5 + 256 * w6) (h6 : w6 = p6 + 256 * w7) : p0 + p1 + 256 * (p1 + p2) + 65536 * (w2 + w3) + (w2 + w3) = (p0 + p1 + p2 + p3 + 256 * (p1 + p2 + p3 + p4) + 65536 * (p2 + p3 + p4 + p5) + 16777216 * (p3 + p4 + p5 + p6)) + 4294967296 * (w4 + w5 + w6 + w7) := by omega
