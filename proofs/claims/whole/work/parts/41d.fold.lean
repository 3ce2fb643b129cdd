-- ===== the last steps of a count =====
theorem fdv (a b w : Nat) (h : a < b) : (a + b * w) / b = w := by
  rw [Nat.add_mul_div_left _ _ (Nat.lt_of_le_of_lt (Nat.zero_le a) h), Nat.div_eq_of_lt h, Nat.zero_add]
theorem fb2 {p0 p1 p2 : Nat} (h0 : p0 ≤ 8) (h1 : p1 ≤ 8) (h2 : p2 ≤ 8) : p0 + p1 + 256 * (p1 + p2) < 65536 := by omega
theorem fb3 {a b c d : Nat} (h0 : a ≤ 32) (h1 : b ≤ 32) (h2 : c ≤ 32) (h3 : d ≤ 32) : a + 256 * b + 65536 * c + 16777216 * d < 4294967296 := by omega
theorem fa4 {p0 p1 p2 v w1 w2 w3 : Nat} (hv : v = p0 + 256 * w1) (h1 : w1 = p1 + 256 * w2) (h2 : w2 = p2 + 256 * w3) : v + w1 = (p0 + p1 + 256 * (p1 + p2)) + 65536 * (w2 + w3) := by omega
theorem fa5 {p0 p1 p2 p3 p4 p5 p6 w2 w3 w4 w5 w6 w7 : Nat} (h2 : w2 = p2 + 256 * w3) (h3 : w3 = p3 + 256 * w4) (h4 : w4 = p4 + 256 * w5) (h5 : w5 = p5 + 256 * w6) (h6 : w6 = p6 + 256 * w7) : p0 + p1 + 256 * (p1 + p2) + 65536 * (w2 + w3) + (w2 + w3) = (p0 + p1 + p2 + p3 + 256 * (p1 + p2 + p3 + p4) + 65536 * (p2 + p3 + p4 + p5) + 16777216 * (p3 + p4 + p5 + p6)) + 4294967296 * (w4 + w5 + w6 + w7) := by omega
theorem fa6 {s0 p4 p5 p6 p7 w4 w5 w6 a b c : Nat} (hs : s0 ≤ 32) (g4 : p4 ≤ 8) (g5 : p5 ≤ 8) (g6 : p6 ≤ 8) (g7 : p7 ≤ 8) (h4 : w4 = p4 + 256 * w5) (h5 : w5 = p5 + 256 * w6) (h6 : w6 = p6 + 256 * p7) : ((s0 + 256 * a + 65536 * b + 16777216 * c) + 4294967296 * (w4 + w5 + w6 + p7) + (w4 + w5 + w6 + p7)) % 128 = s0 + (p4 + p5 + p6 + p7) := by
  have e : (s0 + 256 * a + 65536 * b + 16777216 * c) + 4294967296 * (w4 + w5 + w6 + p7) + (w4 + w5 + w6 + p7) = (s0 + (p4 + p5 + p6 + p7)) + 128 * (2 * a + 512 * b + 131072 * c + 33554432 * (w4 + w5 + w6 + p7) + 2 * (w5 + w6 + p7)) := by omega
  rw [e, Nat.add_mul_mod_self_left]
  exact Nat.mod_eq_of_lt (by omega)
theorem le4 {a b c d : Nat} (h0 : a ≤ 8) (h1 : b ≤ 8) (h2 : c ≤ 8) (h3 : d ≤ 8) : a + b + c + d ≤ 32 := by omega
theorem fold8 {p0 p1 p2 p3 p4 p5 p6 p7 v v4 v5 v6 : Nat} (h0 : p0 ≤ 8) (h1 : p1 ≤ 8) (h2 : p2 ≤ 8) (h3 : p3 ≤ 8) (h4 : p4 ≤ 8) (h5 : p5 ≤ 8) (h6 : p6 ≤ 8) (h7 : p7 ≤ 8)
    (hv : v = p0 + 256 * (p1 + 256 * (p2 + 256 * (p3 + 256 * (p4 + 256 * (p5 + 256 * (p6 + 256 * p7))))))) (e4 : v4 = v + v / 256) (e5 : v5 = v4 + v4 / 65536) (e6 : v6 = v5 + v5 / 4294967296) : v6 % 128 = p0 + p1 + p2 + p3 + (p4 + p5 + p6 + p7) := by
  obtain ⟨w6, hw6⟩ : ∃ w, w = p6 + 256 * p7 := ⟨_, rfl⟩
  rw [← hw6] at hv
  obtain ⟨w5, hw5⟩ : ∃ w, w = p5 + 256 * w6 := ⟨_, rfl⟩
  rw [← hw5] at hv
  obtain ⟨w4, hw4⟩ : ∃ w, w = p4 + 256 * w5 := ⟨_, rfl⟩
  rw [← hw4] at hv
  obtain ⟨w3, hw3⟩ : ∃ w, w = p3 + 256 * w4 := ⟨_, rfl⟩
  rw [← hw3] at hv
  obtain ⟨w2, hw2⟩ : ∃ w, w = p2 + 256 * w3 := ⟨_, rfl⟩
  rw [← hw2] at hv
  obtain ⟨w1, hw1⟩ : ∃ w, w = p1 + 256 * w2 := ⟨_, rfl⟩
  rw [← hw1] at hv
  have d1 : v / 256 = w1 := by rw [hv]; exact fdv p0 256 w1 (Nat.lt_of_le_of_lt h0 (by decide))
  rw [d1, fa4 hv hw1 hw2] at e4
  have d2 : v4 / 65536 = w2 + w3 := by rw [e4]; exact fdv _ _ _ (fb2 h0 h1 h2)
  rw [d2, e4, fa5 hw2 hw3 hw4 hw5 hw6] at e5
  have d3 : v5 / 4294967296 = w4 + w5 + w6 + p7 := by rw [e5]; exact fdv _ _ _ (fb3 (le4 h0 h1 h2 h3) (le4 h1 h2 h3 h4) (le4 h2 h3 h4 h5) (le4 h3 h4 h5 h6))
  rw [d3, e5] at e6
  rw [e6]
  exact fa6 (le4 h0 h1 h2 h3) h4 h5 h6 h7 hw4 hw5 hw6
