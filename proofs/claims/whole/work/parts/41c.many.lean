-- ===== how many a set has =====
theorem byte_bit (x y i : Nat) (hx : x < 256) : (x + 256 * y).testBit i = if i < 8 then x.testBit i else y.testBit (i - 8) := by
  have := Nat.testBit_two_pow_mul_add (i := 8) y (show x < 2 ^ 8 from hx) i
  rw [show 2 ^ 8 * y + x = x + 256 * y by omega] at this
  exact this
theorem and_split {u v m w : Nat} (hu : u < 256) (hm : m < 256) : (u + 256 * v) &&& (m + 256 * w) = (u &&& m) + 256 * (v &&& w) := by
  have h1 : u &&& m < 256 := Nat.lt_of_le_of_lt Nat.and_le_left hu
  apply Nat.eq_of_testBit_eq
  intro i
  rw [Nat.testBit_and, byte_bit u v i hu, byte_bit m w i hm, byte_bit _ _ i h1]
  by_cases h : i < 8
  · rw [if_pos h, if_pos h, if_pos h, Nat.testBit_and]
  · rw [if_neg h, if_neg h, if_neg h, Nat.testBit_and]
def rp (c : Nat) : Nat → Nat
  | 0 => 0
  | n + 1 => c + 256 * rp c n
def T1 (n x : Nat) : Nat := x - ((x / 2) &&& rp 85 n)
def T2 (n x : Nat) : Nat := (x &&& rp 51 n) + ((x / 4) &&& rp 51 n)
def T3 (n x : Nat) : Nat := (x + x / 16) &&& rp 15 n
def P1 (a : Nat) : Nat := a - ((a / 2) &&& 85)
def P2 (a : Nat) : Nat := (a &&& 51) + ((a / 4) &&& 51)
theorem q1 : ∀ a, a < 256 → ∀ c, c < 2 → (a / 2 + 128 * c) &&& 85 = (a / 2) &&& 85 := by decide +kernel
theorem q2 : ∀ a, a < 256 → ∀ c, c < 4 → (a / 4 + 64 * c) &&& 51 = (a / 4) &&& 51 := by decide +kernel
theorem q3 : ∀ a, a < 256 → P1 a < 256 ∧ P2 (P1 a) ≤ 68 ∧ P2 (P1 a) % 16 ≤ 4 ∧ (P2 (P1 a) + P2 (P1 a) / 16) % 16 = pcn a 8 := by decide +kernel
theorem t1_step {a b n : Nat} (ha : a < 256) : T1 (n + 1) (a + 256 * b) = P1 a + 256 * T1 n b := by
  have h1 : (a / 2) &&& 85 ≤ a / 2 := Nat.and_le_left
  have h2 : (b / 2) &&& rp 85 n ≤ b / 2 := Nat.and_le_left
  unfold T1 P1
  show a + 256 * b - ((a + 256 * b) / 2 &&& (85 + 256 * rp 85 n)) = _
  rw [show (a + 256 * b) / 2 = (a / 2 + 128 * (b % 2)) + 256 * (b / 2) by omega, and_split (by omega) (by decide), q1 a ha (b % 2) (by omega)]
  omega
theorem t2_step {a b n : Nat} (ha : a < 256) : T2 (n + 1) (a + 256 * b) = P2 a + 256 * T2 n b := by
  unfold T2 P2
  show ((a + 256 * b) &&& (51 + 256 * rp 51 n)) + ((a + 256 * b) / 4 &&& (51 + 256 * rp 51 n)) = _
  rw [show (a + 256 * b) / 4 = (a / 4 + 64 * (b % 4)) + 256 * (b / 4) by omega, and_split ha (by decide), and_split (by omega) (by decide), q2 a ha (b % 4) (by omega)]
  omega
theorem and15 (x : Nat) : x &&& 15 = x % 16 := Nat.and_two_pow_sub_one_eq_mod x 4
theorem t3_step {a b n : Nat} (ha : a ≤ 68) (hb : b % 16 ≤ 4) : T3 (n + 1) (a + 256 * b) = (a + a / 16) % 16 + 256 * T3 n b := by
  unfold T3
  show (a + 256 * b + (a + 256 * b) / 16) &&& (15 + 256 * rp 15 n) = _
  rw [show a + 256 * b + (a + 256 * b) / 16 = (a + a / 16 + 16 * (b % 16)) + 256 * (b + b / 16) by omega, and_split (by omega) (by decide), and15]
  omega
theorem t21_16 : ∀ n b, T2 n (T1 n b) % 16 ≤ 4
  | 0, b => by
    show ((T1 0 b &&& 0) + (T1 0 b / 4 &&& 0)) % 16 ≤ 4
    rw [Nat.and_zero, Nat.and_zero]
    decide
  | n + 1, b => by
    have hq := q3 (b % 256) (Nat.mod_lt _ (by decide))
    have e : b = b % 256 + 256 * (b / 256) := by omega
    rw [e, t1_step (Nat.mod_lt _ (by decide)), t2_step hq.1]
    omega
theorem v_dec (n m : Nat) : T3 (n + 1) (T2 (n + 1) (T1 (n + 1) m)) = pcn (m % 256) 8 + 256 * T3 n (T2 n (T1 n (m / 256))) := by
  have hq := q3 (m % 256) (Nat.mod_lt _ (by decide))
  have e : T1 (n + 1) m = P1 (m % 256) + 256 * T1 n (m / 256) := by
    have := t1_step (a := m % 256) (b := m / 256) (n := n) (Nat.mod_lt _ (by decide))
    rw [show m % 256 + 256 * (m / 256) = m by omega] at this
    exact this
  rw [e, t2_step hq.1, t3_step hq.2.1 (t21_16 n _), hq.2.2.2]
theorem pcn_dec (m : Nat) : ∀ i, pcn m (8 + i) = pcn (m % 256) 8 + pcn (m / 256) i
  | 0 => by
    show pcn m 8 = pcn (m % 256) 8 + 0
    unfold pcn
    rw [Nat.add_zero]
    refine List.countP_congr (fun i hi => ?_)
    have hi : i < 8 := List.mem_range.mp hi
    rw [show (256 : Nat) = 2 ^ 8 from rfl, Nat.testBit_mod_two_pow]
    simp [hi]
  | i + 1 => by
    have ih := pcn_dec m i
    have hb : (m / 256).testBit i = m.testBit (8 + i) := by
      rw [show (256 : Nat) = 2 ^ 8 from rfl, Nat.testBit_div_two_pow, Nat.add_comm i 8]
    rw [show 8 + (i + 1) = 8 + i + 1 from rfl, pcn_succ m (8 + i), ih, pcn_succ (m / 256) i, hb]
    exact Nat.add_assoc _ _ _
