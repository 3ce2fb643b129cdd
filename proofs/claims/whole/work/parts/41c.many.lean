-- ===== how many a set has =====
theorem byte_bit (x y i : Nat) (hx : x < 256) : (x + 256 * y).testBit i = if i < 8 then x.testBit i else y.testBit (i - 8) := by
  have := Nat.testBit_two_pow_mul_add (i := 8) y (show x < 2 ^ 8 from hx) i
  rw [show 2 ^ 8 * y + x = x + 256 * y by omega] at this
  exact this
theorem and_split {u v m w : Nat} (hu : u < 256) (hm : m < 256) : (u + 256 * v) &&& (m + 256 * w) = (u &&& m) + 256 * (v &&& w) := by
  have h1 : u &&& m < 256 := Nat.lt_of_le_of_lt Nat.and_le_left hu
  apply Nat.eq_of_testBit_eq
  intro i
  rw [Nat.testBit_and, byte_bit u v i hu, byte_bit m w i hm, byte_bit _ _ i h1]
  by_cases h : i < 8
  · rw [if_pos h, if_pos h, if_pos h, Nat.testBit_and]
  · rw [if_neg h, if_neg h, if_neg h, Nat.testBit_and]
def rp (c : Nat) : Nat → Nat
  | 0 => 0
  | n + 1 => c + 256 * rp c n
def T1 (n x : Nat) : Nat := x - ((x / 2) &&& rp 85 n)
def T2 (n x : Nat) : Nat := (x &&& rp 51 n) + ((x / 4) &&& rp 51 n)
def T3 (n x : Nat) : Nat := (x + x / 16) &&& rp 15 n
def P1 (a : Nat) : Nat := a - ((a / 2) &&& 85)
def P2 (a : Nat) : Nat := (a &&& 51) + ((a / 4) &&& 51)
theorem q1 : ∀ a, a < 256 → ∀ c, c < 2 → (a / 2 + 128 * c) &&& 85 = (a / 2) &&& 85 := by decide +kernel
theorem q2 : ∀ a, a < 256 → ∀ c, c < 4 → (a / 4 + 64 * c) &&& 51 = (a / 4) &&& 51 := by decide +kernel
theorem q3 : ∀ a, a < 256 → P1 a < 256 ∧ P2 (P1 a) ≤ 68 ∧ P2 (P1 a) % 16 ≤ 4 ∧ (P2 (P1 a) + P2 (P1 a) / 16) % 16 = pcn a 8 := by decide +kernel
theorem t1_step {a b n : Nat} (ha : a < 256) : T1 (n + 1) (a + 256 * b) = P1 a + 256 * T1 n b := by
  have h1 : (a / 2) &&& 85 ≤ a / 2 := Nat.and_le_left
  have h2 : (b / 2) &&& rp 85 n ≤ b / 2 := Nat.and_le_left
  unfold T1 P1
  show a + 256 * b - ((a + 256 * b) / 2 &&& (85 + 256 * rp 85 n)) = _
  rw [show (a + 256 * b) / 2 = (a / 2 + 128 * (b % 2)) + 256 * (b / 2) by omega, and_split (by omega) (by decide), q1 a ha (b % 2) (by omega)]
  omega
theorem t2_step {a b n : Nat} (ha : a < 256) : T2 (n + 1) (a + 256 * b) = P2 a + 256 * T2 n b := by
  unfold T2 P2
  show ((a + 256 * b) &&& (51 + 256 * rp 51 n)) + ((a + 256 * b) / 4 &&& (51 + 256 * rp 51 n)) = _
  rw [show (a + 256 * b) / 4 = (a / 4 + 64 * (b % 4)) + 256 * (b / 4) by omega, and_split (by omega) (by decide), and_split ha (by decide), q2 a ha (b % 4) (by omega)]
  omega
theorem and15 (x : Nat) : x &&& 15 = x % 16 := Nat.and_two_pow_sub_one_eq_mod x 4
theorem t3_step {a b n : Nat} (ha : a ≤ 68) (hb : b % 16 ≤ 4) : T3 (n + 1) (a + 256 * b) = (a + a / 16) % 16 + 256 * T3 n b := by
  unfold T3
  show (a + 256 * b + (a + 256 * b) / 16) &&& (15 + 256 * rp 15 n) = _
  rw [show a + 256 * b + (a + 256 * b) / 16 = (a + a / 16 + 16 * (b % 16)) + 256 * (b + b / 16) by omega, and_split (by omega) (by decide), and15]
  omega
theorem t21_16 : ∀ n b, T2 n (T1 n b) % 16 ≤ 4
  | 0, b => by
    show ((T1 0 b &&& 0) + (T1 0 b / 4 &&& 0)) % 16 ≤ 4
    rw [Nat.and_zero, Nat.and_zero]
    decide
  | n + 1, b => by
    have hq := q3 (b % 256) (Nat.mod_lt _ (by decide))
    have e : b = b % 256 + 256 * (b / 256) := by omega
    rw [e, t1_step (Nat.mod_lt _ (by decide)), t2_step hq.1]
    omega
theorem v_dec (n m : Nat) : T3 (n + 1) (T2 (n + 1) (T1 (n + 1) m)) = pcn (m % 256) 8 + 256 * T3 n (T2 n (T1 n (m / 256))) := by
  have hq := q3 (m % 256) (Nat.mod_lt _ (by decide))
  have e : T1 (n + 1) m = P1 (m % 256) + 256 * T1 n (m / 256) := by
    have := t1_step (a := m % 256) (b := m / 256) (n := n) (Nat.mod_lt _ (by decide))
    rw [show m % 256 + 256 * (m / 256) = m by omega] at this
    exact this
  rw [e, t2_step hq.1, t3_step hq.2.1 (t21_16 n _), hq.2.2.2]
theorem pcn_dec (m : Nat) : ∀ i, pcn m (8 + i) = pcn (m % 256) 8 + pcn (m / 256) i
  | 0 => by
    show pcn m 8 = pcn (m % 256) 8 + 0
    unfold pcn
    rw [Nat.add_zero]
    refine List.countP_congr (fun i hi => ?_)
    have hi : i < 8 := List.mem_range.mp hi
    rw [show (256 : Nat) = 2 ^ 8 from rfl, Nat.testBit_mod_two_pow]
    simp [hi]
  | i + 1 => by
    have ih := pcn_dec m i
    rw [show 8 + (i + 1) = 8 + i + 1 from rfl, pcn_succ, ih, pcn_succ, show (256 : Nat) = 2 ^ 8 from rfl, Nat.testBit_div_two_pow, Nat.add_comm i 8]
    omega
theorem fold8 {p0 p1 p2 p3 p4 p5 p6 p7 v v4 v5 v6 : Nat} (h0 : p0 ≤ 8) (h1 : p1 ≤ 8) (h2 : p2 ≤ 8) (h3 : p3 ≤ 8) (h4 : p4 ≤ 8) (h5 : p5 ≤ 8) (h6 : p6 ≤ 8) (h7 : p7 ≤ 8)
    (hv : v = p0 + 256 * (p1 + 256 * (p2 + 256 * (p3 + 256 * (p4 + 256 * (p5 + 256 * (p6 + 256 * p7))))))) (e4 : v4 = v + v / 256) (e5 : v5 = v4 + v4 / 65536) (e6 : v6 = v5 + v5 / 4294967296) : v6 % 128 = p0 + (p1 + (p2 + (p3 + (p4 + (p5 + (p6 + p7)))))) := by
  have d1 : v / 256 = p1 + 256 * (p2 + 256 * (p3 + 256 * (p4 + 256 * (p5 + 256 * (p6 + 256 * p7))))) := by omega
  have a4 : v4 = (p0 + p1) + 256 * (p1 + p2) + 65536 * ((p2 + p3) + 256 * (p3 + p4) + 65536 * ((p4 + p5) + 256 * (p5 + p6) + 65536 * ((p6 + p7) + 256 * p7))) := by omega
  have d2 : v4 / 65536 = (p2 + p3) + 256 * (p3 + p4) + 65536 * ((p4 + p5) + 256 * (p5 + p6) + 65536 * ((p6 + p7) + 256 * p7)) := by omega
  have a5 : v5 = (p0 + p1 + p2 + p3) + 256 * (p1 + p2 + p3 + p4) + 65536 * ((p2 + p3 + p4 + p5) + 256 * (p3 + p4 + p5 + p6)) + 4294967296 * ((p4 + p5 + p6 + p7) + 256 * (p5 + p6 + p7) + 65536 * ((p6 + p7) + 256 * p7)) := by omega
  have d3 : v5 / 4294967296 = (p4 + p5 + p6 + p7) + 256 * (p5 + p6 + p7) + 65536 * ((p6 + p7) + 256 * p7) := by omega
  omega
theorem pc8_le (a : Nat) : pcn a 8 ≤ 8 := pcn_le a 8
theorem t3_0 (x : Nat) : T3 0 x = 0 := Nat.and_zero _
theorem bc64 (k : Nat) {m : Nat} (hm : m < 2 ^ 60) : M_J13_bitCount_95d88 k (lI m) = some (nI (pcn m 64)) := by
  have r51 : rp 51 8 = 3689348814741910323 := by decide
  have r15 : rp 15 8 = 1085102592571150095 := by decide
  have s1 : ∀ x, x < 2 ^ 63 → ((lI x).toUInt64 >>> ((1 : Int32).toInt64.toUInt64 &&& Int64.toUInt64 63)).toInt64 = lI (x / 2) := fun x hx => (ushr_lI (s := 1) hx (by decide)).trans (by rw [Nat.shiftRight_eq_div_pow])
  have s2 : ∀ x, x < 2 ^ 63 → ((lI x).toUInt64 >>> ((2 : Int32).toInt64.toUInt64 &&& Int64.toUInt64 63)).toInt64 = lI (x / 4) := fun x hx => (ushr_lI (s := 2) hx (by decide)).trans (by rw [Nat.shiftRight_eq_div_pow])
  have s4 : ∀ x, x < 2 ^ 63 → ((lI x).toUInt64 >>> ((4 : Int32).toInt64.toUInt64 &&& Int64.toUInt64 63)).toInt64 = lI (x / 16) := fun x hx => (ushr_lI (s := 4) hx (by decide)).trans (by rw [Nat.shiftRight_eq_div_pow])
  have s8 : ∀ x, x < 2 ^ 63 → ((lI x).toUInt64 >>> ((8 : Int32).toInt64.toUInt64 &&& Int64.toUInt64 63)).toInt64 = lI (x / 256) := fun x hx => (ushr_lI (s := 8) hx (by decide)).trans (by rw [Nat.shiftRight_eq_div_pow])
  have s16 : ∀ x, x < 2 ^ 63 → ((lI x).toUInt64 >>> ((16 : Int32).toInt64.toUInt64 &&& Int64.toUInt64 63)).toInt64 = lI (x / 65536) := fun x hx => (ushr_lI (s := 16) hx (by decide)).trans (by rw [Nat.shiftRight_eq_div_pow])
  have s32 : ∀ x, x < 2 ^ 63 → ((lI x).toUInt64 >>> ((32 : Int32).toInt64.toUInt64 &&& Int64.toUInt64 63)).toInt64 = lI (x / 4294967296) := fun x hx => (ushr_lI (s := 32) hx (by decide)).trans (by rw [Nat.shiftRight_eq_div_pow])
  have l5 : (6148914691236517205 : Int64) = lI (rp 85 8) := by decide
  have l3 : (3689348814741910323 : Int64) = lI (rp 51 8) := by decide
  have lf : (1085102592571150095 : Int64) = lI (rp 15 8) := by decide
  have hsub : (m / 2) &&& rp 85 8 ≤ m := Nat.le_trans Nat.and_le_left (Nat.div_le_self _ _)
  have b1 : T1 8 m < 2 ^ 60 := Nat.lt_of_le_of_lt (Nat.sub_le _ _) hm
  have b2 : T2 8 (T1 8 m) ≤ 7378697629483820646 := by
    have x1 : T1 8 m &&& rp 51 8 ≤ rp 51 8 := Nat.and_le_right
    have x2 : T1 8 m / 4 &&& rp 51 8 ≤ rp 51 8 := Nat.and_le_right
    unfold T2
    omega
  have b3 : T3 8 (T2 8 (T1 8 m)) ≤ 1085102592571150095 := by
    have x1 : (T2 8 (T1 8 m) + T2 8 (T1 8 m) / 16) &&& rp 15 8 ≤ rp 15 8 := Nat.and_le_right
    unfold T3
    omega
  have e1 : lI m - (((lI m).toUInt64 >>> ((1 : Int32).toInt64.toUInt64 &&& Int64.toUInt64 63)).toInt64 &&& (6148914691236517205 : Int64)) = lI (T1 8 m) := by
    rw [s1 m (by omega), l5, and_lI, lI_sub hsub]
    rfl
  have e2 : (lI (T1 8 m) &&& (3689348814741910323 : Int64)) + (((lI (T1 8 m)).toUInt64 >>> ((2 : Int32).toInt64.toUInt64 &&& Int64.toUInt64 63)).toInt64 &&& (3689348814741910323 : Int64)) = lI (T2 8 (T1 8 m)) := by
    rw [s2 _ (by omega), l3, and_lI, and_lI, lI_add]
    rfl
  have e3 : (lI (T2 8 (T1 8 m)) + ((lI (T2 8 (T1 8 m))).toUInt64 >>> ((4 : Int32).toInt64.toUInt64 &&& Int64.toUInt64 63)).toInt64) &&& (1085102592571150095 : Int64) = lI (T3 8 (T2 8 (T1 8 m))) := by
    rw [s4 _ (by omega), lI_add, lf, and_lI]
    rfl
  simp only [M_J13_bitCount_95d88, M_J13_bitCount_95d88_0, lt_eq]
  rw [e1, e2, e3]
  generalize hv : T3 8 (T2 8 (T1 8 m)) = v at *
  rw [s8 v (by omega), lI_add, s16 _ (by omega), lI_add, s32 _ (by omega), lI_add, lI_to, show (127 : Int32) = nI (2 ^ 7 - 1) from rfl, and_nI, Nat.and_two_pow_sub_one_eq_mod]
  congr 2
  have hd : v = pcn (m % 256) 8 + 256 * (pcn (m / 256 % 256) 8 + 256 * (pcn (m / 256 / 256 % 256) 8 + 256 * (pcn (m / 256 / 256 / 256 % 256) 8 + 256 * (pcn (m / 256 / 256 / 256 / 256 % 256) 8 + 256 * (pcn (m / 256 / 256 / 256 / 256 / 256 % 256) 8 + 256 * (pcn (m / 256 / 256 / 256 / 256 / 256 / 256 % 256) 8 + 256 * pcn (m / 256 / 256 / 256 / 256 / 256 / 256 / 256 % 256) 8)))))) := by
    rw [← hv, v_dec, v_dec, v_dec, v_dec, v_dec, v_dec, v_dec, v_dec, t3_0]
  have hp : pcn m 64 = pcn (m % 256) 8 + (pcn (m / 256 % 256) 8 + (pcn (m / 256 / 256 % 256) 8 + (pcn (m / 256 / 256 / 256 % 256) 8 + (pcn (m / 256 / 256 / 256 / 256 % 256) 8 + (pcn (m / 256 / 256 / 256 / 256 / 256 % 256) 8 + (pcn (m / 256 / 256 / 256 / 256 / 256 / 256 % 256) 8 + pcn (m / 256 / 256 / 256 / 256 / 256 / 256 / 256 % 256) 8)))))) := by
    have z : ∀ x, pcn x 8 = pcn (x % 256) 8 := fun x => pcn_dec x 0
    have w : ∀ x i, pcn x (8 + i) = pcn (x % 256) 8 + pcn (x / 256) i := pcn_dec
    rw [show 64 = 8 + 56 from rfl, w, show 56 = 8 + 48 from rfl, w, show 48 = 8 + 40 from rfl, w, show 40 = 8 + 32 from rfl, w, show 32 = 8 + 24 from rfl, w, show 24 = 8 + 16 from rfl, w, show 16 = 8 + 8 from rfl, w, z (m / 256 / 256 / 256 / 256 / 256 / 256 / 256)]
  rw [hp]
  exact fold8 (pc8_le _) (pc8_le _) (pc8_le _) (pc8_le _) (pc8_le _) (pc8_le _) (pc8_le _) (pc8_le _) hd rfl rfl rfl
