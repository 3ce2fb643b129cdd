-- ===== how many a set has, on longs =====
theorem pc8_le (a : Nat) : pcn a 8 ≤ 8 := pcn_le a 8
theorem t3_0 (x : Nat) : T3 0 x = 0 := Nat.and_zero _
theorem bc64 (k : Nat) {m : Nat} (hm : m < 2 ^ 60) : M_J13_bitCount_95d88 k (lI m) = some (nI (pcn m 64)) := by
  have r51 : rp 51 8 = 3689348814741910323 := rfl
  have r15 : rp 15 8 = 1085102592571150095 := rfl
  have s1 : ∀ x, x < 2 ^ 63 → ((lI x).toUInt64 >>> ((1 : Int32).toInt64.toUInt64 &&& Int64.toUInt64 63)).toInt64 = lI (x / 2) := fun x hx => (ushr_lI (s := 1) hx (by decide)).trans (by rw [Nat.shiftRight_eq_div_pow])
  have s2 : ∀ x, x < 2 ^ 63 → ((lI x).toUInt64 >>> ((2 : Int32).toInt64.toUInt64 &&& Int64.toUInt64 63)).toInt64 = lI (x / 4) := fun x hx => (ushr_lI (s := 2) hx (by decide)).trans (by rw [Nat.shiftRight_eq_div_pow])
  have s4 : ∀ x, x < 2 ^ 63 → ((lI x).toUInt64 >>> ((4 : Int32).toInt64.toUInt64 &&& Int64.toUInt64 63)).toInt64 = lI (x / 16) := fun x hx => (ushr_lI (s := 4) hx (by decide)).trans (by rw [Nat.shiftRight_eq_div_pow])
  have s8 : ∀ x, x < 2 ^ 63 → ((lI x).toUInt64 >>> ((8 : Int32).toInt64.toUInt64 &&& Int64.toUInt64 63)).toInt64 = lI (x / 256) := fun x hx => (ushr_lI (s := 8) hx (by decide)).trans (by rw [Nat.shiftRight_eq_div_pow])
  have s16 : ∀ x, x < 2 ^ 63 → ((lI x).toUInt64 >>> ((16 : Int32).toInt64.toUInt64 &&& Int64.toUInt64 63)).toInt64 = lI (x / 65536) := fun x hx => (ushr_lI (s := 16) hx (by decide)).trans (by rw [Nat.shiftRight_eq_div_pow])
  have s32 : ∀ x, x < 2 ^ 63 → ((lI x).toUInt64 >>> ((32 : Int32).toInt64.toUInt64 &&& Int64.toUInt64 63)).toInt64 = lI (x / 4294967296) := fun x hx => (ushr_lI (s := 32) hx (by decide)).trans (by rw [Nat.shiftRight_eq_div_pow])
  have l5 : (6148914691236517205 : Int64) = lI (rp 85 8) := rfl
  have l3 : (3689348814741910323 : Int64) = lI (rp 51 8) := rfl
  have lf : (1085102592571150095 : Int64) = lI (rp 15 8) := rfl
  have hsub : (m / 2) &&& rp 85 8 ≤ m := Nat.le_trans Nat.and_le_left (Nat.div_le_self _ _)
  have b1 : T1 8 m < 2 ^ 60 := Nat.lt_of_le_of_lt (Nat.sub_le _ _) hm
  have b2 : T2 8 (T1 8 m) ≤ 7378697629483820646 := by
    have x1 : T1 8 m &&& rp 51 8 ≤ rp 51 8 := Nat.and_le_right
    have x2 : T1 8 m / 4 &&& rp 51 8 ≤ rp 51 8 := Nat.and_le_right
    unfold T2
    omega
  have b3 : T3 8 (T2 8 (T1 8 m)) ≤ 1085102592571150095 := by
    have x1 : (T2 8 (T1 8 m) + T2 8 (T1 8 m) / 16) &&& rp 15 8 ≤ rp 15 8 := Nat.and_le_right
    unfold T3
    omega
  have e1 : lI m - (((lI m).toUInt64 >>> ((1 : Int32).toInt64.toUInt64 &&& Int64.toUInt64 63)).toInt64 &&& (6148914691236517205 : Int64)) = lI (T1 8 m) := by
    rw [s1 m (by omega), l5, and_lI, lI_sub hsub]
    rfl
  have e2 : (lI (T1 8 m) &&& (3689348814741910323 : Int64)) + (((lI (T1 8 m)).toUInt64 >>> ((2 : Int32).toInt64.toUInt64 &&& Int64.toUInt64 63)).toInt64 &&& (3689348814741910323 : Int64)) = lI (T2 8 (T1 8 m)) := by
    rw [s2 _ (by omega), l3, and_lI, and_lI, lI_add]
    rfl
  have e3 : (lI (T2 8 (T1 8 m)) + ((lI (T2 8 (T1 8 m))).toUInt64 >>> ((4 : Int32).toInt64.toUInt64 &&& Int64.toUInt64 63)).toInt64) &&& (1085102592571150095 : Int64) = lI (T3 8 (T2 8 (T1 8 m))) := by
    rw [s4 _ (by omega), lI_add, lf, and_lI]
    rfl
  simp only [M_J13_bitCount_95d88, M_J13_bitCount_95d88_0, lt_eq]
  rw [e1, e2, e3]
  generalize hv : T3 8 (T2 8 (T1 8 m)) = v at *
  rw [s8 v (by omega), lI_add, s16 _ (by omega), lI_add, s32 _ (by omega), lI_add, lI_to, show (127 : Int32) = nI (2 ^ 7 - 1) from rfl, and_nI, Nat.and_two_pow_sub_one_eq_mod]
  congr 2
  have hd : v = pcn (m % 256) 8 + 256 * (pcn (m / 256 % 256) 8 + 256 * (pcn (m / 256 / 256 % 256) 8 + 256 * (pcn (m / 256 / 256 / 256 % 256) 8 + 256 * (pcn (m / 256 / 256 / 256 / 256 % 256) 8 + 256 * (pcn (m / 256 / 256 / 256 / 256 / 256 % 256) 8 + 256 * (pcn (m / 256 / 256 / 256 / 256 / 256 / 256 % 256) 8 + 256 * pcn (m / 256 / 256 / 256 / 256 / 256 / 256 / 256 % 256) 8)))))) := by
    rw [← hv, v_dec, v_dec, v_dec, v_dec, v_dec, v_dec, v_dec, v_dec, t3_0, Nat.mul_zero, Nat.add_zero]
  have hp : pcn m 64 = pcn (m % 256) 8 + pcn (m / 256 % 256) 8 + pcn (m / 256 / 256 % 256) 8 + pcn (m / 256 / 256 / 256 % 256) 8 + (pcn (m / 256 / 256 / 256 / 256 % 256) 8 + pcn (m / 256 / 256 / 256 / 256 / 256 % 256) 8 + pcn (m / 256 / 256 / 256 / 256 / 256 / 256 % 256) 8 + pcn (m / 256 / 256 / 256 / 256 / 256 / 256 / 256 % 256) 8) := by
    have z : ∀ x, pcn x 8 = pcn (x % 256) 8 := fun x => pcn_dec x 0
    have w : ∀ x i, pcn x (8 + i) = pcn (x % 256) 8 + pcn (x / 256) i := pcn_dec
    rw [show 64 = 8 + 56 from rfl, w, show 56 = 8 + 48 from rfl, w, show 48 = 8 + 40 from rfl, w, show 40 = 8 + 32 from rfl, w, show 32 = 8 + 24 from rfl, w, show 24 = 8 + 16 from rfl, w, show 16 = 8 + 8 from rfl, w, z (m / 256 / 256 / 256 / 256 / 256 / 256 / 256)]
    simp only [Nat.add_assoc]
  have e7 : (2 : Nat) ^ 7 = 128 := rfl
  rw [hp, e7]
  exact fold8 (pc8_le _) (pc8_le _) (pc8_le _) (pc8_le _) (pc8_le _) (pc8_le _) (pc8_le _) (pc8_le _) hd rfl rfl rfl
