-- ===== the least of a set =====
theorem ushr_lI {m s : Nat} (hm : m < 2 ^ 63) (hs : s < 64) : ((lI m).toUInt64 >>> ((nI s).toInt64.toUInt64 &&& Int64.toUInt64 63)).toInt64 = lI (m >>> s) := by
  have key : ∀ s : Fin 64, ((nI s.val).toInt64.toUInt64 &&& Int64.toUInt64 63).toBitVec % 64 = BitVec.ofNat 64 s.val := by decide +kernel
  have hk := key ⟨s, hs⟩
  apply Int64.toBitVec_inj.mp
  have e : ((lI m).toUInt64 >>> ((nI s).toInt64.toUInt64 &&& Int64.toUInt64 63)).toInt64.toBitVec = (BitVec.ofNat 64 m) >>> (((nI s).toInt64.toUInt64 &&& Int64.toUInt64 63).toBitVec % 64) := rfl
  rw [e, hk]
  apply BitVec.eq_of_toNat_eq
  show ((BitVec.ofNat 64 m) >>> (BitVec.ofNat 64 s).toNat).toNat = (BitVec.ofNat 64 (m >>> s)).toNat
  have hb : m >>> s < 2 ^ 63 := Nat.lt_of_le_of_lt (Nat.shiftRight_le m s) hm
  rw [BitVec.toNat_ushiftRight, BitVec.toNat_ofNat, BitVec.toNat_ofNat, BitVec.toNat_ofNat, Nat.mod_eq_of_lt (by omega : m < 2 ^ 64), Nat.mod_eq_of_lt (by omega : s < 2 ^ 64), Nat.mod_eq_of_lt (by omega : m >>> s < 2 ^ 64)]
def lowF (v7 : Int32) : Option Int32 := if 0 < v7 then (if v7 ≤ (65536 : Int32) then M_J6_numberOfTrailingZeros_0f7a4_34 0 v7 1 else M_J6_numberOfTrailingZeros_0f7a4_34 0 ((v7.toUInt32 >>> ((16 : Int32).toUInt32 &&& Int32.toUInt32 31)).toInt32) (1 + 16)) else some (v7 &&& 32)
theorem low_all : ∀ t : Fin 32, lowF (nI (2 ^ t.val - 1)) = some (nI t.val) := by decide +kernel
theorem low_eq (k : Nat) (x : Int32) : M_J6_numberOfTrailingZeros_0f7a4 k x = lowF ((x ^^^ (-1 : Int32)) &&& (x - 1)) := rfl
theorem m1_32 : (-1 : Int32).toBitVec = BitVec.allOnes 32 := by decide
/-- a number whose least bit is the t-th -/
theorem low_split {m t : Nat} (hb : m.testBit t = true) (hl : ∀ i, i < t → m.testBit i = false) : m = 2 ^ (t + 1) * (m / 2 ^ (t + 1)) + 2 ^ t := by
  have h1 : m % 2 ^ (t + 1) = 2 ^ t := by
    apply Nat.eq_of_testBit_eq
    intro i
    rw [Nat.testBit_mod_two_pow, Nat.testBit_two_pow]
    by_cases e : i = t
    · subst e; simp [hb]
    · by_cases h : i < t
      · rw [hl i h]; simp; omega
      · have h1 : ¬ i < t + 1 := by omega
        have h2 : ¬ t = i := by omega
        rw [decide_eq_false h1, decide_eq_false h2, Bool.false_and]
  have := Nat.div_add_mod m (2 ^ (t + 1))
  rw [h1] at this
  exact this.symm
theorem low_bits {m t : Nat} (hb : m.testBit t = true) (hl : ∀ i, i < t → m.testBit i = false) (i : Nat) : (!(m.testBit i) && (m - 1).testBit i) = decide (i < t) := by
  have hs := low_split hb hl
  have hp : 1 ≤ 2 ^ t := Nat.pos_of_ne_zero (by simp)
  have hlt : 2 ^ t < 2 ^ (t + 1) := Nat.pow_lt_pow_right (by decide) (by omega)
  have h1 : m - 1 = 2 ^ (t + 1) * (m / 2 ^ (t + 1)) + (2 ^ t - 1) := by omega
  have b1 : m.testBit i = if i < t + 1 then (2 ^ t).testBit i else (m / 2 ^ (t + 1)).testBit (i - (t + 1)) := by
    have := Nat.testBit_two_pow_mul_add (m / 2 ^ (t + 1)) hlt i
    rw [← hs] at this
    exact this
  have b2 : (m - 1).testBit i = if i < t + 1 then (2 ^ t - 1).testBit i else (m / 2 ^ (t + 1)).testBit (i - (t + 1)) := by
    have := Nat.testBit_two_pow_mul_add (m / 2 ^ (t + 1)) (show 2 ^ t - 1 < 2 ^ (t + 1) by omega) i
    rw [← h1] at this
    exact this
  rw [b1, b2]
  by_cases h : i < t + 1
  · rw [if_pos h, if_pos h, Nat.testBit_two_pow, Nat.testBit_two_pow_sub_one]
    by_cases e : i < t
    · have : ¬ t = i := by omega
      simp [e, this]
    · simp [e]
  · have : ¬ i < t := by omega
    rw [if_neg h, if_neg h]
    simp [this]
theorem low32 (k : Nat) {m t : Nat} (ht : t < 32) (hb : m.testBit t = true) (hl : ∀ i, i < t → m.testBit i = false) : M_J6_numberOfTrailingZeros_0f7a4 k (nI m) = some (nI t) := by
  have hm : 1 ≤ m := by
    have := low_split hb hl
    have hp : 1 ≤ 2 ^ t := Nat.pos_of_ne_zero (by simp)
    omega
  have hv : (nI m ^^^ (-1 : Int32)) &&& (nI m - 1) = nI (2 ^ t - 1) := by
    have e1 : nI m - 1 = nI (m - 1) := by rw [show (1 : Int32) = nI 1 from rfl, nI_sub hm]
    rw [e1]
    apply Int32.toBitVec_inj.mp
    rw [Int32.toBitVec_and, Int32.toBitVec_xor, m1_32]
    show (BitVec.ofNat 32 m ^^^ BitVec.allOnes 32) &&& BitVec.ofNat 32 (m - 1) = BitVec.ofNat 32 (2 ^ t - 1)
    apply BitVec.eq_of_getLsbD_eq
    intro i hi
    have := low_bits hb hl i
    rw [BitVec.getLsbD_and, BitVec.getLsbD_xor, BitVec.getLsbD_ofNat, BitVec.getLsbD_ofNat, BitVec.getLsbD_ofNat, BitVec.getLsbD_allOnes, Nat.testBit_two_pow_sub_one, ← this]
    simp [hi]
  rw [low_eq, hv]
  exact low_all ⟨t, ht⟩
theorem low64 (k : Nat) {m t : Nat} (hm : m < 2 ^ 63) (ht : t < 63) (hb : m.testBit t = true) (hl : ∀ i, i < t → m.testBit i = false) : M_J13_numberOfTrailingZeros_95d88 k (lI m) = some (nI t) := by
  simp only [M_J13_numberOfTrailingZeros_95d88, M_J13_numberOfTrailingZeros_95d88_0, lt_eq]
  rw [lI_to]
  by_cases h : t < 32
  · have hne : ¬ nI m = 0 := fun e => by
      have e1 : BitVec.ofNat 32 m = BitVec.ofNat 32 0 := congrArg Int32.toBitVec e
      have e2 : (BitVec.ofNat 32 m).getLsbD t = (BitVec.ofNat 32 0).getLsbD t := by rw [e1]
      rw [BitVec.getLsbD_ofNat, BitVec.getLsbD_ofNat, hb] at e2
      simp [h] at e2
    rw [if_neg hne, low32 k h hb hl, Option.bind_some]
  · have hz : nI m = 0 := by
      apply Int32.toBitVec_inj.mp
      show BitVec.ofNat 32 m = BitVec.ofNat 32 0
      apply BitVec.eq_of_getLsbD_eq
      intro i hi
      rw [BitVec.getLsbD_ofNat, BitVec.getLsbD_ofNat, hl i (by omega)]
      simp
    have hu := ushr_lI (m := m) (s := 32) hm (by decide)
    have hu : ((lI m).toUInt64 >>> ((32 : Int32).toInt64.toUInt64 &&& Int64.toUInt64 63)).toInt64 = lI (m >>> 32) := hu
    rw [if_pos hz, hu, lI_to, low32 k (t := t - 32) (by omega) (by rw [Nat.testBit_shiftRight, show 32 + (t - 32) = t by omega]; exact hb) (fun i hi => by rw [Nat.testBit_shiftRight]; exact hl _ (by omega)), Option.bind_some, show (32 : Int32) = nI 32 from rfl, nI_add, show 32 + (t - 32) = t by omega]
