-- ===== sets of requests as longs =====
theorem and_lI (a b : Nat) : lI a &&& lI b = lI (a &&& b) := by
  apply Int64.toBitVec_inj.mp
  simp [lI]
theorem or_lI (a b : Nat) : lI a ||| lI b = lI (a ||| b) := by
  apply Int64.toBitVec_inj.mp
  simp [lI]
theorem one_shl64 {w : Nat} (h : w < 63) : (1 : Int64) <<< ((nI w).toInt64 &&& 63) = lI (2 ^ w) := by
  have key : ∀ w : Fin 63, (1 : Int64) <<< ((nI w.val).toInt64 &&& 63) = lI (2 ^ w.val) := by decide +kernel
  exact key ⟨w, h⟩
theorem m1_64 : (-1 : Int64).toBitVec = BitVec.allOnes 64 := by decide
/-- what is not in a set, of the first n -/
theorem not_lI (f : Nat → Bool) {n : Nat} (hn : n ≤ 60) : lI (2 ^ n - 1) &&& (lI (msk f n) ^^^ (-1 : Int64)) = lI (msk (fun i => !f i) n) := by
  apply Int64.toBitVec_inj.mp
  rw [Int64.toBitVec_and, Int64.toBitVec_xor, m1_64]
  show BitVec.ofNat 64 (2 ^ n - 1) &&& (BitVec.ofNat 64 (msk f n) ^^^ BitVec.allOnes 64) = BitVec.ofNat 64 (msk (fun i => !f i) n)
  apply BitVec.eq_of_getLsbD_eq
  intro i hi
  rw [BitVec.getLsbD_and, BitVec.getLsbD_xor, BitVec.getLsbD_ofNat, BitVec.getLsbD_ofNat, BitVec.getLsbD_ofNat, BitVec.getLsbD_allOnes, msk_bit, msk_bit, Nat.testBit_two_pow_sub_one]
  by_cases h : i < n <;> simp [h, hi]
theorem all_lI {F : VV} {n k : Nat} (h : F 0 3 = nI n) (hn : n ≤ 60) : M_X4_allRequests k F = some (lI (2 ^ n - 1)) := by
  simp only [M_X4_allRequests, M_X4_allRequests_0]
  have hp : 1 ≤ 2 ^ n := Nat.pos_of_ne_zero (by simp)
  rw [h, one_shl64 (by omega), show (1 : Int64) = lI 1 from rfl, lI_sub hp]
theorem msk_and (f g : Nat → Bool) (n : Nat) : msk f n &&& msk g n = msk (fun i => f i && g i) n := by
  apply Nat.eq_of_testBit_eq
  intro i
  rw [Nat.testBit_and, msk_bit, msk_bit, msk_bit]
  by_cases h : i < n <;> simp [h]
theorem and_msk (f g : Nat → Bool) (n : Nat) : lI (msk f n) &&& lI (msk g n) = lI (msk (fun i => f i && g i) n) := by rw [and_lI, msk_and]
theorem or_msk (f g : Nat → Bool) (n : Nat) : lI (msk f n) ||| lI (msk g n) = lI (msk (fun i => f i || g i) n) := by rw [or_lI, msk_or2]
/-- one more request in a set -/
theorem bit_msk (f : Nat → Bool) {i : Nat} (hi : i < 60) (h : f i = true) : lI (msk f i) ||| ((1 : Int64) <<< ((nI i).toInt64 &&& 63)) = lI (msk f (i + 1)) := by
  rw [one_shl64 (by omega), or_lI, msk_or h]
