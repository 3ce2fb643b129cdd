-- ===== bits of ints =====
theorem and_nI (a b : Nat) : nI a &&& nI b = nI (a &&& b) := by
  apply Int32.toBitVec_inj.mp
  simp [nI]
theorem or_nI (a b : Nat) : nI a ||| nI b = nI (a ||| b) := by
  apply Int32.toBitVec_inj.mp
  simp [nI]
theorem sh31 {w : Nat} (h : w < 32) : nI w &&& 31 = nI w := by
  rw [show (31 : Int32) = nI 31 from rfl, and_nI]
  congr 1
  rw [show 31 = 2 ^ 5 - 1 from rfl, Nat.and_two_pow_sub_one_eq_mod]
  exact Nat.mod_eq_of_lt h
theorem one_shl {w : Nat} (h : w < 32) : (1 : Int32) <<< nI w = nI (2 ^ w) := by
  have : ∀ w : Fin 32, (1 : Int32) <<< nI w.val = nI (2 ^ w.val) := by decide +kernel
  exact this ⟨w, h⟩
theorem bit_nI {w : Nat} (h : w < 32) : (1 : Int32) <<< (nI w &&& 31) = nI (2 ^ w) := by rw [sh31 h, one_shl h]
theorem smod32 {w : Nat} (h : w < 32) : (nI w).toBitVec.smod 32 = BitVec.ofNat 32 w := by
  have : ∀ w : Fin 32, (nI w.val).toBitVec.smod 32 = BitVec.ofNat 32 w.val := by decide +kernel
  exact this ⟨w, h⟩
theorem shr_nI {a w : Nat} (ha : a < 2 ^ 31) (h : w < 32) : nI a >>> nI w = nI (a >>> w) := by
  apply Int32.toInt_inj.mp
  have hb : a >>> w < 2 ^ 31 := Nat.lt_of_le_of_lt (Nat.shiftRight_le a w) ha
  rw [nI_toInt hb, ← Int32.toInt_toBitVec, Int32.toBitVec_shiftRight, smod32 h, show ∀ (x y : BitVec 32), x.sshiftRight' y = x.sshiftRight y.toNat from fun _ _ => rfl, BitVec.toInt_sshiftRight, Int32.toInt_toBitVec, nI_toInt ha]
  rw [BitVec.toNat_ofNat, Nat.mod_eq_of_lt (by omega : w < 2 ^ 32)]
  rfl
theorem bitAt {a w : Nat} (ha : a < 2 ^ 31) (h : w < 32) : nI a >>> (nI w &&& 31) &&& 1 = if a.testBit w then 1 else 0 := by
  rw [sh31 h, shr_nI ha h, show (1 : Int32) = nI 1 from rfl, and_nI]
  unfold Nat.testBit
  rw [Nat.and_comm 1, Nat.and_one_is_mod]
  rcases Nat.mod_two_eq_zero_or_one (a >>> w) with e | e <;> rw [e] <;> rfl
theorem has0 (k : Nat) {a w : Nat} (ha : a < 2 ^ 31) (h : w < 32) : M_X0_has k (nI a) (nI w) = some (if a.testBit w then 1 else 0) := by
  simp only [M_X0_has, M_X0_has_0, bitAt ha h]
  cases a.testBit w <;> rfl
theorem has10 (k : Nat) {a w : Nat} (ha : a < 2 ^ 31) (h : w < 32) : M_X10_has k (nI a) (nI w) = some (if a.testBit w then 1 else 0) := by
  simp only [M_X10_has, M_X10_has_0, bitAt ha h]
  cases a.testBit w <;> rfl
/-- the mask of a set of numbers below W -/
def msk (f : Nat → Bool) : Nat → Nat
  | 0 => 0
  | n + 1 => msk f n + (if f n then 2 ^ n else 0)
theorem msk_lt (f : Nat → Bool) : ∀ n, msk f n < 2 ^ n
  | 0 => Nat.one_pos
  | n + 1 => by
    have h := msk_lt f n
    unfold msk
    rw [Nat.pow_succ]
    split <;> omega
theorem msk_bit (f : Nat → Bool) : ∀ n i, (msk f n).testBit i = (decide (i < n) && f i)
  | 0, i => by simp [msk]
  | n + 1, i => by
    have ih := msk_bit f n
    unfold msk
    by_cases hf : f n = true
    · rw [if_pos hf, Nat.add_comm, ]
      by_cases hi : i = n
      · subst hi
        rw [Nat.testBit_two_pow_add_eq, ih]
        simp [hf]
      · by_cases hl : i < n
        · rw [Nat.testBit_two_pow_add_gt (by omega), ih]
          simp [hl, Nat.lt_succ_of_lt hl]
        · rw [Nat.testBit_lt_two_pow]
          · simp; omega
          · have h := msk_lt f n
            have h2 : 2 ^ (n + 1) ≤ 2 ^ i := Nat.pow_le_pow_right (by omega) (by omega)
            rw [Nat.pow_succ] at h2
            omega
    · rw [if_neg hf, Nat.add_zero, ih]
      by_cases hl : i < n
      · simp [hl, Nat.lt_succ_of_lt hl]
      · by_cases hi : i = n
        · subst hi
          simp at hf
          simp [hf]
        · have h2 : ¬ i < n + 1 := by omega
          simp [hl, h2]
theorem msk_ext {f g : Nat → Bool} {n : Nat} (h : ∀ i, i < n → f i = g i) : msk f n = msk g n := by
  induction n with
  | zero => rfl
  | succ n ih => unfold msk; rw [ih (fun i hi => h i (by omega)), h n (by omega)]
theorem msk_of {a n : Nat} (h : a < 2 ^ n) : msk (fun i => a.testBit i) n = a := by
  apply Nat.eq_of_testBit_eq
  intro i
  rw [msk_bit]
  by_cases hi : i < n
  · simp [hi]
  · rw [Nat.testBit_lt_two_pow (Nat.lt_of_lt_of_le h (Nat.pow_le_pow_right (by omega) (by omega)))]
    simp [hi]
/-- a bit put into a mask -/
theorem msk_set {f : Nat → Bool} {n w : Nat} (h : w < n) : msk f n ||| 2 ^ w = msk (fun i => i == w || f i) n := by
  apply Nat.eq_of_testBit_eq
  intro i
  rw [Nat.testBit_or, msk_bit, msk_bit, Nat.testBit_two_pow]
  by_cases hi : i = w
  · subst hi; simp [h]
  · have h3 : ¬ w = i := fun e => hi e.symm
    have h4 : (i == w) = false := beq_false_of_ne hi
    simp [h3, h4]
theorem not_nI (a b : Nat) (hb : b < 2 ^ 31) : nI a &&& (nI b ^^^ (-1 : Int32)) = Int32.ofBitVec (BitVec.ofNat 32 a &&& ~~~ (BitVec.ofNat 32 b)) := by
  apply Int32.toBitVec_inj.mp
  rw [Int32.toBitVec_and, Int32.toBitVec_xor, show (-1 : Int32).toBitVec = BitVec.allOnes 32 from by decide, BitVec.xor_allOnes]
  rfl
/-- of a mask what is not in another -/
theorem andnot_msk {f g : Nat → Bool} {n : Nat} (hn : n < 31) : nI (msk f n) &&& (nI (msk g n) ^^^ (-1 : Int32)) = nI (msk (fun i => f i && !g i) n) := by
  have hp : 2 ^ n < 2 ^ 31 := Nat.pow_lt_pow_right (by omega) hn
  have h1 := msk_lt f n
  have h2 := msk_lt g n
  have h3 := msk_lt (fun i => f i && !g i) n
  rw [not_nI _ _ (by omega)]
  apply Int32.toBitVec_inj.mp
  apply BitVec.eq_of_getLsbD_eq
  intro i hi
  show ((BitVec.ofNat 32 (msk f n) &&& ~~~ (BitVec.ofNat 32 (msk g n))).getLsbD i) = (BitVec.ofNat 32 (msk (fun i => f i && !g i) n)).getLsbD i
  rw [BitVec.getLsbD_and, BitVec.getLsbD_not, BitVec.getLsbD_ofNat, BitVec.getLsbD_ofNat, BitVec.getLsbD_ofNat, msk_bit, msk_bit, msk_bit]
  simp [hi]
  by_cases hin : i < n <;> simp [hin]
theorem pow_msk {n w : Nat} (h : w < n) : 2 ^ w = msk (fun i => i == w) n := by
  apply Nat.eq_of_testBit_eq
  intro i
  rw [msk_bit, Nat.testBit_two_pow]
  by_cases hi : i = w
  · subst hi; simp [h]
  · have h3 : ¬ w = i := fun e => hi e.symm
    have h4 : (i == w) = false := beq_false_of_ne hi
    simp [h3, h4]
/-- a bit taken out of a mask -/
theorem msk_clr {f : Nat → Bool} {n w : Nat} (h : w < n) (hn : n < 31) : nI (msk f n) &&& (((1 : Int32) <<< (nI w &&& 31)) ^^^ (-1 : Int32)) = nI (msk (fun i => f i && !(i == w)) n) := by
  rw [bit_nI (by omega), pow_msk h, andnot_msk hn]
