-- ===== numbers of bits, masks of the reference =====
theorem bc_k (k : Nat) (x : Int32) : M_J6_bitCount_0f7a4 k x = M_J6_bitCount_0f7a4 0 x := rfl
theorem bc_all2 : ∀ i, i < 64 → ∀ j, j < 64 → M_J6_bitCount_0f7a4 0 (nI (64 * i + j)) = some (nI (pcn (64 * i + j) 12)) := by decide +kernel
theorem bc_all (a : Nat) (h : a < 4096) : M_J6_bitCount_0f7a4 0 (nI a) = some (nI (pcn a 12)) := by
  have := bc_all2 (a / 64) (by omega) (a % 64) (by omega)
  rw [Nat.div_add_mod] at this
  exact this
theorem bc (k : Nat) {a : Nat} (h : a < 4096) : M_J6_bitCount_0f7a4 k (nI a) = some (nI (pcn a 12)) := (bc_k k _).trans (bc_all a h)
theorem pcn_succ (a n : Nat) : pcn a (n + 1) = pcn a n + (if a.testBit n then 1 else 0) := by
  unfold pcn
  rw [List.range_succ, List.countP_append, List.countP_singleton]
theorem pcn_le (a : Nat) : ∀ n, pcn a n ≤ n
  | 0 => Nat.le_refl _
  | n + 1 => by
    have := pcn_le a n
    rw [pcn_succ]
    split <;> omega
theorem pcn_top {a n : Nat} (h : a < 2 ^ n) : ∀ m, pcn a (n + m) = pcn a n
  | 0 => rfl
  | m + 1 => by
    have ih := pcn_top h m
    have : a.testBit (n + m) = false := Nat.testBit_lt_two_pow (Nat.lt_of_lt_of_le h (Nat.pow_le_pow_right (by decide) (Nat.le_add_right _ _)))
    rw [show n + (m + 1) = n + m + 1 from rfl, pcn_succ, ih, this]
    rfl
theorem pcn_12 {a n : Nat} (h : a < 2 ^ n) (hn : n ≤ 12) : pcn a 12 = pcn a n := by
  have := pcn_top h (12 - n)
  rw [show n + (12 - n) = 12 by omega] at this
  exact this
theorem pcn_or {a w : Nat} (hb : a.testBit w = false) : ∀ n, pcn (a ||| 2 ^ w) n = pcn a n + (if w < n then 1 else 0)
  | 0 => rfl
  | n + 1 => by
    have ih := pcn_or hb n
    rw [pcn_succ, pcn_succ, ih, Nat.testBit_or, Nat.testBit_two_pow]
    by_cases e : w = n
    · subst e
      rw [hb, decide_eq_true rfl, if_neg (Nat.lt_irrefl _), if_pos (Nat.lt_succ_self _)]
      rfl
    · rw [decide_eq_false e, Bool.or_false]
      by_cases h : w < n
      · rw [if_pos h, if_pos (show w < n + 1 by omega)]; omega
      · rw [if_neg h, if_neg (show ¬ w < n + 1 by omega), Nat.add_zero, Nat.add_zero]
theorem msk_or {f : Nat → Bool} {i : Nat} (h : f i = true) : msk f i ||| 2 ^ i = msk f (i + 1) := by
  apply Nat.eq_of_testBit_eq
  intro x
  rw [Nat.testBit_or, msk_bit, msk_bit, Nat.testBit_two_pow]
  by_cases e : i = x
  · subst e
    simp [h]
  · by_cases hx : x < i
    · simp [hx, Nat.lt_succ_of_lt hx, e]
    · have h2 : ¬ x < i + 1 := by omega
      simp [hx, h2, e]
theorem msk_no {f : Nat → Bool} {i : Nat} (h : f i = false) : msk f (i + 1) = msk f i := by
  rw [msk, h]
  rfl
section REF
variable {S : VV} {g : Nat} {A : AF} {mk : Nat → Nat} {ks : KL} {tk : Nat} {tkt : Nat → Nat} {k : Nat}
theorem rq_upWorkers (R : RelM S g A mk ks tk tkt) (w : AW A) (hk : 20000 ≤ k) : M_X10_upWorkers k S = some (nI (msk A.up A.W)) := by
  have hW := w.w12
  have key : ∀ m i, i + m = A.W → ∀ fuel, m < fuel → M_X10_upWorkers_4 k S fuel (nI (msk A.up i)) (nI i) = some (nI (msk A.up A.W)) := by
    intro m
    induction m with
    | zero =>
      intro i hi fuel hf
      obtain ⟨f, rfl⟩ : ∃ f, fuel = f + 1 := ⟨fuel - 1, by omega⟩
      have : i = A.W := by omega
      subst this
      simp only [M_X10_upWorkers_4]
      rw [R.workers k, Option.bind_some, if_pos (nI_le (Nat.le_refl _) (by omega))]
    | succ m ih =>
      intro i hi fuel hf
      obtain ⟨f, rfl⟩ : ∃ f, fuel = f + 1 := ⟨fuel - 1, by omega⟩
      have hiW : i < A.W := by omega
      have ih := ih (i + 1) (by omega) f (by omega)
      simp only [M_X10_upWorkers_4, lt_eq]
      rw [R.workers k, Option.bind_some, if_neg (nI_ge hiW (by omega)), R.isUp w k hiW, Option.bind_some, ite_b1, nI_1, bit_nI (by omega), or_nI]
      by_cases hu : A.up i = true
      · rw [if_pos hu, msk_or hu]; exact ih
      · have hu2 : A.up i = false := by simpa using hu
        rw [if_neg hu, Int32.or_zero]
        rw [msk_no hu2] at ih
        exact ih
  have h := key A.W 0 (by omega) k (by omega)
  rw [nI_0] at h
  exact h
end REF
