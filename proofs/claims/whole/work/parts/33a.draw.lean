-- ===== draws: numbers =====
theorem loop_st {β : Type} (M : Nat → Nat → Option β) (N : Nat) (R : Option β) (hs : ∀ n i, i < N → M (n + 1) i = M n (i + 1)) (he : ∀ n, M (n + 1) N = R) : ∀ m i, i + m = N → ∀ fuel, m < fuel → M fuel i = R := by
  intro m
  induction m with
  | zero =>
    intro i hi fuel hf
    obtain ⟨f, rfl⟩ : ∃ f, fuel = f + 1 := ⟨fuel - 1, by omega⟩
    have : i = N := by omega
    subst this
    exact he f
  | succ m ih =>
    intro i hi fuel hf
    obtain ⟨f, rfl⟩ : ∃ f, fuel = f + 1 := ⟨fuel - 1, by omega⟩
    rw [hs f i (by omega)]
    exact ih (i + 1) (by omega) f (by omega)
theorem loop_st0 {β : Type} (M : Nat → Nat → Option β) (N : Nat) (R : Option β) (hs : ∀ n i, i < N → M (n + 1) i = M n (i + 1)) (he : ∀ n, M (n + 1) N = R) {fuel : Nat} (hf : N < fuel) : M fuel 0 = R := loop_st M N R hs he N 0 (Nat.zero_add N) fuel hf
theorem nI_div {a b : Nat} (ha : a < 2 ^ 31) (hb : b < 2 ^ 31) : nI a / nI b = nI (a / b) := (Int32.ofNat_div ha hb).symm
theorem nI_mod {a b : Nat} (ha : a < 2 ^ 31) (hb : b < 2 ^ 31) : nI a - nI a / nI b * nI b = nI (a % b) := by
  rw [nI_div ha hb, nI_mul, nI_sub (Nat.div_mul_le_self a b)]
  congr 1
  rw [Nat.mod_eq_sub, Nat.mul_comm]
def lI (n : Nat) : Int64 := Int64.ofNat n
theorem lI_mul (a b : Nat) : lI a * lI b = lI (a * b) := (Int64.ofNat_mul a b).symm
theorem lI_add (a b : Nat) : lI a + lI b = lI (a + b) := (Int64.ofNat_add a b).symm
theorem lI_div {a b : Nat} (ha : a < 2 ^ 63) (hb : b < 2 ^ 63) : lI a / lI b = lI (a / b) := (Int64.ofNat_div ha hb).symm
theorem lI_sub {a b : Nat} (h : b ≤ a) : lI a - lI b = lI (a - b) := (Int64.ofNat_sub a b h).symm
theorem lI_mod {a b : Nat} (ha : a < 2 ^ 63) (hb : b < 2 ^ 63) : lI a - lI a / lI b * lI b = lI (a % b) := by
  rw [lI_div ha hb, lI_mul, lI_sub (Nat.div_mul_le_self a b)]
  congr 1
  rw [Nat.mod_eq_sub, Nat.mul_comm]
theorem lI_toInt {n : Nat} (h : n < 2 ^ 63) : (lI n).toInt = n := Int64.toInt_ofNat_of_lt h
theorem lI_ne0 {n : Nat} (h0 : n ≠ 0) (h : n < 2 ^ 63) : ¬ lI n = 0 := fun e => by
  have h1 := lI_toInt h
  rw [e] at h1
  have h2 : (0 : Int64).toInt = 0 := by decide
  omega
theorem lI_of {n : Nat} (h : n < 2 ^ 31) : (nI n).toInt64 = lI n := Int32.toInt64_ofNat' (by
  have : Int32.maxValue.toInt = 2147483647 := by decide
  rw [this]
  omega)
theorem lI_to (n : Nat) : (lI n).toInt32 = nI n := Int64.toInt32_ofNat'
/-- the next drawn number -/
def nx (x : Nat) : Nat := (x * 1103515245 + 12345) % 2147483648
theorem nx_lt (x : Nat) : nx x < 2 ^ 31 := Nat.mod_lt _ (by decide)
theorem nx_c (x : Nat) : ((nI x * (1103515245 : Int32)) + (12345 : Int32)) &&& (2147483647 : Int32) = nI (nx x) := by
  rw [show (1103515245 : Int32) = nI 1103515245 from rfl, nI_mul, show (12345 : Int32) = nI 12345 from rfl, nI_add, show (2147483647 : Int32) = nI (2 ^ 31 - 1) from rfl, and_nI, Nat.and_two_pow_sub_one_eq_mod]
  rfl
theorem nx_r {x : Nat} (h : x < 2 ^ 31) : ((lI x * (1103515245 : Int64)) + (12345 : Int64)) - ((lI x * (1103515245 : Int64)) + (12345 : Int64)) / (2147483648 : Int64) * (2147483648 : Int64) = lI (nx x) := by
  rw [show (1103515245 : Int64) = lI 1103515245 from rfl, lI_mul, show (12345 : Int64) = lI 12345 from rfl, lI_add, show (2147483648 : Int64) = lI 2147483648 from rfl, lI_mod (by omega) (by decide)]
  rfl
/-- how many of m numbers from i on are not in a set -/
def cfr (s : Nat) : Nat → Nat → Nat
  | 0, _ => 0
  | m + 1, i => (if s.testBit i then 0 else 1) + cfr s m (i + 1)
theorem cfr_pcn (s : Nat) : ∀ m i, cfr s m i + pcn s (i + m) = m + pcn s i
  | 0, i => by simp [cfr]
  | m + 1, i => by
    have ih := cfr_pcn s m (i + 1)
    rw [pcn_succ] at ih
    rw [cfr, show i + (m + 1) = i + 1 + m by omega]
    by_cases h : s.testBit i = true
    · rw [if_pos h] at ih ⊢; omega
    · rw [if_neg h] at ih ⊢; omega
/-- the one at a place of those that are not in a set, from i on -/
def frW (s : Nat) : Nat → Nat → Nat → Nat
  | 0, i, _ => i
  | m + 1, i, left => if s.testBit i then frW s m (i + 1) left else if left = 0 then i else frW s m (i + 1) (left - 1)
theorem frW_in (s : Nat) : ∀ m i left, left < cfr s m i → i ≤ frW s m i left ∧ frW s m i left < i + m ∧ s.testBit (frW s m i left) = false
  | 0, i, left, h => by simp [cfr] at h
  | m + 1, i, left, h => by
    unfold frW
    unfold cfr at h
    by_cases hb : s.testBit i = true
    · rw [if_pos hb] at h ⊢
      have ih := frW_in s m (i + 1) left (by omega)
      exact ⟨by omega, by omega, ih.2.2⟩
    · rw [if_neg hb] at h ⊢
      by_cases h0 : left = 0
      · rw [if_pos h0]
        exact ⟨Nat.le_refl _, by omega, by simpa using hb⟩
      · rw [if_neg h0]
        have ih := frW_in s m (i + 1) (left - 1) (by omega)
        exact ⟨by omega, by omega, ih.2.2⟩
section CLS
variable {F : VV} {A : AF} {fg : Nat → Nat} {ks : KL} {k : Nat}
theorem cq_free (h0 : F 0 0 = nI A.W) (hW : A.W ≤ 12) {s : Nat} (hs : s < 2 ^ 31) : ∀ m i left, i + m = A.W → left < cfr s m i → left < 2 ^ 31 → ∀ fuel, m < fuel → M_X0_freeWorker_24 k F fuel (nI s) (nI left) (nI i) = some (nI (2 ^ frW s m i left)) := by
  intro m
  induction m with
  | zero => intro i left hi hl; simp [cfr] at hl
  | succ m ih =>
    intro i left hi hl h31 fuel hf
    obtain ⟨f, rfl⟩ : ∃ f, fuel = f + 1 := ⟨fuel - 1, by omega⟩
    have hiW : i < A.W := by omega
    simp only [M_X0_freeWorker_24]
    rw [h0, if_neg (nI_ge hiW (by omega)), has0 k hs (by omega), Option.bind_some, nI_1, frW]
    unfold cfr at hl
    by_cases hb : s.testBit i = true
    · rw [if_pos hb] at hl
      rw [if_pos hb, if_neg (by decide), if_pos hb]
      exact ih (i + 1) left (by omega) (by omega) h31 f (by omega)
    · rw [if_neg hb] at hl
      rw [if_neg hb, if_pos rfl, if_neg hb]
      by_cases hl0 : left = 0
      · rw [if_pos hl0, hl0, if_pos (by rfl), bit_nI (by omega)]
      · rw [if_neg hl0, if_neg (nI_ne0 (by omega) h31)]
        obtain ⟨l, rfl⟩ : ∃ l, left = l + 1 := ⟨left - 1, by omega⟩
        rw [show (-1 : Int32) = -1 from rfl, nI_sub1]
        exact ih (i + 1) l (by omega) (by omega) (by omega) f (by omega)
theorem rq_free (S : VV) {s : Nat} (hs : s < 2 ^ 31) : ∀ m i left, i + m ≤ 12 → left < cfr s m i → left < 2 ^ 31 → ∀ fuel, m < fuel → M_X10_freeAt_5 k S fuel (nI s) (nI left) (nI i) = some (nI (frW s m i left)) := by
  intro m
  induction m with
  | zero => intro i left hi hl; simp [cfr] at hl
  | succ m ih =>
    intro i left hi hl h31 fuel hf
    obtain ⟨f, rfl⟩ : ∃ f, fuel = f + 1 := ⟨fuel - 1, by omega⟩
    simp only [M_X10_freeAt_5, M_X10_freeAt_18, lt_eq]
    rw [has10 k hs (by omega), Option.bind_some, Option.bind_some, nI_1, frW]
    unfold cfr at hl
    by_cases hb : s.testBit i = true
    · rw [if_pos hb] at hl
      rw [if_pos hb, if_neg (by decide), if_pos hb, if_neg (by decide), Int32.sub_zero]
      exact ih (i + 1) left (by omega) (by omega) h31 f (by omega)
    · rw [if_neg hb] at hl
      rw [if_neg hb, if_pos rfl, if_neg hb, if_pos rfl]
      by_cases hl0 : left = 0
      · rw [if_pos hl0, hl0, if_pos (by decide)]
      · rw [if_neg hl0]
        obtain ⟨l, rfl⟩ : ∃ l, left = l + 1 := ⟨left - 1, by omega⟩
        have hn : ¬ nI (l + 1) ≤ 0 := by
          rw [← nI_0]
          exact nI_ge (by omega) (by omega)
        rw [if_neg hn, show (1 : Int32) = nI 1 from rfl, nI_sub (by omega)]
        exact ih (i + 1) l (by omega) (by omega) (by omega) f (by omega)
end CLS
