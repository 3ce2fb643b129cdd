-- ===== shards, compared on both sides =====
def shV (A : AF) (t o : Nat) : Nat := pcn (A.sh t &&& A.sh o) 12
theorem and_4096 {a b : Nat} (h : a < 4096) : a &&& b < 4096 := Nat.lt_of_le_of_lt Nat.and_le_left h
theorem pcn_and (a b : Nat) : ∀ n, pcn (a &&& b) n ≤ pcn a n
  | 0 => Nat.le_refl _
  | n + 1 => by
    have ih := pcn_and a b n
    rw [pcn_succ, pcn_succ, Nat.testBit_and]
    cases a.testBit n <;> cases b.testBit n <;> simp <;> omega
theorem pcn_comm (a b n : Nat) : pcn (a &&& b) n = pcn (b &&& a) n := by rw [Nat.and_comm]
/-- all of b is in a just if as many of it are in a as it has -/
theorem pcn_sub (a b : Nat) : ∀ n, pcn (a &&& b) n = pcn b n ↔ ∀ i, i < n → (b.testBit i && !a.testBit i) = false
  | 0 => ⟨fun _ i hi => by omega, fun _ => rfl⟩
  | n + 1 => by
    have ih := pcn_sub a b n
    have hle : pcn (a &&& b) n ≤ pcn b n := by rw [pcn_comm]; exact pcn_and b a n
    rw [pcn_succ, pcn_succ, Nat.testBit_and]
    constructor
    · intro h i hi
      cases ha : a.testBit n <;> cases hb : b.testBit n <;> rw [ha, hb] at h <;> simp at h
      · by_cases e : i = n
        · subst e; rw [ha, hb]; rfl
        · exact ih.mp h i (by omega)
      · omega
      · by_cases e : i = n
        · subst e; rw [ha, hb]; rfl
        · exact ih.mp h i (by omega)
      · by_cases e : i = n
        · subst e; rw [ha, hb]; rfl
        · exact ih.mp h i (by omega)
    · intro h
      have h1 := ih.mpr (fun i hi => h i (by omega))
      have h2 := h n (by omega)
      rw [h1]
      congr 1
      cases ha : a.testBit n <;> cases hb : b.testBit n <;> rw [ha, hb] at h2 <;> simp at h2 ⊢
theorem msk_0 {f : Nat → Bool} : ∀ {n : Nat}, msk f n = 0 ↔ ∀ i, i < n → f i = false
  | 0 => ⟨fun _ i hi => by omega, fun _ => rfl⟩
  | n + 1 => by
    have ih := msk_0 (f := f) (n := n)
    unfold msk
    have := Nat.two_pow_pos n
    constructor
    · intro h i hi
      by_cases hf : f n = true
      · rw [if_pos hf] at h; omega
      · rw [if_neg hf] at h
        by_cases e : i = n
        · subst e; simpa using hf
        · exact ih.mp (by omega) i (by omega)
    · intro h
      have h1 := ih.mpr (fun i hi => h i (by omega))
      rw [h1, h n (by omega)]
      rfl
theorem mxI {a b : Nat} (ha : a < 2 ^ 31) (hb : b < 2 ^ 31) : (if nI a < nI b then nI b else nI a) = nI (max a b) := by
  by_cases h : a < b
  · rw [if_pos (nI_lt h hb), Nat.max_eq_right (by omega)]
  · rw [if_neg (nI_nlt (by omega) ha), Nat.max_eq_left (by omega)]
def mxO (v : Nat → Nat → Nat) (t : Nat) (n a : Nat) : Nat := foldU (fun o a => max a (v t o)) n a
def mxT (v : Nat → Nat → Nat) (m : Nat) : Nat := foldU (fun t a => mxO v t t a) m 0
theorem mxO_lt {v : Nat → Nat → Nat} {t B : Nat} (hv : ∀ o, v t o < B) {a : Nat} (ha : a < B) : ∀ n, mxO v t n a < B
  | 0 => ha
  | n + 1 => by
    have ih := mxO_lt hv ha n
    exact Nat.max_lt.mpr ⟨ih, hv n⟩
theorem mxT_lt {v : Nat → Nat → Nat} {B : Nat} (hB : 0 < B) (hv : ∀ t o, v t o < B) : ∀ n, mxT v n < B
  | 0 => hB
  | n + 1 => mxO_lt (hv n) (mxT_lt hB hv n) n
theorem shV_lt (A : AF) (t o : Nat) : shV A t o < 13 := by
  have := pcn_le (A.sh t &&& A.sh o) 12
  unfold shV
  omega
def gmN (v : Nat → Nat) (t : Nat) : Nat → Nat
  | 0 => 0
  | i + 1 => if i = t then gmN v t i else max (gmN v t i) (v i)
def smN (v : Nat → Nat) (t : Nat) : Nat → Nat
  | 0 => 0
  | i + 1 => if i = t then smN v t i else smN v t i + v i
theorem gm_le {v : Nat → Nat} {t B : Nat} (hv : ∀ i, v i ≤ B) : ∀ n, gmN v t n ≤ B
  | 0 => Nat.zero_le _
  | n + 1 => by
    have ih := gm_le (t := t) hv n
    unfold gmN
    split
    · exact ih
    · exact Nat.max_le.mpr ⟨ih, hv n⟩
theorem sm_le {v : Nat → Nat} {t B : Nat} (hv : ∀ i, v i ≤ B) : ∀ n, smN v t n ≤ B * n
  | 0 => Nat.zero_le _
  | n + 1 => by
    have ih := sm_le (t := t) hv n
    have := hv n
    unfold smN
    rw [Nat.mul_succ]
    split <;> omega
section CLS
variable {F : VV} {A : AF} {fg : Nat → Nat} {ks : KL} {k : Nat}
theorem cq_shared (R : RelC F A fg ks) (w : AW A) (k : Nat) {t o : Nat} (ht : t < A.m) (ho : o < A.m) : M_X0_sharedBy k F (nI t) (nI o) = some (nI (shV A t o)) := by
  have h4 := w.pw
  have hs := w.sh t ht
  simp only [M_X0_sharedBy, M_X0_sharedBy_0]
  rw [R.shard w k ht, Option.bind_some, R.shard w k ho, Option.bind_some, and_nI, bc k (and_4096 (by omega)), Option.bind_some]
  rfl
theorem cq_greatest (R : RelC F A fg ks) (w : AW A) (hk : 20000 ≤ k) : M_X0_greatestShared k F = some (nI (mxT (shV A) A.m)) := by
  have hm := w.m12
  have inn : ∀ (κ : Int32 → Int32 → Option Int32) (t a : Nat), t < A.m → a < 13 → M_X0_greatestShared_14 k F κ k (nI a) (nI t) 0 = κ (nI (mxO (shV A) t t a)) (nI (t + 1)) := fun κ t a ht ha => by
    refine loop_st0 (fun n j => M_X0_greatestShared_14 k F κ n (nI (mxO (shV A) t j a)) (nI t) (nI j)) t _ (fun n j hj => ?_) (fun n => ?_) (by omega)
    · have h1 := mxO_lt (shV_lt A t) ha j
      have h2 := shV_lt A t j
      simp only [M_X0_greatestShared_14, lt_eq]
      rw [if_neg (nI_ge hj (by omega)), cq_shared R w k ht (by omega), Option.bind_some, mxI (by omega) (by omega), nI_1]
      rfl
    · simp only [M_X0_greatestShared_14]
      rw [if_pos (nI_le (Nat.le_refl _) (by omega)), nI_1]
  refine loop_st0 (fun n t => M_X0_greatestShared_4 k F n (nI (mxT (shV A) t)) (nI t)) A.m _ (fun n t ht => ?_) (fun n => ?_) (by omega)
  · simp only [M_X0_greatestShared_4]
    rw [R.s2, if_neg (nI_ge ht (by omega)), inn _ t _ ht (mxT_lt (by decide) (shV_lt A) t)]
    rfl
  · simp only [M_X0_greatestShared_4]
    rw [R.s2, if_pos (nI_le (Nat.le_refl _) (by omega))]
theorem cq_cost (R : RelC F A fg ks) (w : AW A) (hk : 20000 ≤ k) {t s : Nat} (ht : t < 12) (hs : s < 4096) : M_X0_sharingCost k F (nI t) (nI s) = some (nI (gmN (fun o => pcn (s &&& A.sh o) 12) t A.m * 100 + smN (fun o => pcn (s &&& A.sh o) 12) t A.m)) := by
  have hm := w.m12
  have hv : ∀ i, (fun o => pcn (s &&& A.sh o) 12) i ≤ 12 := fun i => pcn_le _ 12
  refine loop_st0 (fun n i => M_X0_sharingCost_8 k F n (nI t) (nI s) (nI (gmN (fun o => pcn (s &&& A.sh o) 12) t i)) (nI (smN (fun o => pcn (s &&& A.sh o) 12) t i)) (nI i)) A.m _ (fun n i hi => ?_) (fun n => ?_) (by omega)
  · have h1 := gm_le (t := t) hv i
    have h2 := hv i
    simp only [M_X0_sharingCost_8, lt_eq, gmN, smN]
    rw [R.s2, if_neg (nI_ge hi (by omega))]
    by_cases e : i = t
    · rw [if_pos (by rw [e]), if_pos e, if_pos e, nI_1]
    · rw [if_neg (fun h => e ((nI_eq (by omega) (by omega)).mp h)), if_neg e, if_neg e, R.shard w k hi, Option.bind_some, and_nI, bc k (and_4096 hs), Option.bind_some, mxI (by omega) (Nat.lt_of_le_of_lt (pcn_le _ 12) (by decide)), nI_add, nI_1]
  · simp only [M_X0_sharingCost_8]
    rw [R.s2, if_pos (nI_le (Nat.le_refl _) (by omega)), show (100 : Int32) = nI 100 from rfl, nI_mul, nI_add]
end CLS
section REF
variable {S : VV} {g : Nat} {A : AF} {mk : Nat → Nat} {ks : KL} {tk : Nat} {tkt : Nat → Nat} {k : Nat}
theorem rq_shared (R : RelM S g A mk ks tk tkt) (w : AW A) (k : Nat) {t o : Nat} (ht : t < A.m) (ho : o < A.m) : M_X10_shared k S (nI t) (nI o) = some (nI (shV A t o)) := by
  have h4 := w.pw
  have hs := w.sh t ht
  simp only [M_X10_shared, M_X10_shared_0]
  rw [(R.ofT w k ht).1, Option.bind_some, (R.ofT w k ho).1, Option.bind_some, and_nI, bc k (and_4096 (by omega)), Option.bind_some]
  rfl
theorem rq_greatest (R : RelM S g A mk ks tk tkt) (w : AW A) (hk : 20000 ≤ k) : M_X10_greatestNow k S = some (nI (mxT (shV A) A.m)) := by
  have hm := w.m12
  have inn : ∀ (κ : Int32 → Int32 → Option Int32) (t a : Nat), t < A.m → a < 13 → M_X10_greatestNow_14 k S κ k (nI a) (nI t) 0 = κ (nI (mxO (shV A) t t a)) (nI (t + 1)) := fun κ t a ht ha => by
    refine loop_st0 (fun n j => M_X10_greatestNow_14 k S κ n (nI (mxO (shV A) t j a)) (nI t) (nI j)) t _ (fun n j hj => ?_) (fun n => ?_) (by omega)
    · have h1 := mxO_lt (shV_lt A t) ha j
      have h2 := shV_lt A t j
      simp only [M_X10_greatestNow_14, lt_eq]
      rw [if_neg (nI_ge hj (by omega)), rq_shared R w k ht (by omega), Option.bind_some, mxI (by omega) (by omega), nI_1]
      rfl
    · simp only [M_X10_greatestNow_14]
      rw [if_pos (nI_le (Nat.le_refl _) (by omega)), nI_1]
  refine loop_st0 (fun n t => M_X10_greatestNow_4 k S n (nI (mxT (shV A) t)) (nI t)) A.m _ (fun n t ht => ?_) (fun n => ?_) (by omega)
  · simp only [M_X10_greatestNow_4]
    rw [R.tenants k, Option.bind_some, if_neg (nI_ge ht (by omega)), inn _ t _ ht (mxT_lt (by decide) (shV_lt A) t)]
    rfl
  · simp only [M_X10_greatestNow_4]
    rw [R.tenants k, Option.bind_some, if_pos (nI_le (Nat.le_refl _) (by omega))]
theorem rq_cost (R : RelM S g A mk ks tk tkt) (w : AW A) (hk : 20000 ≤ k) {t s : Nat} (ht : t < 12) (hs : s < 4096) : M_X10_badness k S (nI t) (nI s) = some (nI (1000 * gmN (fun o => pcn (s &&& A.sh o) 12) t A.m + smN (fun o => pcn (s &&& A.sh o) 12) t A.m)) := by
  have hm := w.m12
  have hv : ∀ i, (fun o => pcn (s &&& A.sh o) 12) i ≤ 12 := fun i => pcn_le _ 12
  refine loop_st0 (fun n i => M_X10_badness_8 k S n (nI t) (nI s) (nI (gmN (fun o => pcn (s &&& A.sh o) 12) t i)) (nI (smN (fun o => pcn (s &&& A.sh o) 12) t i)) (nI i)) A.m _ (fun n i hi => ?_) (fun n => ?_) (by omega)
  · have h1 := gm_le (t := t) hv i
    have h2 := hv i
    simp only [M_X10_badness_8, M_X10_badness_39, lt_eq, gmN, smN]
    rw [R.tenants k, Option.bind_some, if_neg (nI_ge hi (by omega))]
    by_cases e : i = t
    · rw [if_pos (by rw [e]), if_pos e, if_pos e, if_neg (nI_pos (by omega)), Int32.add_zero, nI_1]
    · rw [if_neg (fun h => e ((nI_eq (by omega) (by omega)).mp h)), if_neg e, if_neg e, (R.ofT w k hi).1, Option.bind_some, and_nI, bc k (and_4096 hs), Option.bind_some, mxI (by omega) (Nat.lt_of_le_of_lt (pcn_le _ 12) (by decide)), nI_add, nI_1]
  · simp only [M_X10_badness_8]
    rw [R.tenants k, Option.bind_some, if_pos (nI_le (Nat.le_refl _) (by omega)), show (1000 : Int32) = nI 1000 from rfl, nI_mul, nI_add]
end REF
