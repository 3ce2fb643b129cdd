-- ===== what both sides count: tenants, requests =====
theorem sumI_nI (f : Nat → Nat) : ∀ n, sumI (fun i => nI (f i)) n = nI (sumN f n)
  | 0 => rfl
  | n + 1 => by
    have ih := sumI_nI f n
    show sumI (fun i => nI (f i)) n + nI (f n) = nI (sumN f n + f n)
    rw [ih, nI_add]
theorem b1_nI (b : Bool) : b1 b = nI (if b then 1 else 0) := by cases b <;> rfl
theorem pcn_msk (f : Nat → Bool) {m : Nat} : ∀ n, n ≤ m → pcn (msk f m) n = sumN (fun i => if f i then 1 else 0) n
  | 0, _ => rfl
  | n + 1, h => by
    have ih := pcn_msk f n (m := m) (by omega)
    rw [pcn_succ, ih, msk_bit, decide_eq_true (show n < m by omega), Bool.true_and]
    rfl
theorem bc_msk (k : Nat) (f : Nat → Bool) {m : Nat} (h : m ≤ 12) : M_J6_bitCount_0f7a4 k (nI (msk f m)) = some (sumI (fun i => b1 (f i)) m) := by
  have h1 := msk_lt f m
  have h2 : 2 ^ m ≤ 4096 := Nat.pow_le_pow_right (by omega) h
  rw [bc k (by omega), pcn_12 h1 h, pcn_msk f m (Nat.le_refl _), ← sumI_nI]
  congr 1
  refine sumI_ext (fun i _ => ?_)
  exact (b1_nI (f i)).symm
section CLS
variable {F : VV} {A : AF} {fg : Nat → Nat} {ks : KL} {k : Nat}
theorem cq_cutMask (R : RelC F A fg ks) (w : AW A) (hk : 20000 ≤ k) : M_X0_cutOffMask k F = some (nI (msk (cut A) A.m)) := by
  have hm := w.m12
  refine loop_st0 (fun n i => M_X0_cutOffMask_4 k F n (nI (msk (cut A) i)) (nI i)) A.m _ (fun n i hi => ?_) (fun n => ?_) (by omega)
  · simp only [M_X0_cutOffMask_4, lt_eq]
    rw [R.s2, if_neg (nI_ge hi (by omega)), R.cut w k hi, Option.bind_some, ite_b1, nI_1, bit_nI (by omega), or_nI]
    by_cases hc : cut A i = true
    · rw [if_pos hc, msk_or hc]
    · have hc2 : cut A i = false := by simpa using hc
      rw [if_neg hc, msk_no hc2]
  · simp only [M_X0_cutOffMask_4]
    rw [R.s2, if_pos (nI_le (Nat.le_refl _) (by omega))]
end CLS
section REF
variable {S : VV} {g : Nat} {A : AF} {mk : Nat → Nat} {ks : KL} {tk : Nat} {tkt : Nat → Nat} {k : Nat}
theorem rq_isCutOff (R : RelM S g A mk ks tk tkt) (w : AW A) (hk : 20000 ≤ k) {t : Nat} (ht : t < A.m) : M_X10_isCutOff k S (nI t) = some (b1 (cut A t)) := by
  simp only [M_X10_isCutOff, M_X10_isCutOff_0]
  rw [(R.ofT w k ht).1, Option.bind_some, rq_upWorkers R w hk, Option.bind_some, andmask (w.sh t ht) w.w12]
  have hb := w.up31 (fun i => (A.sh t).testBit i && A.up i)
  rw [cut_un]
  by_cases h : msk (fun i => (A.sh t).testBit i && A.up i) A.W = 0
  · rw [h]; rfl
  · have h2 : ¬ nI (msk (fun i => (A.sh t).testBit i && A.up i) A.W) = 0 := nI_ne0 (by omega) hb
    rw [if_neg h2, show (msk (fun i => (A.sh t).testBit i && A.up i) A.W == 0) = false from beq_false_of_ne h]; rfl
theorem rq_cutOff (R : RelM S g A mk ks tk tkt) (w : AW A) (hk : 20000 ≤ k) : M_X10_cutOff k S = some (sumI (fun t => b1 (cut A t)) A.m) := by
  have hm := w.m12
  refine loop_sum (fun n a i => M_X10_cutOff_4 k S n a i) A.m _ some (fun n i a hi => ?_) (fun n a => ?_) (by omega)
  · simp only [M_X10_cutOff_4, lt_eq]
    rw [R.tenants k, Option.bind_some, if_neg (nI_ge hi (by omega)), rq_isCutOff R w hk hi, Option.bind_some, nI_1]
    cases cut A i <;> rfl
  · simp only [M_X10_cutOff_4]
    rw [R.tenants k, Option.bind_some, if_pos (nI_le (Nat.le_refl _) (by omega))]
theorem rq_shut (R : RelM S g A mk ks tk tkt) (w : AW A) (hk : 20000 ≤ k) : M_X10_shutTenants k S = some (sumI (fun t => b1 (A.qe t != -1)) A.m) := by
  have hm := w.m12
  refine loop_sum (fun n a i => M_X10_shutTenants_4 k S n a i) A.m _ some (fun n i a hi => ?_) (fun n a => ?_) (by omega)
  · simp only [M_X10_shutTenants_4, lt_eq]
    rw [R.tenants k, Option.bind_some, if_neg (nI_ge hi (by omega)), R.isOpen w k hi, Option.bind_some, nI_1]
    unfold bne
    cases (A.qe i == -1) <;> rfl
  · simp only [M_X10_shutTenants_4]
    rw [R.tenants k, Option.bind_some, if_pos (nI_le (Nat.le_refl _) (by omega))]
theorem rq_inState (R : RelM S g A mk ks tk tkt) (w : AW A) (hk : 20000 ≤ k) (x y : Int32) : M_X10_inState k S x y = some (sumI (fun r => b1 (A.Q r 4 == x && (y == -1 || A.Q r 0 == y))) A.n) := by
  have := w.n60
  refine loop_sum (fun n a i => M_X10_inState_5 k S n x y a i) A.n _ some (fun n i a hi => ?_) (fun n a => ?_) (by omega)
  · simp only [M_X10_inState_5, lt_eq]
    rw [R.requests k, Option.bind_some, if_neg (nI_ge hi (by omega)), R.q w k hi 4, Option.bind_some, R.q w k hi 0, Option.bind_some, nI_1]
    by_cases h4 : A.Q i 4 = x
    · rw [if_pos h4, beq_iff_eq.mpr h4]
      by_cases hy : y = -1
      · rw [if_pos hy, beq_iff_eq.mpr hy]; rfl
      · rw [if_neg hy, beq_false_of_ne hy]
        by_cases h0 : A.Q i 0 = y
        · rw [if_pos h0, beq_iff_eq.mpr h0]; rfl
        · rw [if_neg h0, beq_false_of_ne h0]; rfl
    · rw [if_neg h4, beq_false_of_ne h4]; rfl
  · simp only [M_X10_inState_5]
    rw [R.requests k, Option.bind_some, if_pos (nI_le (Nat.le_refl _) (by omega))]
theorem rq_madeBy (R : RelM S g A mk ks tk tkt) (w : AW A) (hk : 20000 ≤ k) (x : Int32) : M_X10_madeBy k S x = some (sumI (fun r => b1 (A.Q r 0 == x)) A.n) := by
  have := w.n60
  refine loop_sum (fun n a i => M_X10_madeBy_4 k S n x a i) A.n _ some (fun n i a hi => ?_) (fun n a => ?_) (by omega)
  · simp only [M_X10_madeBy_4, lt_eq]
    rw [R.requests k, Option.bind_some, if_neg (nI_ge hi (by omega)), R.q w k hi 0, Option.bind_some, nI_1]
    by_cases h0 : A.Q i 0 = x
    · rw [if_pos h0, beq_iff_eq.mpr h0]; rfl
    · rw [if_neg h0, beq_false_of_ne h0]; rfl
  · simp only [M_X10_madeBy_4]
    rw [R.requests k, Option.bind_some, if_pos (nI_le (Nat.le_refl _) (by omega))]
theorem rq_sharers (R : RelM S g A mk ks tk tkt) (w : AW A) (hk : 20000 ≤ k) {j : Nat} (hj : j < A.W) : M_X10_sharers k S (nI j) = some (sumI (fun t => b1 ((A.sh t).testBit j)) A.m) := by
  have hm := w.m12
  have hW := w.w12
  have h4 := w.pw
  refine loop_sum (fun n a i => M_X10_sharers_4 k S n (nI j) a i) A.m _ some (fun n i a hi => ?_) (fun n a => ?_) (by omega)
  · have hs := w.sh i hi
    simp only [M_X10_sharers_4, lt_eq]
    rw [R.tenants k, Option.bind_some, if_neg (nI_ge hi (by omega)), (R.ofT w k hi).1, Option.bind_some, has10 k (by omega) (by omega), Option.bind_some, nI_1]
    cases (A.sh i).testBit j <;> rfl
  · simp only [M_X10_sharers_4]
    rw [R.tenants k, Option.bind_some, if_pos (nI_le (Nat.le_refl _) (by omega))]
end REF
/-- queues and parked requests, in the line and among the requests -/
theorem line_queue {A : AF} (h : LI A) {j : Nat} (hj : j < A.W) : lsum (fun r => b1 (A.Q r 6 == nI j)) A.ln = sumI (fun r => b1 (A.Q r 4 == 0 && A.Q r 6 == nI j)) A.n := by
  have := h.w12
  rw [lsum_line (n := A.n) (fun r => b1 (A.Q r 6 == nI j)) (p := fun r => A.Q r 4 == 0 || A.Q r 4 == 1) h.nd (fun r => by rw [h.wt]; simp)]
  refine sumI_ext (fun r hr => ?_)
  by_cases h0 : A.Q r 4 = 0
  · rw [h0]; rfl
  · rw [show (A.Q r 4 == 0) = false from beq_false_of_ne h0]
    by_cases h1 : A.Q r 4 = 1
    · rw [h.q1 r hr h1, show ((-1 : Int32) == nI j) = false from beq_false_of_ne (fun e => m1_ne (by omega) e.symm)]
      split <;> rfl
    · rw [show (A.Q r 4 == 1) = false from beq_false_of_ne h1]; rfl
theorem line_parked {A : AF} (h : LI A) : lsum (fun r => b1 (A.Q r 6 == -1)) A.ln = sumI (fun r => b1 (A.Q r 4 == 1 && (((-1 : Int32) == -1) || A.Q r 0 == -1))) A.n := by
  have := h.w12
  rw [lsum_line (n := A.n) (fun r => b1 (A.Q r 6 == -1)) (p := fun r => A.Q r 4 == 0 || A.Q r 4 == 1) h.nd (fun r => by rw [h.wt]; simp)]
  refine sumI_ext (fun r hr => ?_)
  rw [show ((-1 : Int32) == -1) = true from rfl, Bool.true_or, Bool.and_true]
  by_cases h0 : A.Q r 4 = 0
  · obtain ⟨j, hj, hq⟩ := h.q0 r hr h0
    rw [h0, hq, show (nI j == (-1 : Int32)) = false from beq_false_of_ne (m1_ne (by omega))]; rfl
  · rw [show (A.Q r 4 == 0) = false from beq_false_of_ne h0]
    by_cases h1 : A.Q r 4 = 1
    · rw [h.q1 r hr h1, h1]; rfl
    · rw [show (A.Q r 4 == 1) = false from beq_false_of_ne h1]; rfl
