-- ===== what the class counts =====
section CLS
variable {F : VV} {A : AF} {fg : Nat → Nat} {ks : KL} {k : Nat}
theorem cq_quarantined (R : RelC F A fg ks) (w : AW A) (hk : 20000 ≤ k) : M_X0_quarantined k F = some (sumI (fun t => b1 (A.qe t != -1)) A.m) := by
  have := w.m12
  refine loop_sum (fun n a i => M_X0_quarantined_4 k F n a i) A.m _ some (fun n i a hi => ?_) (fun n a => ?_) (by omega)
  · simp only [M_X0_quarantined_4]
    rw [R.s2, if_neg (nI_ge hi (by omega)), R.quar w k hi, Option.bind_some, ite_b1, nI_1, ← add_b1]
    split <;> rfl
  · simp only [M_X0_quarantined_4]
    rw [R.s2, if_pos (nI_le (Nat.le_refl _) (by omega))]
theorem cq_tenantsOn (R : RelC F A fg ks) (w : AW A) (hk : 20000 ≤ k) {j : Nat} (hj : j < A.W) : M_X0_tenantsOn k F (nI j) = some (sumI (fun t => b1 ((A.sh t).testBit j)) A.m) := by
  have := w.m12
  have := w.w12
  refine loop_sum (fun n a i => M_X0_tenantsOn_4 k F n (nI j) a i) A.m _ some (fun n i a hi => ?_) (fun n a => ?_) (by omega)
  · simp only [M_X0_tenantsOn_4]
    have h1 := w.sh i hi
    have h2 := w.pw
    rw [R.s2, if_neg (nI_ge hi (by omega)), R.shard w k hi, Option.bind_some, has0 k (by omega) (by omega), Option.bind_some, nI_1, ← add_b1]
    cases (A.sh i).testBit j <;> rfl
  · simp only [M_X0_tenantsOn_4]
    rw [R.s2, if_pos (nI_le (Nat.le_refl _) (by omega))]
theorem cq_requestsOf (R : RelC F A fg ks) (w : AW A) (hk : 20000 ≤ k) (x : Int32) : M_X0_requestsOf k F x = some (sumI (fun r => b1 (A.Q r 0 == x)) A.n) := by
  have := w.n60
  refine loop_sum (fun n a i => M_X0_requestsOf_4 k F n x a i) A.n _ some (fun n i a hi => ?_) (fun n a => ?_) (by omega)
  · simp only [M_X0_requestsOf_4]
    rw [R.s3, if_neg (nI_ge hi (by omega)), R.q w k hi 0, Option.bind_some, nI_1, ← add_b1]
    by_cases h : A.Q i 0 = x
    · rw [if_pos h, beq_iff_eq.mpr h]; rfl
    · rw [if_neg h, beq_false_of_ne h]; rfl
  · simp only [M_X0_requestsOf_4]
    rw [R.s3, if_pos (nI_le (Nat.le_refl _) (by omega))]
theorem cq_requestsOf2 (R : RelC F A fg ks) (w : AW A) (hk : 20000 ≤ k) (x y : Int32) : M_X0_requestsOf_ k F x y = some (sumI (fun r => b1 (A.Q r 0 == x && A.Q r 4 == y)) A.n) := by
  have := w.n60
  refine loop_sum (fun n a i => M_X0_requestsOf__5 k F n x y a i) A.n _ some (fun n i a hi => ?_) (fun n a => ?_) (by omega)
  · simp only [M_X0_requestsOf__5]
    rw [R.s3, if_neg (nI_ge hi (by omega)), R.q w k hi 0, Option.bind_some, R.q w k hi 4, Option.bind_some, nI_1, ← add_b1]
    by_cases h : A.Q i 0 = x
    · rw [if_pos h, beq_iff_eq.mpr h]
      by_cases h2 : A.Q i 4 = y
      · rw [if_pos h2, beq_iff_eq.mpr h2]; rfl
      · rw [if_neg h2, beq_false_of_ne h2]; rfl
    · rw [if_neg h, beq_false_of_ne h]; rfl
  · simp only [M_X0_requestsOf__5]
    rw [R.s3, if_pos (nI_le (Nat.le_refl _) (by omega))]
theorem cq_done (R : RelC F A fg ks) (w : AW A) (hk : 20000 ≤ k) : M_X0_done k F = some (sumI (fun r => b1 (A.Q r 4 == 2)) A.n) := by
  have := w.n60
  refine loop_sum (fun n a i => M_X0_done_4 k F n a i) A.n _ some (fun n i a hi => ?_) (fun n a => ?_) (by omega)
  · simp only [M_X0_done_4]
    rw [R.s3, if_neg (nI_ge hi (by omega)), R.q w k hi 4, Option.bind_some, nI_1, ← add_b1]
    by_cases h : A.Q i 4 = 2
    · rw [if_pos h, beq_iff_eq.mpr h]; rfl
    · rw [if_neg h, beq_false_of_ne h]; rfl
  · simp only [M_X0_done_4]
    rw [R.s3, if_pos (nI_le (Nat.le_refl _) (by omega))]
theorem cq_queueLength (R : RelC F A fg ks) (w : AW A) (l : AL A) (hk : 20000 ≤ k) (x : Int32) : M_X0_queueLength k F x = some (lsum (fun r => b1 (A.Q r 6 == x)) A.ln) := by
  have hl := l.len w
  rw [← sumI_get]
  refine loop_sum (fun n a i => M_X0_queueLength_4 k F n x a i) A.ln.length _ some (fun n i a hi => ?_) (fun n a => ?_) (by omega)
  · simp only [M_X0_queueLength_4]
    rw [R.s6, if_neg (nI_ge hi (by omega)), R.ln w l k hi, Option.bind_some, R.q w k (l.get hi) 6, Option.bind_some, nI_1, ← add_b1]
    by_cases h : A.Q (A.ln.getD i 0) 6 = x
    · rw [if_pos h, beq_iff_eq.mpr h]; rfl
    · rw [if_neg h, beq_false_of_ne h]; rfl
  · simp only [M_X0_queueLength_4]
    rw [R.s6, if_pos (nI_le (Nat.le_refl _) (by omega))]
def lload (A : AF) (x : Int32) : Int32 := lsum (fun r => if A.Q r 6 = x then A.Q r 2 else 0) A.ln
theorem cq_loadOf (R : RelC F A fg ks) (w : AW A) (l : AL A) (hk : 20000 ≤ k) (x : Int32) : M_X0_loadOf k F x = some (lload A x) := by
  have hl := l.len w
  unfold lload
  rw [← sumI_get]
  refine loop_sum (fun n a i => M_X0_loadOf_4 k F n x a i) A.ln.length _ some (fun n i a hi => ?_) (fun n a => ?_) (by omega)
  · simp only [M_X0_loadOf_4, lt_eq]
    rw [R.s6, if_neg (nI_ge hi (by omega)), R.ln w l k hi, Option.bind_some, R.q w k (l.get hi) 6, Option.bind_some, nI_1, Option.bind_some, R.q w k (l.get hi) 2, Option.bind_some]
    by_cases h : A.Q (A.ln.getD i 0) 6 = x
    · rw [if_pos h, if_pos h]
    · rw [if_neg h, if_neg h, Int32.add_zero]
  · simp only [M_X0_loadOf_4]
    rw [R.s6, if_pos (nI_le (Nat.le_refl _) (by omega))]
/-- the kills: all of a tenant, all of a worker -/
theorem cq_ofTenant (R : RelC F A fg ks) (hk : 20000 ≤ k) {t : Nat} (ht : t < 12) : M_X3_ofTenant k (klF F) (nI t) = some (sumI (fun j => nI (cntK ks t j)) 12) := by
  refine loop_sum (fun n a i => M_X3_ofTenant_4 k (klF F) n (nI t) a i) 12 _ some (fun n i a hi => ?_) (fun n a => ?_) (by omega)
  · simp only [M_X3_ofTenant_4, lt_eq]
    have h0 : ¬ (12 : Int32) ≤ nI i := nI_ge hi (by decide)
    rw [if_neg h0, TK_atI k ht hi, Option.bind_some, nI_1, show klF F 3 (t * 12 + i) = F 9 (t * 12 + i) from rfl, R.kp t i ht hi]
  · simp only [M_X3_ofTenant_4]
    exact if_pos (nI_le (Nat.le_refl 12) (by decide))
theorem cq_ofWorker (R : RelC F A fg ks) (hk : 20000 ≤ k) {j : Nat} (hj : j < 12) : M_X3_ofWorker k (klF F) (nI j) = some (sumI (fun t => nI (cntK ks t j)) 12) := by
  refine loop_sum (fun n a i => M_X3_ofWorker_4 k (klF F) n (nI j) a i) 12 _ some (fun n i a hi => ?_) (fun n a => ?_) (by omega)
  · simp only [M_X3_ofWorker_4, lt_eq]
    have h0 : ¬ (12 : Int32) ≤ nI i := nI_ge hi (by decide)
    rw [if_neg h0, TK_atI k hi hj, Option.bind_some, nI_1, show klF F 3 (i * 12 + j) = F 9 (i * 12 + j) from rfl, R.kp i j hi hj]
  · simp only [M_X3_ofWorker_4]
    exact if_pos (nI_le (Nat.le_refl 12) (by decide))
/-- the first of a line with some mark, at a place or after it -/
theorem cq_waiting0 (R : RelC F A fg ks) (w : AW A) (l : AL A) (hk : 20000 ≤ k) (x : Int32) : M_X0_waitingAt k F x 0 = some (match A.ln.find? (fun r => A.Q r 6 == x) with | some r => nI r | none => -1) := by
  have hl := l.len w
  have : ∀ m i, i + m = A.ln.length → ∀ fuel, m < fuel → M_X0_waitingAt_5 k F fuel x 0 (nI i) = some (match (A.ln.drop i).find? (fun r => A.Q r 6 == x) with | some r => nI r | none => -1) := by
    intro m
    induction m with
    | zero =>
      intro i hi fuel hf
      obtain ⟨g, rfl⟩ : ∃ g, fuel = g + 1 := ⟨fuel - 1, by omega⟩
      simp only [M_X0_waitingAt_5]
      rw [R.s6, if_pos (nI_le (by omega) (by omega)), List.drop_eq_nil_of_le (by omega)]
      rfl
    | succ m ih =>
      intro i hi fuel hf
      obtain ⟨g, rfl⟩ : ∃ g, fuel = g + 1 := ⟨fuel - 1, by omega⟩
      have hil : i < A.ln.length := by omega
      simp only [M_X0_waitingAt_5]
      rw [R.s6, if_neg (nI_ge hil (by omega)), if_neg (by decide), R.ln w l k hil, Option.bind_some, R.q w k (l.get hil) 6, Option.bind_some, List.drop_eq_getElem_cons hil, List.find?_cons]
      rw [getD_lt hil]
      by_cases h : A.Q A.ln[i] 6 = x
      · rw [if_pos h, if_pos trivial, beq_iff_eq.mpr h]
      · rw [if_neg h, beq_false_of_ne h, nI_1]
        exact ih (i + 1) (by omega) g (by omega)
  have h := this A.ln.length 0 (by omega) k (by omega)
  rw [nI_0, List.drop_zero] at h
  exact h
end CLS
