-- ===== means =====
def okD (q : UInt64) : Bool := decide (q &&& (0x7fffffffffffffff : UInt64) ≤ (0x7ff0000000000000 : UInt64)) && decide ((Op.cmpValue (FP.dcmp q q) CmpOp.l) = 0)
def okF (q : UInt32) : Bool := decide (q &&& (0x7fffffff : UInt32) ≤ (0x7f800000 : UInt32)) && okD (FP.f2d q)
def tri : Nat → Nat
  | 0 => 0
  | n + 1 => tri n + n
theorem tri_12 : ∀ m, m < 13 → tri m = m * (m - 1) / 2 ∧ tri m < 67 := by decide
theorem fp_mean : ∀ m, m < 13 → 2 ≤ m → ∀ s, s < 265 → s ≤ 4 * tri m → okD (FP.ddiv (FP.i2d (nI s)) (FP.i2d (nI (tri m)))) = true := by decide +kernel
theorem fp_served : ∀ n, n < 61 → 1 ≤ n → ∀ d, d < 61 → d ≤ n → okF (FP.fdiv (FP.i2f (nI d)) (FP.i2f (nI n))) = true := by decide +kernel
theorem fp_d0 : okD FP.dconst0 = true := by decide +kernel
theorem fp_f0 : okF FP.fconst0 = true := by decide +kernel
theorem okD_1 {q : UInt64} (h : okD q = true) : q &&& (0x7fffffffffffffff : UInt64) ≤ (0x7ff0000000000000 : UInt64) := by
  unfold okD at h
  rw [Bool.and_eq_true] at h
  exact of_decide_eq_true h.1
theorem okD_2 {q : UInt64} (h : okD q = true) : (Op.cmpValue (FP.dcmp q q) CmpOp.l) = 0 := by
  unfold okD at h
  rw [Bool.and_eq_true] at h
  exact of_decide_eq_true h.2
theorem okF_1 {q : UInt32} (h : okF q = true) : q &&& (0x7fffffff : UInt32) ≤ (0x7f800000 : UInt32) := by
  unfold okF at h
  rw [Bool.and_eq_true] at h
  exact of_decide_eq_true h.1
theorem okF_2 {q : UInt32} (h : okF q = true) : okD (FP.f2d q) = true := by
  unfold okF at h
  rw [Bool.and_eq_true] at h
  exact h.2
def smO (v : Nat → Nat → Nat) (t : Nat) (n a : Nat) : Nat := foldU (fun o a => a + v t o) n a
def smT (v : Nat → Nat → Nat) (m : Nat) : Nat := foldU (fun t a => smO v t t a) m 0
theorem smO_le {v : Nat → Nat → Nat} {t : Nat} (hv : ∀ o, v t o ≤ 4) (a : Nat) : ∀ n, smO v t n a ≤ a + 4 * n
  | 0 => Nat.le_refl _
  | n + 1 => by
    have ih := smO_le hv a n
    have := hv n
    show smO v t n a + v t n ≤ _
    omega
theorem smT_le {v : Nat → Nat → Nat} : ∀ m, (∀ t, t < m → ∀ o, v t o ≤ 4) → smT v m ≤ 4 * tri m
  | 0, _ => Nat.le_refl _
  | m + 1, hv => by
    have ih := smT_le (v := v) m (fun t ht => hv t (by omega))
    have := smO_le (v := v) (t := m) (hv m (by omega)) (smT v m) m
    show smO v m m (smT v m) ≤ 4 * (tri m + m)
    omega
def meanV (A : AF) : UInt64 := if A.m < 2 then FP.dconst0 else FP.ddiv (FP.i2d (nI (smT (shV A) A.m))) (FP.i2d (nI (tri A.m)))
theorem shV_4 {A : AF} (hp : ∀ t, t < A.m → pcn (A.sh t) 12 = A.Z) (z4 : A.Z ≤ 4) : ∀ t, t < A.m → ∀ o, shV A t o ≤ 4 := fun t ht o => by
  have h1 := pcn_and (A.sh t) (A.sh o) 12
  rw [hp t ht] at h1
  unfold shV
  omega
theorem mean_ok {A : AF} (w : AW A) (hp : ∀ t, t < A.m → pcn (A.sh t) 12 = A.Z) (z4 : A.Z ≤ 4) : okD (meanV A) = true := by
  have hm := w.m12
  unfold meanV
  by_cases h : A.m < 2
  · rw [if_pos h]; exact fp_d0
  · rw [if_neg h]
    have h1 := smT_le A.m (shV_4 hp z4)
    have h2 := (tri_12 A.m (by omega)).2
    exact fp_mean A.m (by omega) (by omega) _ (by omega) h1
theorem pairs_tri {m : Nat} (hm : m ≤ 12) : (nI m * (nI m - (1 : Int32))) / (2 : Int32) = nI (tri m) := by
  by_cases h0 : m = 0
  · subst h0; decide
  · rw [show (1 : Int32) = nI 1 from rfl, nI_sub (by omega), nI_mul, show (2 : Int32) = nI 2 from rfl]
    have : m * (m - 1) ≤ 12 * 12 := Nat.mul_le_mul hm (by omega)
    rw [nI_div (by omega) (by decide), (tri_12 m (by omega)).1]
section CLS
variable {S : VV × VV × VV × VV × VV × Int32} {A : AF} {fg : Nat → Nat} {ks : KL} {k : Nat}
theorem cq_mean (R : RelC S.1 A fg ks) (w : AW A) (hp : ∀ t, t < A.m → pcn (A.sh t) 12 = A.Z) (z4 : A.Z ≤ 4) (hk : 20000 ≤ k) : M_X9_meanOverlap k S = some (meanV A) := by
  have hm := w.m12
  have h2 := (tri_12 A.m (by omega)).2
  have hok := mean_ok w hp z4
  have h4 := shV_4 hp z4
  simp only [M_X9_meanOverlap, M_X9_meanOverlap_0, lt_eq]
  rw [R.s2, pairs_tri hm]
  by_cases hlt : A.m < 2
  · have e : tri A.m = 0 := by
      rcases (show A.m = 0 ∨ A.m = 1 by omega) with e | e <;> rw [e] <;> rfl
    unfold meanV
    rw [e, if_neg (by decide), if_pos hlt]
  · have hpos : 0 < tri A.m := by
      have : ∀ m, m < 13 → 2 ≤ m → 0 < tri m := by decide
      exact this A.m (by omega) (by omega)
    have h0 : (0 : Int32) < nI (tri A.m) := by rw [← nI_0]; exact nI_lt hpos (by omega)
    rw [if_pos h0]
    have inn : ∀ (κ : Int32 → Int32 → Int32 → Option UInt64) (t a : Nat), t < A.m → M_X9_meanOverlap_44 k S κ k (nI (tri A.m)) (nI a) (nI t) 0 = κ (nI (tri A.m)) (nI (smO (shV A) t t a)) (nI (t + 1)) := fun κ t a ht => by
      refine loop_st0 (fun n j => M_X9_meanOverlap_44 k S κ n (nI (tri A.m)) (nI (smO (shV A) t j a)) (nI t) (nI j)) t _ (fun n j hj => ?_) (fun n => ?_) (by omega)
      · simp only [M_X9_meanOverlap_44, lt_eq]
        rw [if_neg (nI_ge hj (by omega)), cq_shared R w k ht (by omega), Option.bind_some, nI_add, nI_1]
        rfl
      · simp only [M_X9_meanOverlap_44]
        rw [if_pos (nI_le (Nat.le_refl _) (by omega)), nI_1]
    refine loop_st0 (fun n t => M_X9_meanOverlap_30 k S n (nI (tri A.m)) (nI (smT (shV A) t)) (nI t)) A.m _ (fun n t ht => ?_) (fun n => ?_) (by omega)
    · simp only [M_X9_meanOverlap_30]
      rw [R.s2, if_neg (nI_ge ht (by omega)), inn _ t _ ht]
      rfl
    · have e : meanV A = FP.ddiv (FP.i2d (nI (smT (shV A) A.m))) (FP.i2d (nI (tri A.m))) := if_neg hlt
      rw [e] at hok
      simp only [M_X9_meanOverlap_30]
      rw [R.s2, if_pos (nI_le (Nat.le_refl _) (by omega)), if_pos (okD_1 hok), e]
end CLS
section REF
variable {S : VV} {g : Nat} {A : AF} {mk : Nat → Nat} {ks : KL} {tk : Nat} {tkt : Nat → Nat} {k : Nat}
theorem rq_mean (R : RelM S g A mk ks tk tkt) (w : AW A) (hp : ∀ t, t < A.m → pcn (A.sh t) 12 = A.Z) (z4 : A.Z ≤ 4) (hk : 20000 ≤ k) : M_X10_meanOverlap_23 k k 0 (nI (tri A.m)) 0 S = some (meanV A, S) := by
  have hm := w.m12
  have h2 := (tri_12 A.m (by omega)).2
  have hok := mean_ok w hp z4
  have inn : ∀ (κ : Int32 → Int32 → Int32 → VV → Option (UInt64 × VV)) (t a : Nat), t < A.m → M_X10_meanOverlap_34 k κ k (nI a) (nI (tri A.m)) (nI t) 0 S = κ (nI (smO (shV A) t t a)) (nI (tri A.m)) (nI (t + 1)) S := fun κ t a ht => by
    refine loop_st0 (fun n j => M_X10_meanOverlap_34 k κ n (nI (smO (shV A) t j a)) (nI (tri A.m)) (nI t) (nI j) S) t _ (fun n j hj => ?_) (fun n => ?_) (by omega)
    · simp only [M_X10_meanOverlap_34, lt_eq]
      rw [if_neg (nI_ge hj (by omega)), rq_shared R w k ht (by omega), Option.bind_some, nI_add, nI_1]
      rfl
    · simp only [M_X10_meanOverlap_34]
      rw [if_pos (nI_le (Nat.le_refl _) (by omega)), nI_1]
  refine loop_st0 (fun n t => M_X10_meanOverlap_23 k n (nI (smT (shV A) t)) (nI (tri A.m)) (nI t) S) A.m _ (fun n t ht => ?_) (fun n => ?_) (by omega)
  · simp only [M_X10_meanOverlap_23]
    rw [R.tenants k, Option.bind_some, if_neg (nI_ge ht (by omega)), inn _ t _ ht]
    rfl
  · simp only [M_X10_meanOverlap_23]
    rw [R.tenants k, Option.bind_some, if_pos (nI_le (Nat.le_refl _) (by omega))]
    by_cases hlt : A.m < 2
    · have e : tri A.m = 0 := by
        rcases (show A.m = 0 ∨ A.m = 1 by omega) with e | e <;> rw [e] <;> rfl
      unfold meanV
      rw [e, if_pos (by rfl), if_pos hlt]
    · have hpos : 0 < tri A.m := by
        have : ∀ m, m < 13 → 2 ≤ m → 0 < tri m := by decide
        exact this A.m (by omega) (by omega)
      have e : meanV A = FP.ddiv (FP.i2d (nI (smT (shV A) A.m))) (FP.i2d (nI (tri A.m))) := if_neg hlt
      rw [e] at hok
      rw [if_neg (nI_ne0 hpos (by omega)), if_pos (okD_1 hok), e]
end REF
def doneN (A : AF) : Nat := sumN (fun r => if A.Q r 4 == 2 then 1 else 0) A.n
theorem doneN_I (A : AF) : sumI (fun r => b1 (A.Q r 4 == 2)) A.n = nI (doneN A) := by
  unfold doneN
  rw [← sumI_nI]
  exact sumI_ext (fun r _ => b1_nI _)
theorem doneN_le (A : AF) : doneN A ≤ A.n := by
  have := sumN_le (f := fun r => if A.Q r 4 == 2 then 1 else 0) (n := A.n) (c := 1) (fun i _ => by split <;> omega)
  unfold doneN
  omega
def servV (A : AF) : UInt32 := if A.n = 0 then FP.fconst0 else FP.fdiv (FP.i2f (nI (doneN A))) (FP.i2f (nI A.n))
theorem serv_ok {A : AF} (w : AW A) : okF (servV A) = true := by
  have hn := w.n60
  have hd := doneN_le A
  unfold servV
  by_cases h : A.n = 0
  · rw [if_pos h]; exact fp_f0
  · rw [if_neg h]
    exact fp_served A.n (by omega) (by omega) _ (by omega) hd
theorem cq_served {S : VV × VV × VV × VV × VV × Int32} {A : AF} {fg : Nat → Nat} {ks : KL} {k : Nat} (R : RelC S.1 A fg ks) (w : AW A) (hk : 20000 ≤ k) : M_X9_served k S = some (servV A) := by
  have hn := w.n60
  have hok := serv_ok w
  simp only [M_X9_served, M_X9_served_0]
  rw [R.s3]
  by_cases h : A.n = 0
  · unfold servV
    rw [if_pos h, h, if_neg (by decide)]
  · have h0 : (0 : Int32) < nI A.n := by rw [← nI_0]; exact nI_lt (by omega) (by omega)
    have e : servV A = FP.fdiv (FP.i2f (nI (doneN A))) (FP.i2f (nI A.n)) := if_neg h
    rw [e] at hok
    rw [if_pos h0, cq_done R w hk, Option.bind_some, doneN_I, if_pos (okF_1 hok), e]
theorem rq_served {S : VV} {g : Nat} {A : AF} {mk : Nat → Nat} {ks : KL} {tk : Nat} {tkt : Nat → Nat} {k : Nat} (R : RelM (va_up S 0 (upd (S 0) 1 0)) g A mk ks tk tkt) (w : AW A) (hk : 20000 ≤ k) : M_X10_served k S = some (servV A, va_up S 0 (upd (S 0) 1 0)) := by
  have hn := w.n60
  have hok := serv_ok w
  simp only [M_X10_served, M_X10_served_0, lt_eq]
  rw [R.requests k, Option.bind_some]
  by_cases h : A.n = 0
  · unfold servV
    rw [if_pos h, h, if_pos (by rfl)]
  · have e : servV A = FP.fdiv (FP.i2f (nI (doneN A))) (FP.i2f (nI A.n)) := if_neg h
    rw [e] at hok
    have e2 : sumI (fun r => b1 (A.Q r 4 == 2 && ((-1 : Int32) == -1 || A.Q r 0 == -1))) A.n = nI (doneN A) := by
      rw [← doneN_I]
      refine sumI_ext (fun r _ => ?_)
      rw [show ((-1 : Int32) == -1) = true from rfl, Bool.true_or, Bool.and_true]
    rw [if_neg (nI_ne0 (by omega) (by omega)), rq_inState R w hk, Option.bind_some, Option.bind_some, e2, if_pos (okF_1 hok), e]
