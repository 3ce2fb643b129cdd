-- ===== what both sides count: kills =====
def kpP (x y : Int32) (z : Nat × Nat × Nat) : Bool := (x == -1 || nI z.2.1 == x) && (y == -1 || nI z.2.2 == y)
theorem countP_take {α : Type} (p : α → Bool) (l : List α) {i : Nat} (h : i < l.length) : (l.take (i + 1)).countP p = (l.take i).countP p + (if p l[i] then 1 else 0) := by
  rw [List.take_succ_eq_append_getElem h, List.countP_append, List.countP_singleton]
section REF
variable {S : VV} {g : Nat} {A : AF} {mk : Nat → Nat} {ks : KL} {tk : Nat} {tkt : Nat → Nat} {k : Nat}
theorem RelM.kill (R : RelM S g A mk ks tk tkt) (k : Nat) {i c : Nat} (hi : i < 360) (hc : c < 3) {x : Int32} (hx : x = nI c) : M_X10_ofKill k S (nI i) x = some (S g (612 + 3 * i + c)) := by
  unfold M_X10_ofKill M_X10_ofKill_0
  have e : (612 : Int32) + (3 : Int32) * nI i + x = nI (612 + 3 * i + c) := by rw [hx, show (612 : Int32) = nI 612 from rfl, show (3 : Int32) = nI 3 from rfl, nI_mul, nI_add, nI_add]
  rw [gG R.gs, ifin e (by omega), e, nI_clamp (by omega)]
theorem rq_kills (R : RelM S g A mk ks tk tkt) (hl : ks.length ≤ 360) (hk : 20000 ≤ k) (x y : Int32) : M_X10_kills k S x y = some (nI (ks.countP (kpP x y))) := by
  have c11 : Int32.toNatClampNeg 11 = 11 := by decide
  have key := loop_st0 (fun n i => M_X10_kills_5 k S n x y (nI ((ks.take i).countP (kpP x y))) (nI i)) ks.length (some (nI (ks.countP (kpP x y)))) (fun n i hi => by
    have ht := RelM.kill R k (i := i) (c := 1) (x := 1) (by omega) (by decide) rfl
    have hw := RelM.kill R k (i := i) (c := 2) (x := 2) (by omega) (by decide) rfl
    rw [(R.ki i hi).2.1] at ht
    rw [(R.ki i hi).2.2] at hw
    have e0 : ∀ c, kpP x y ks[i] = false → c = (ks.take i).countP (kpP x y) → M_X10_kills_38 k S (M_X10_kills_5 k S n) x y (nI c) (nI i) 0 = M_X10_kills_5 k S n x y (nI ((ks.take (i + 1)).countP (kpP x y))) (nI (i + 1)) := fun c hf hc => by
      simp only [M_X10_kills_38, lt_eq]
      rw [if_pos trivial, Int32.add_zero, nI_1, countP_take _ _ hi, hf, hc]
      rfl
    have e1 : ∀ c, (x == -1 || nI ks[i].2.1 == x) = true → c = (ks.take i).countP (kpP x y) → M_X10_kills_38 k S (M_X10_kills_5 k S n) x y (nI c) (nI i) 1 = M_X10_kills_5 k S n x y (nI ((ks.take (i + 1)).countP (kpP x y))) (nI (i + 1)) := fun c hf hc => by
      have hkp : kpP x y ks[i] = (y == -1 || nI ks[i].2.2 == y) := by unfold kpP; rw [hf, Bool.true_and]
      simp only [M_X10_kills_38, lt_eq]
      rw [if_neg (by decide), nI_1, nI_1, countP_take _ _ hi, hkp, hc]
      by_cases hy : y = -1
      · rw [if_pos hy, beq_iff_eq.mpr hy]; rfl
      · rw [if_neg hy, hw, Option.bind_some, beq_false_of_ne hy]
        by_cases h2 : nI ks[i].2.2 = y
        · rw [if_pos h2, beq_iff_eq.mpr h2]; rfl
        · rw [if_neg h2, beq_false_of_ne h2, Int32.add_zero]; rfl
    simp only [M_X10_kills_5]
    rw [gG R.gs, ifin (i := 11) (x := 11) rfl (by decide), c11, R.s11, if_neg (nI_ge hi (by omega))]
    by_cases hx : x = -1
    · rw [if_pos hx]
      exact e1 _ (by rw [beq_iff_eq.mpr hx]; rfl) rfl
    · rw [if_neg hx, ht, Option.bind_some]
      by_cases h1 : nI ks[i].2.1 = x
      · rw [if_pos h1]
        exact e1 _ (by rw [beq_iff_eq.mpr h1, Bool.or_true]) rfl
      · rw [if_neg h1]
        refine e0 _ ?_ rfl
        unfold kpP
        rw [beq_false_of_ne hx, beq_false_of_ne h1]
        rfl) (fun n => by
    simp only [M_X10_kills_5]
    rw [gG R.gs, ifin (i := 11) (x := 11) rfl (by decide), c11, R.s11, if_pos (nI_le (Nat.le_refl _) (by omega)), List.take_length]) (fuel := k) (by omega)
  exact key
end REF
theorem eqI {a b : Nat} (ha : a < 2 ^ 31) (hb : b < 2 ^ 31) : (nI a == nI b) = (a == b) := by
  by_cases h : a = b
  · subst h; simp
  · rw [show (a == b) = false from beq_false_of_ne h]
    exact beq_false_of_ne (fun e => h ((nI_eq ha hb).mp e))
theorem m1I {a : Nat} (ha : a < 2 ^ 31) : (nI a == (-1 : Int32)) = false := beq_false_of_ne (m1_ne ha)
/-- all kills are of tenants and workers in range -/
def KB (ks : KL) : Prop := ∀ z, z ∈ ks → z.2.1 < 12 ∧ z.2.2 < 12
theorem kp_pair {ks : KL} (h : KB ks) {t w : Nat} (ht : t < 12) (hw : w < 12) : ks.countP (kpP (nI t) (nI w)) = cntK ks t w := by
  unfold cntK
  refine List.countP_congr (fun z hz => ?_)
  obtain ⟨h1, h2⟩ := h z hz
  unfold kpP
  rw [m1I (by omega), m1I (by omega), eqI (by omega) (by omega), eqI (by omega) (by omega)]
  simp
theorem kp_ten {ks : KL} (h : KB ks) {t : Nat} (ht : t < 12) : ks.countP (kpP (nI t) (-1)) = ks.countP (fun z => z.2.1 == t) := by
  refine List.countP_congr (fun z hz => ?_)
  obtain ⟨h1, h2⟩ := h z hz
  unfold kpP
  rw [m1I (by omega), eqI (by omega) (by omega)]
  simp
theorem kp_wor {ks : KL} (h : KB ks) {w : Nat} (hw : w < 12) : ks.countP (kpP (-1) (nI w)) = ks.countP (fun z => z.2.2 == w) := by
  refine List.countP_congr (fun z hz => ?_)
  obtain ⟨h1, h2⟩ := h z hz
  unfold kpP
  rw [m1I (a := w) (by omega), eqI (by omega) (by omega)]
  simp
theorem sumN_ind (P : Prop) [Decidable P] (a : Nat) : ∀ n, sumN (fun j => if P ∧ a = j then 1 else 0) n = if P ∧ a < n then 1 else 0
  | 0 => by simp [sumN]
  | n + 1 => by
    have ih := sumN_ind P a n
    rw [sumN, ih]
    by_cases hP : P
    · by_cases e : a = n
      · subst e; simp [hP]
      · by_cases hl : a < n
        · rw [if_pos ⟨hP, hl⟩, if_neg (fun h => e h.2), if_pos ⟨hP, by omega⟩]
        · rw [if_neg (fun h => hl h.2), if_neg (fun h => e h.2), if_neg (fun h => by omega)]
    · rw [if_neg (fun h => hP h.1), if_neg (fun h => hP h.1), if_neg (fun h => hP h.1)]
theorem cntK_cons (z : Nat × Nat × Nat) (ks : KL) (t w : Nat) : cntK (z :: ks) t w = cntK ks t w + (if z.2.1 = t ∧ z.2.2 = w then 1 else 0) := by
  unfold cntK
  rw [List.countP_cons]
  congr 1
  by_cases h : z.2.1 = t ∧ z.2.2 = w
  · rw [if_pos h]; simp [h]
  · rw [if_neg h]
    have : (z.2.1 == t && z.2.2 == w) = false := by
      rw [Bool.and_eq_false_iff]
      by_cases h1 : z.2.1 = t
      · exact Or.inr (beq_false_of_ne (fun h2 => h ⟨h1, h2⟩))
      · exact Or.inl (beq_false_of_ne h1)
    rw [this]; rfl
theorem cnt_ten : ∀ {ks : KL}, KB ks → ∀ t, sumN (fun j => cntK ks t j) 12 = ks.countP (fun z => z.2.1 == t)
  | [], _, t => by
    have : ∀ n, sumN (fun _ => 0) n = 0 := fun n => by
      induction n with
      | zero => rfl
      | succ n ih => rw [sumN, ih]
    exact this 12
  | z :: ks, h, t => by
    have ih := cnt_ten (ks := ks) (fun x hx => h x (List.mem_cons_of_mem _ hx)) t
    have hz := h z List.mem_cons_self
    rw [List.countP_cons, ← ih, sumN_ext (g := fun j => cntK ks t j + (if z.2.1 = t ∧ z.2.2 = j then 1 else 0)) (fun j _ => cntK_cons z ks t j), sumN_add, sumN_ind]
    congr 1
    by_cases h1 : z.2.1 = t
    · rw [if_pos ⟨h1, hz.2⟩, if_pos (by simpa using h1)]
    · rw [if_neg (fun h => h1 h.1), if_neg (by simpa using h1)]
theorem cnt_wor : ∀ {ks : KL}, KB ks → ∀ w, sumN (fun t => cntK ks t w) 12 = ks.countP (fun z => z.2.2 == w)
  | [], _, w => by
    have : ∀ n, sumN (fun _ => 0) n = 0 := fun n => by
      induction n with
      | zero => rfl
      | succ n ih => rw [sumN, ih]
    exact this 12
  | z :: ks, h, w => by
    have ih := cnt_wor (ks := ks) (fun x hx => h x (List.mem_cons_of_mem _ hx)) w
    have hz := h z List.mem_cons_self
    rw [List.countP_cons, ← ih, sumN_ext (g := fun t => cntK ks t w + (if z.2.2 = w ∧ z.2.1 = t then 1 else 0)) (fun t _ => (cntK_cons z ks t w).trans (by
      congr 1
      by_cases h1 : z.2.1 = t ∧ z.2.2 = w
      · rw [if_pos h1, if_pos ⟨h1.2, h1.1⟩]
      · rw [if_neg h1, if_neg (fun h => h1 ⟨h.2, h.1⟩)])), sumN_add, sumN_ind]
    congr 1
    by_cases h1 : z.2.2 = w
    · rw [if_pos ⟨h1, hz.1⟩, if_pos (by simpa using h1)]
    · rw [if_neg (fun h => h1 h.1), if_neg (by simpa using h1)]
theorem sumN_top {f : Nat → Nat} {n : Nat} (h : ∀ i, n ≤ i → f i = 0) : ∀ d, sumN f (n + d) = sumN f n
  | 0 => rfl
  | d + 1 => by
    have ih := sumN_top h d
    show sumN f (n + d) + f (n + d) = _
    rw [ih, h _ (by omega)]
    rfl
def kpairs (ks : KL) (m W : Nat) : Nat := sumN (fun t => sumN (fun w => if 0 < cntK ks t w then 1 else 0) W) m
theorem kpairs_12 {ks : KL} {m W : Nat} (hm : m ≤ 12) (hW : W ≤ 12) (h : ∀ z, z ∈ ks → z.2.1 < m ∧ z.2.2 < W) : kpairs ks 12 12 = kpairs ks m W := by
  have z0 : ∀ t w, (m ≤ t ∨ W ≤ w) → cntK ks t w = 0 := fun t w hh => by
    unfold cntK
    refine List.countP_eq_zero.mpr (fun z hz => ?_)
    obtain ⟨h1, h2⟩ := h z hz
    rw [Bool.and_eq_true, beq_iff_eq, beq_iff_eq]
    omega
  have e1 : ∀ t, sumN (fun w => if 0 < cntK ks t w then 1 else 0) 12 = sumN (fun w => if 0 < cntK ks t w then 1 else 0) W := fun t => by
    have := sumN_top (f := fun w => if 0 < cntK ks t w then 1 else 0) (n := W) (fun i hi => by rw [z0 t i (Or.inr hi)]; rfl) (12 - W)
    rw [show W + (12 - W) = 12 by omega] at this
    exact this
  unfold kpairs
  rw [sumN_ext (fun t _ => e1 t)]
  have := sumN_top (f := fun t => sumN (fun w => if 0 < cntK ks t w then 1 else 0) W) (n := m) (fun i hi => by
    show sumN (fun w => if 0 < cntK ks i w then 1 else 0) W = 0
    rw [sumN_ext (g := fun _ => 0) (fun w _ => by rw [z0 i w (Or.inl hi)]; rfl)]
    have : ∀ n, sumN (fun _ => 0) n = 0 := fun n => by
      induction n with
      | zero => rfl
      | succ n ih => rw [sumN, ih]
    exact this W) (12 - m)
  rw [show m + (12 - m) = 12 by omega] at this
  exact this
section CLS
variable {F : VV} {A : AF} {fg : Nat → Nat} {ks : KL} {k : Nat}
theorem cq_pairs (R : RelC F A fg ks) (hl : ks.length ≤ 360) (hk : 20000 ≤ k) : M_X3_pairsThatKilled k (klF F) = some (nI (kpairs ks 12 12)) := by
  have inn : ∀ (κ : Int32 → Int32 → Option Int32) (t a : Nat), t < 12 → M_X3_pairsThatKilled_12 k (klF F) κ k (nI a) (nI t) 0 = κ (nI (a + sumN (fun w => if 0 < cntK ks t w then 1 else 0) 12)) (nI (t + 1)) := fun κ t a ht => by
    refine loop_st0 (fun n j => M_X3_pairsThatKilled_12 k (klF F) κ n (nI (a + sumN (fun w => if 0 < cntK ks t w then 1 else 0) j)) (nI t) (nI j)) 12 _ (fun n j hj => ?_) (fun n => ?_) (by omega)
    · have h0 : ¬ (12 : Int32) ≤ nI j := nI_ge hj (by decide)
      have hc : cntK ks t j ≤ 360 := Nat.le_trans (List.countP_le_length) hl
      simp only [M_X3_pairsThatKilled_12]
      rw [if_neg h0, TK_atI k ht hj, Option.bind_some, nI_1, nI_1, show klF F 3 (t * 12 + j) = F 9 (t * 12 + j) from rfl, R.kp t j ht hj]
      show _ = M_X3_pairsThatKilled_12 k (klF F) κ n (nI (a + (sumN (fun w => if 0 < cntK ks t w then 1 else 0) j + (if 0 < cntK ks t j then 1 else 0)))) (nI t) (nI (j + 1))
      by_cases hp : 0 < cntK ks t j
      · rw [if_neg (nI_nle hp (by omega)), if_pos hp]; rfl
      · rw [if_neg hp, show cntK ks t j = 0 by omega, if_pos (by decide)]; rfl
    · simp only [M_X3_pairsThatKilled_12]
      rw [nI_1]
      exact if_pos (nI_le (Nat.le_refl 12) (by decide))
  refine loop_st0 (fun n t => M_X3_pairsThatKilled_4 k (klF F) n (nI (kpairs ks t 12)) (nI t)) 12 _ (fun n t ht => ?_) (fun n => ?_) (by omega)
  · have h0 : ¬ (12 : Int32) ≤ nI t := nI_ge ht (by decide)
    simp only [M_X3_pairsThatKilled_4]
    rw [if_neg h0, inn _ t _ ht]
    rfl
  · simp only [M_X3_pairsThatKilled_4]
    exact if_pos (nI_le (Nat.le_refl 12) (by decide))
end CLS
section REF
variable {S : VV} {A : AF} {mk : Nat → Nat} {ks : KL} {tk : Nat} {tkt : Nat → Nat} {k : Nat}
theorem rq_pairs (R : RelM S 1 A mk ks tk tkt) (w : AW A) (hl : ks.length ≤ 360) (hb : KB ks) (hk : 20000 ≤ k) : M_X10_killingPairs_9 k k 0 0 S = some (nI (kpairs ks A.m A.W), S) := by
  have hm := w.m12
  have hW := w.w12
  have inn : ∀ (κ : Int32 → Int32 → VV → Option (Int32 × VV)) (t a : Nat), t < A.m → M_X10_killingPairs_19 k κ k (nI a) (nI t) 0 S = κ (nI (a + sumN (fun w => if 0 < cntK ks t w then 1 else 0) A.W)) (nI (t + 1)) S := fun κ t a ht => by
    refine loop_st0 (fun n j => M_X10_killingPairs_19 k κ n (nI (a + sumN (fun w => if 0 < cntK ks t w then 1 else 0) j)) (nI t) (nI j) S) A.W _ (fun n j hj => ?_) (fun n => ?_) (by omega)
    · have hc : cntK ks t j ≤ 360 := Nat.le_trans (List.countP_le_length) hl
      simp only [M_X10_killingPairs_19, lt_eq]
      rw [R.workers k, Option.bind_some, if_neg (nI_ge hj (by omega)), rq_kills R hl hk, Option.bind_some, kp_pair hb (by omega) (by omega), nI_1, nI_1]
      show _ = M_X10_killingPairs_19 k κ n (nI (a + (sumN (fun w => if 0 < cntK ks t w then 1 else 0) j + (if 0 < cntK ks t j then 1 else 0)))) (nI t) (nI (j + 1)) S
      by_cases hp : 0 < cntK ks t j
      · rw [if_neg (nI_nle hp (by omega)), if_pos hp]; rfl
      · rw [if_neg hp, show cntK ks t j = 0 by omega, if_pos (by decide), Int32.add_zero]; rfl
    · simp only [M_X10_killingPairs_19]
      rw [R.workers k, Option.bind_some, if_pos (nI_le (Nat.le_refl _) (by omega)), nI_1]
  refine loop_st0 (fun n t => M_X10_killingPairs_9 k n (nI (kpairs ks t A.W)) (nI t) S) A.m _ (fun n t ht => ?_) (fun n => ?_) (by omega)
  · simp only [M_X10_killingPairs_9]
    rw [R.tenants k, Option.bind_some, if_neg (nI_ge ht (by omega)), inn _ t _ ht]
    rfl
  · simp only [M_X10_killingPairs_9]
    rw [R.tenants k, Option.bind_some, if_pos (nI_le (Nat.le_refl _) (by omega))]
end REF
