-- ===== the best shard, covered tenants, means =====
theorem bestOf_cg {ld ld' : Nat → Int32} {c : Nat → Bool} : ∀ {n : Nat}, (∀ a b, a < n → b < n → c a = true → c b = true → (ld a ≤ ld b ↔ ld' a ≤ ld' b)) → bestOf ld c n = bestOf ld' c n
  | 0, _ => rfl
  | n + 1, h => by
    have ih := bestOf_cg (c := c) (ld := ld) (ld' := ld') (n := n) (fun a b ha hb => h a b (by omega) (by omega))
    unfold bestOf
    rw [ih]
    by_cases hc : c n = true
    · rw [if_pos hc, if_pos hc]
      cases hb : bestOf ld' c n with
      | none => rfl
      | some b =>
        obtain ⟨h1, h2⟩ := bestOf_some hb
        show (if ld b ≤ ld n then some b else some n) = (if ld' b ≤ ld' n then some b else some n)
        by_cases hl : ld b ≤ ld n
        · rw [if_pos hl, if_pos ((h b n (by omega) (by omega) h2 hc).mp hl)]
        · rw [if_neg hl, if_neg (fun e => hl ((h b n (by omega) (by omega) h2 hc).mpr e))]
    · rw [if_neg hc, if_neg hc]
def ovl (A : AF) (s o : Nat) : Nat := pcn (s &&& A.sh o) 12
def ldC (A : AF) (t s : Nat) : Int32 := nI (gmN (ovl A s) t A.m * 100 + smN (ovl A s) t A.m)
def ldR (A : AF) (t s : Nat) : Int32 := nI (1000 * gmN (ovl A s) t A.m + smN (ovl A s) t A.m)
def okS (A : AF) (s : Nat) : Bool := pcn s 12 == A.Z
theorem best_same {A : AF} (w : AW A) (z4 : A.Z ≤ 4) (t n : Nat) : bestOf (ldC A t) (okS A) n = bestOf (ldR A t) (okS A) n := by
  have hm := w.m12
  refine bestOf_cg (fun a b _ _ ha hb => ?_)
  have bnd : ∀ s, okS A s = true → gmN (ovl A s) t A.m ≤ 4 ∧ smN (ovl A s) t A.m < 100 := fun s hs => by
    have hs : pcn s 12 = A.Z := beq_iff_eq.mp hs
    have hv : ∀ i, ovl A s i ≤ 4 := fun i => Nat.le_trans (pcn_and s (A.sh i) 12) (by omega)
    have h1 := gm_le (t := t) hv A.m
    have h2 := sm_le (t := t) hv A.m
    exact ⟨h1, by omega⟩
  obtain ⟨a1, a2⟩ := bnd a ha
  obtain ⟨b1, b2⟩ := bnd b hb
  unfold ldC ldR
  rw [nI_leI (by omega) (by omega), nI_leI (by omega) (by omega)]
  omega
section CLS
variable {F : VV} {A : AF} {fg : Nat → Nat} {ks : KL} {k : Nat}
theorem cq_allWorkers (R : RelC F A fg ks) (w : AW A) (k : Nat) : M_X0_allWorkers k F = some (nI (2 ^ A.W - 1)) := by
  have hW := w.w12
  have := Nat.two_pow_pos A.W
  simp only [M_X0_allWorkers, M_X0_allWorkers_0]
  rw [R.s0, bit_nI (by omega), show (1 : Int32) = nI 1 from rfl, nI_sub (by omega)]
theorem cq_best (R : RelC F A fg ks) (w : AW A) (hk : 20000 ≤ k) {t : Nat} (ht : t < A.m) : M_X0_leastSharedShard k F (nI t) = some (oI (bestOf (ldC A t) (okS A) (2 ^ A.W))) := by
  have hm := w.m12
  have h4 := w.pw
  have hp := Nat.two_pow_pos A.W
  have hZ := w.zw
  have hW := w.w12
  refine loop_st0 (fun n i => M_X0_leastSharedShard_7 k F n (nI t) (oI (bestOf (ldC A t) (okS A) i)) (oL (ldC A t) (bestOf (ldC A t) (okS A) i)) (nI i)) (2 ^ A.W) _ (fun n i hi => ?_) (fun n => ?_) (by omega)
  · simp only [M_X0_leastSharedShard_7]
    rw [cq_allWorkers R w, Option.bind_some, if_neg (nI_nlt (by omega) (by omega)), bc k (by omega), Option.bind_some, R.s1, nI_1]
    have hpc := pcn_le i 12
    by_cases hc : pcn i 12 = A.Z
    · have hok : okS A i = true := beq_iff_eq.mpr hc
      rw [if_pos (by rw [hc]), cq_cost R w hk (by omega) (by omega), Option.bind_some]
      show (if oI (bestOf (ldC A t) (okS A) i) = -1 then M_X0_leastSharedShard_7 k F n (nI t) (nI i) (ldC A t i) (nI (i + 1)) else if oL (ldC A t) (bestOf (ldC A t) (okS A) i) ≤ ldC A t i then _ else M_X0_leastSharedShard_7 k F n (nI t) (nI i) (ldC A t i) (nI (i + 1))) = _
      have e : bestOf (ldC A t) (okS A) (i + 1) = (match bestOf (ldC A t) (okS A) i with | none => some i | some b => if ldC A t b ≤ ldC A t i then some b else some i) := by rw [bestOf, if_pos hok]; rfl
      cases hb : bestOf (ldC A t) (okS A) i with
      | none =>
        rw [hb] at e
        rw [e, if_pos (by rfl)]
        rfl
      | some b =>
        rw [hb] at e
        have e : bestOf (ldC A t) (okS A) (i + 1) = if ldC A t b ≤ ldC A t i then some b else some i := e
        obtain ⟨h1, h2⟩ := bestOf_some hb
        have hne : ¬ oI (some b) = -1 := m1_ne (by omega)
        rw [e, if_neg hne]
        show (if ldC A t b ≤ ldC A t i then _ else _) = _
        by_cases hl : ldC A t b ≤ ldC A t i
        · rw [if_pos hl, if_pos hl]
        · rw [if_neg hl, if_neg hl]; rfl
    · have hok : ¬ okS A i = true := fun e => hc (beq_iff_eq.mp e)
      rw [if_neg (fun e => hc ((nI_eq (by omega) (by omega)).mp e)), bestOf, if_neg hok]
  · simp only [M_X0_leastSharedShard_7]
    rw [cq_allWorkers R w, Option.bind_some, if_pos (nI_lt (by omega) (by omega))]
end CLS
theorem sub_test {a b : Nat} (ha : a < 4096) (hb : b < 4096) : (nI b &&& (nI a ^^^ (-1 : Int32)) = 0) ↔ pcn (a &&& b) 12 = pcn b 12 := by
  have h := andnot_msk (f := fun i => b.testBit i) (g := fun i => a.testBit i) (n := 12) (by decide)
  rw [msk_of (show b < 2 ^ 12 by omega), msk_of (show a < 2 ^ 12 by omega)] at h
  rw [h, pcn_sub, ← msk_0]
  have hl := msk_lt (fun i => b.testBit i && !a.testBit i) 12
  constructor
  · intro e
    by_cases h0 : msk (fun i => b.testBit i && !a.testBit i) 12 = 0
    · exact h0
    · exact absurd e (nI_ne0 (by omega) (by omega))
  · intro e
    rw [e]; rfl
def cvN (A : AF) (t : Nat) : Nat → Nat
  | 0 => 0
  | i + 1 => cvN A t i + (if i = t then 0 else if shV A t i = A.Z then 1 else 0)
section CLS
variable {S : VV × VV × VV × VV × VV × Int32} {A : AF} {fg : Nat → Nat} {ks : KL} {k : Nat}
theorem cq_covered (R : RelC S.1 A fg ks) (w : AW A) (hp : ∀ t, t < A.m → pcn (A.sh t) 12 = A.Z) (hk : 20000 ≤ k) {t : Nat} (ht : t < A.m) : M_X9_covered_19 k S k (nI t) (nI (A.sh t)) 0 0 = some (0, nI (cvN A t A.m)) := by
  have hm := w.m12
  have h4 := w.pw
  have hst := w.sh t ht
  refine loop_st0 (fun n i => M_X9_covered_19 k S n (nI t) (nI (A.sh t)) (nI (cvN A t i)) (nI i)) A.m _ (fun n i hi => ?_) (fun n => ?_) (by omega)
  · have hs := w.sh i hi
    simp only [M_X9_covered_19, cvN]
    rw [R.s2, if_neg (nI_ge hi (by omega)), nI_1, nI_1]
    by_cases e : i = t
    · rw [if_pos (by rw [e]), if_pos e]; rfl
    · rw [if_neg (fun h => e ((nI_eq (by omega) (by omega)).mp h)), if_neg e, R.shard w k hi, Option.bind_some]
      have hst := sub_test (a := A.sh t) (b := A.sh i) (by omega) (by omega)
      rw [hp i hi] at hst
      by_cases hc : shV A t i = A.Z
      · rw [if_pos (hst.mpr hc), if_pos hc]
      · rw [if_neg (fun h => hc (hst.mp h)), if_neg hc]; rfl
  · simp only [M_X9_covered_19]
    rw [R.s2, if_pos (nI_le (Nat.le_refl _) (by omega))]
end CLS
section REF
variable {S : VV} {A : AF} {mk : Nat → Nat} {ks : KL} {tk : Nat} {tkt : Nat → Nat} {k : Nat}
theorem rq_covered (R : RelM S 1 A mk ks tk tkt) (w : AW A) (hk : 20000 ≤ k) {t : Nat} (ht : t < A.m) : M_X10_covered_23 k k (nI t) 0 0 S = some (nI (cvN A t A.m), S) := by
  have hm := w.m12
  have c1 : Int32.toNatClampNeg 1 = 1 := by decide
  have hZ := w.zw
  have hW := w.w12
  refine loop_st0 (fun n i => M_X10_covered_23 k n (nI t) (nI (cvN A t i)) (nI i) S) A.m _ (fun n i hi => ?_) (fun n => ?_) (by omega)
  · have hv := shV_lt A t i
    simp only [M_X10_covered_23, cvN, lt_eq]
    rw [R.tenants k, Option.bind_some, if_neg (nI_ge hi (by omega)), nI_1, nI_1]
    by_cases e : i = t
    · rw [if_pos (by rw [e]), if_pos e, Int32.add_zero]; rfl
    · rw [if_neg (fun h => e ((nI_eq (by omega) (by omega)).mp h)), if_neg e, rq_shared R w k ht hi, Option.bind_some, ifin (i := 1) (x := 1) rfl (by decide), c1, R.s1]
      by_cases hc : shV A t i = A.Z
      · rw [if_pos (by rw [hc]), if_pos hc]
      · rw [if_neg (fun h => hc ((nI_eq (by omega) (by omega)).mp h)), if_neg hc, Int32.add_zero]; rfl
  · simp only [M_X10_covered_23]
    rw [R.tenants k, Option.bind_some, if_pos (nI_le (Nat.le_refl _) (by omega))]
theorem rq_best (R : RelM S 1 A mk ks tk tkt) (w : AW A) (z4 : A.Z ≤ 4) (hk : 20000 ≤ k) {t : Nat} (ht : t < A.m) : M_X10_bestShard_23 k k (nI t) (-1) 1 S = some (oI (bestOf (ldC A t) (okS A) (2 ^ A.W)), S) := by
  have hm := w.m12
  have h4 := w.pw
  have hp := Nat.two_pow_pos A.W
  have hZ := w.zw
  have hz1 := w.z1
  have hW := w.w12
  have c1 : Int32.toNatClampNeg 1 = 1 := by decide
  rw [best_same w z4]
  have key := loop_st (fun n i => M_X10_bestShard_23 k n (nI t) (oI (bestOf (ldR A t) (okS A) i)) (nI i) S) (2 ^ A.W) (some (oI (bestOf (ldR A t) (okS A) (2 ^ A.W)), S)) (fun n i hi => by
    simp only [M_X10_bestShard_23]
    rw [R.workers k, Option.bind_some, bit_nI (by omega), if_neg (nI_ge hi (by omega)), bc k (by omega), Option.bind_some, ifin (i := 1) (x := 1) rfl (by decide), c1, R.s1, nI_1]
    have hpc := pcn_le i 12
    by_cases hc : pcn i 12 = A.Z
    · have hok : okS A i = true := beq_iff_eq.mpr hc
      rw [if_pos (by rw [hc]), rq_cost R w hk (by omega) (by omega), Option.bind_some]
      have e : bestOf (ldR A t) (okS A) (i + 1) = (match bestOf (ldR A t) (okS A) i with | none => some i | some b => if ldR A t b ≤ ldR A t i then some b else some i) := by rw [bestOf, if_pos hok]; rfl
      cases hb : bestOf (ldR A t) (okS A) i with
      | none =>
        rw [hb] at e
        rw [e, if_pos (by rfl)]
        rfl
      | some b =>
        rw [hb] at e
        have e : bestOf (ldR A t) (okS A) (i + 1) = if ldR A t b ≤ ldR A t i then some b else some i := e
        obtain ⟨h1, h2⟩ := bestOf_some hb
        have hne : ¬ oI (some b) = -1 := m1_ne (by omega)
        rw [e, if_neg hne]
        show ((M_X10_badness k S (nI t) (nI b)).bind _) = _
        rw [rq_cost R w hk (by omega) (by omega), Option.bind_some]
        show (if ldR A t b ≤ ldR A t i then _ else _) = _
        by_cases hl : ldR A t b ≤ ldR A t i
        · rw [if_pos hl, if_pos hl]
        · rw [if_neg hl, if_neg hl]; rfl
    · have hok : ¬ okS A i = true := fun e => hc (beq_iff_eq.mp e)
      rw [if_neg (fun e => hc ((nI_eq (by omega) (by omega)).mp e)), bestOf, if_neg hok]) (fun n => by
    simp only [M_X10_bestShard_23]
    rw [R.workers k, Option.bind_some, bit_nI (by omega), if_pos (nI_le (Nat.le_refl _) (by omega))]) (2 ^ A.W - 1) 1 (by omega) k (by omega)
  have e1 : bestOf (ldR A t) (okS A) 1 = none := bestOf_none.mpr (fun i hi => by
    have : i = 0 := by omega
    subst this
    unfold okS
    exact beq_false_of_ne (by
      have : pcn 0 12 = 0 := by decide
      omega))
  rw [e1] at key
  exact key
end REF
