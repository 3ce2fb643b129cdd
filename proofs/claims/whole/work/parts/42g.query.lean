-- ===== behind an error =====
section QERR
variable {K U : VV} {k : Nat}
theorem e_cmpT {c : Int32} (er : ER K U c) (hk : 20000 ≤ k) (F : VV) (φ : VV → Option VV) : M_X4_comparison k K F = some (0, K) ∧ cmpR k φ U = some U := by
  obtain ⟨w1, w2⟩ := e_val er hk
  unfold cmpR
  simp only [M_X4_comparison, M_X4_comparison_0]
  constructor
  · rw [w1, Option.bind_some]
    show ((M_X7_is k K 48).bind _) = _
    rw [e_is er, Option.bind_some]
    show ((M_X7_is k K 49).bind _) = _
    rw [e_is er, Option.bind_some, if_pos rfl, if_pos rfl]
    show ((M_X7_take k K 50).bind _) = _
    rw [e_take er, Option.bind_some, w1, Option.bind_some]
    exact e_54 er hk _ _ _ _
  · rw [w2, Option.bind_some, e_isS er, Option.bind_some, if_pos rfl, e_isS er, Option.bind_some, if_pos rfl, f121_b, e_isS er, Option.bind_some, if_pos rfl, f143, e_check er, Option.bind_some, e_adv er, Option.bind_some, w2, Option.bind_some, e_emit er.un, Option.bind_some]
theorem e_testT {c : Int32} (er : ER K U c) (hk : 20000 ≤ k) (F : VV) : M_X4_testT k K F 0 = some (0, K) ∧ M_X10_compileTestT k U = some U := by
  obtain ⟨w1, w2⟩ := e_cmpT er hk F (fac10 k 7)
  have f1 : fac4 k 8 K F 0 = some (0, K) := by
    show ((M_X7_is k K 37).bind fun q9 => if q9 = 0 then ((M_X7_is k K 38).bind fun q11 => if q11 = 0 then ((M_X4_comparison k K F).bind fun q13 => some (q13.1, q13.2)) else (M_X4_factor_26 k (fac4 k 7) F 0 q9 K)) else (M_X4_factor_26 k (fac4 k 7) F 0 q9 K)) = some (0, K)
    rw [e_is er, Option.bind_some, if_pos rfl, e_is er, Option.bind_some, if_pos rfl, w1, Option.bind_some]
  have f2 : fac10 k 8 U = some U := by
    refine (cf_eq k (fac10 k 7) U).trans ?_
    rw [e_isW er hk, Option.bind_some, if_pos rfl, e_isS er, Option.bind_some, if_pos rfl, w2]
  have z := q_err (F := F) (φ := fac4 k 8) (ψ := fac10 k 8) (P := fun U => some U) hk er rfl (n := k) (n1 := k) (n2 := k) (by omega) (by omega) (by omega) 0 0 0 0
  have h7 : M_X7_is k ((0 : Int64), K).2 53 = some 0 := e_is er 53
  constructor
  · show ((fac4 k 8 K F 0).bind fun q12 => (M_X7_is k q12.2 53).bind fun q13 => M_X4_test_21 k (fac4 k 8) F k 0 0 q12.1 q13 0 q12.2) = some (0, K)
    rw [f1, Option.bind_some, h7, Option.bind_some]
    refine z.1.trans ?_
    rw [show (0 : Int64) ||| 0 = 0 by decide]
  · show ((fac10 k 8 U).bind fun q5 => M_X10_compileConjunction_4 k (fac10 k 8) k q5).bind (fun q4 => M_X10_compileTest_4 k (fac10 k 8) k q4) = some U
    rw [f2, Option.bind_some]
    exact z.2
end QERR
-- ===== all requests are held against the codes =====
section Q124
variable {k n : Nat} {U : VV} {f : Nat → Bool}
theorem r_many (hn : n ≤ 60) (hr : ∀ U', (∀ j, j ≠ 10 → U' j = U j) → M_X10_requests k U' = some (nI n)) (hh : ∀ i, i < n → ∀ U', (∀ j, j ≠ 10 → U' j = U j) → ∃ U2, M_X10_holdsFor k U' (nI i) = some (b1 (f i), U2) ∧ ∀ j, j ≠ 10 → U2 j = U j) : ∀ m i U', i + m = n → (∀ j, j ≠ 10 → U' j = U j) → ∀ fuel, m < fuel → ∃ U2, M_X10_query_124 k fuel 0 (nI (pcn (msk f n) i)) (nI i) U' = some (nI (pcn (msk f n) n), U2) ∧ ∀ j, j ≠ 10 → U2 j = U j := by
  intro m
  induction m with
  | zero =>
    intro i U' hi ag fuel hf
    obtain ⟨g, rfl⟩ : ∃ g, fuel = g + 1 := ⟨fuel - 1, by omega⟩
    have hi : i = n := by omega
    subst hi
    refine ⟨U', ?_, ag⟩
    rw [M_X10_query_124_s, hr U' ag, Option.bind_some, if_pos (Int32.le_refl _), if_pos rfl]
  | succ m ih =>
    intro i U' hi ag fuel hf
    obtain ⟨g, rfl⟩ : ∃ g, fuel = g + 1 := ⟨fuel - 1, by omega⟩
    have hin : i < n := by omega
    obtain ⟨U2, e1, ag2⟩ := hh i hin U' ag
    have hs := pcn_succ (msk f n) i
    rw [msk_bit, decide_eq_true hin, Bool.true_and] at hs
    rw [M_X10_query_124_s, hr U' ag, Option.bind_some, if_neg (nI_ge hin (by omega)), e1, Option.bind_some]
    have ih := ih (i + 1) U2 (by omega) ag2 g (by omega)
    cases hf : f i with
    | true =>
      rw [hf, if_pos rfl] at hs
      rw [hs] at ih
      rw [if_neg (show ¬ b1 true = 0 by decide), if_pos rfl, nI_1, nI_1]
      exact ih
    | false =>
      rw [hf, if_neg (by decide), Nat.add_zero] at hs
      rw [hs] at ih
      rw [if_pos (show b1 false = 0 by decide), nI_1]
      exact ih
theorem r_first (hn : n ≤ 60) (hr : ∀ U', (∀ j, j ≠ 10 → U' j = U j) → M_X10_requests k U' = some (nI n)) (hh : ∀ i, i < n → ∀ U', (∀ j, j ≠ 10 → U' j = U j) → ∃ U2, M_X10_holdsFor k U' (nI i) = some (b1 (f i), U2) ∧ ∀ j, j ≠ 10 → U2 j = U j) : ∀ m i U', i + m = n → (∀ j, j ≠ 10 → U' j = U j) → (∀ j, j < i → f j = false) → ∀ fuel, m < fuel → ∃ U2 v, M_X10_query_124 k fuel 1 0 (nI i) U' = some (v, U2) ∧ (∀ j, j ≠ 10 → U2 j = U j) ∧ ((∃ t, t < n ∧ f t = true ∧ (∀ j, j < t → f j = false) ∧ v = nI t) ∨ ((∀ j, j < n → f j = false) ∧ v = -1)) := by
  intro m
  induction m with
  | zero =>
    intro i U' hi ag hno fuel hf
    obtain ⟨g, rfl⟩ : ∃ g, fuel = g + 1 := ⟨fuel - 1, by omega⟩
    have hi : i = n := by omega
    subst hi
    refine ⟨U', -1, ?_, ag, Or.inr ⟨hno, rfl⟩⟩
    rw [M_X10_query_124_s, hr U' ag, Option.bind_some, if_pos (Int32.le_refl _), if_neg (show ¬ (1 : Int32) = 0 by decide)]
  | succ m ih =>
    intro i U' hi ag hno fuel hf
    obtain ⟨g, rfl⟩ : ∃ g, fuel = g + 1 := ⟨fuel - 1, by omega⟩
    have hin : i < n := by omega
    obtain ⟨U2, e1, ag2⟩ := hh i hin U' ag
    rw [M_X10_query_124_s, hr U' ag, Option.bind_some, if_neg (nI_ge hin (by omega)), e1, Option.bind_some]
    cases hf : f i with
    | true =>
      refine ⟨U2, nI i, ?_, ag2, Or.inl ⟨i, hin, hf, hno, rfl⟩⟩
      rw [if_neg (show ¬ b1 true = 0 by decide), if_neg (show ¬ (1 : Int32) = 0 by decide)]
    | false =>
      rw [if_pos (show b1 false = 0 by decide), nI_1]
      exact ih (i + 1) U2 (by omega) ag2 (fun j hj => by
        by_cases e : j = i
        · rw [e]; exact hf
        · exact hno j (by omega)) g (by omega)
/-- how many, and the first of a set -/
theorem c_many (k : Nat) (hn : n ≤ 60) : M_J13_bitCount_95d88 k (lI (msk f n)) = some (nI (pcn (msk f n) n)) := by
  have h1 := msk_lt f n
  have h2 : 2 ^ n ≤ 2 ^ 60 := Nat.pow_le_pow_right (by decide) hn
  have h3 := pcn_top h1 (64 - n)
  rw [show n + (64 - n) = 64 by omega] at h3
  rw [bc64 k (Nat.lt_of_lt_of_le h1 h2), h3]
theorem c_first0 (h : ∀ j, j < n → f j = false) : lI (msk f n) = 0 := by
  have : msk f n = 0 := by
    apply Nat.eq_of_testBit_eq
    intro i
    rw [msk_bit, Nat.zero_testBit]
    by_cases hi : i < n
    · rw [h i hi, Bool.and_false]
    · rw [decide_eq_false hi, Bool.false_and]
  rw [this]
  rfl
theorem c_first (k : Nat) (hn : n ≤ 60) {t : Nat} (ht : t < n) (hf : f t = true) (hl : ∀ j, j < t → f j = false) : ¬ lI (msk f n) = 0 ∧ M_J13_numberOfTrailingZeros_95d88 k (lI (msk f n)) = some (nI t) := by
  have h1 := msk_lt f n
  have h2 : 2 ^ n ≤ 2 ^ 60 := Nat.pow_le_pow_right (by decide) hn
  have hb : (msk f n).testBit t = true := by rw [msk_bit, decide_eq_true ht, hf]; rfl
  refine ⟨lI_ne0 (fun e => ?_) (by omega), low64 k (by omega) (by omega) hb (fun i hi => by rw [msk_bit, hl i hi, Bool.and_false])⟩
  rw [e, Nat.zero_testBit] at hb
  cases hb
end Q124
theorem r_startQ {X : VV} {b : Nat → Int32} {L s e κ k : Nat} (hk : 20000 ≤ k) (hb : ∀ i, i < L → X 8 i = b i) (t : NXT b L 0 s e κ) : ∃ U, M_X10_startText k X (nI L) = some U ∧ UC U b L s e κ ∧ U 0 11 = 0 ∧ U 0 14 = 0 ∧ (∀ j, j ≠ 0 → U j = X j) ∧ ∀ c, c ≠ 7 → c ≠ 8 → c ≠ 9 → c ≠ 10 → c ≠ 11 → c ≠ 14 → U 0 c = X 0 c := by
  obtain ⟨U, a1, uc, u3, u4⟩ := r_scan (k := k) (U := va_up X 0 (upd (upd (upd (upd (X 0) 7 (nI L)) 8 0) 11 0) 14 0)) hk rfl rfl hb t
  refine ⟨U, ?_, uc, u4 11 (by decide) (by decide) (by decide), u4 14 (by decide) (by decide) (by decide), fun j hj => (u3 j hj).trans (vaN _ _ hj), fun c h7 h8 h9 h10 h11 h14 => ?_⟩
  · show (M_X10_scan k (va_up (va_up (va_up (va_up X 0 (upd (X 0) 7 (nI L))) 0 (upd (upd (X 0) 7 (nI L)) 8 0)) 0 (upd (upd (upd (X 0) 7 (nI L)) 8 0) 11 0)) 0 (upd (upd (upd (upd (X 0) 7 (nI L)) 8 0) 11 0) 14 0))).bind (fun q5 => some q5) = some U
    rw [va_up_up, va_up_up, va_up_up, a1, Option.bind_some]
  · refine (u4 c h8 h9 h10).trans ?_
    show upd (upd (upd (upd (X 0) 7 (nI L)) 8 0) 11 0) 14 0 c = X 0 c
    rw [upd_ne _ _ h14, upd_ne _ _ h11, upd_ne _ _ h8, upd_ne _ _ h7]
theorem RelM.mv1 {U U' : VV} {A : AF} {mk : Nat → Nat} {ks : KL} {tk : Nat} {tkt : Nat → Nat} (M : RelM U 1 A mk ks tk tkt) (h3 : U' 0 3 = U 0 3) (h2 : U' 1 = U 1) : RelM U' 1 A mk ks tk tkt :=
  RelM.ofs (gs := ⟨by
      have := M.gs.sel
      unfold gsel at this ⊢
      rw [h3]
      exact this, rfl⟩) (s0 := by rw [h2]; exact M.s0) (s1 := by rw [h2]; exact M.s1) (s2 := by rw [h2]; exact M.s2) (s3 := by rw [h2]; exact M.s3) (s4 := by rw [h2]; exact M.s4) (se := fun i hi => by rw [h2]; exact M.se i hi) (s10 := by rw [h2]; exact M.s10) (s11 := by rw [h2]; exact M.s11) (wo := fun j hj => by rw [h2]; exact M.wo j hj) (te := fun t ht => by rw [h2]; exact M.te t ht) (rq := fun r c hr hc => by rw [h2]; exact M.rq r c hr hc) (ti := fun r hr => by rw [h2]; exact M.ti r hr) (ki := fun i hi => by rw [h2]; exact M.ki i hi)
theorem rng_min (k : Nat) {n : Nat} (hn : n ≤ 700) (p : Int32) : (∃ L, L ≤ 200 ∧ L ≤ n ∧ p = nI L ∧ M_X10_inRange k p 0 (if (200 : Int32) < nI n then 200 else nI n) = some 1) ∨ ((p < 0 ∨ (¬ p < 0 ∧ ((200 : Int32) < p ∨ (¬ (200 : Int32) < p ∧ ¬ p ≤ nI n)))) ∧ M_X10_inRange k p 0 (if (200 : Int32) < nI n then 200 else nI n) = some 0) := by
  have hm : (if (200 : Int32) < nI n then (200 : Int32) else nI n) = nI (min n 200) := by
    by_cases h : 200 < n
    · have h1 : (200 : Int32) < nI n := nI_lt (a := 200) h (by omega)
      rw [if_pos h1, Nat.min_eq_right (by omega)]
      rfl
    · have h1 : ¬ (200 : Int32) < nI n := nI_nlt (a := 200) (by omega) (by decide)
      rw [if_neg h1, Nat.min_eq_left (by omega)]
  rw [hm]
  simp only [M_X10_inRange, M_X10_inRange_0]
  by_cases hp : p < 0
  · right
    rw [if_pos hp]
    exact ⟨Or.inl hp, rfl⟩
  rw [if_neg hp]
  obtain ⟨L, hL, rfl⟩ := nI_of hp
  by_cases h2 : L ≤ min n 200
  · left
    refine ⟨L, by omega, by omega, rfl, ?_⟩
    rw [if_neg (nI_nlt h2 (by omega))]
  · right
    rw [if_pos (nI_lt (by omega) hL)]
    refine ⟨Or.inr ⟨hp, ?_⟩, rfl⟩
    by_cases h3 : 200 < L
    · exact Or.inl (nI_lt (a := 200) h3 hL)
    · exact Or.inr ⟨nI_nlt (a := 200) (by omega) (by decide), nI_ge (by omega) hL⟩
