-- ===== the reference: loads, the next one, routes =====
def TO (A : AF) (tk : Nat) (tkt : Nat → Nat) : Prop := (A.ln.Pairwise (fun a b => tkt a < tkt b)) ∧ (∀ r, r ∈ A.ln → tkt r < tk)
theorem TO.so {A : AF} {tk : Nat} {tkt : Nat → Nat} (R__ : TO A tk tkt) : A.ln.Pairwise (fun a b => tkt a < tkt b) := R__.1
theorem TO.lt {A : AF} {tk : Nat} {tkt : Nat → Nat} (R__ : TO A tk tkt) : ∀ r, r ∈ A.ln → tkt r < tk := R__.2
theorem TO.ofs {A : AF} {tk : Nat} {tkt : Nat → Nat} (so : A.ln.Pairwise (fun a b => tkt a < tkt b)) (lt : ∀ r, r ∈ A.ln → tkt r < tk) : TO A tk tkt := ⟨so, lt⟩
section REF
variable {S : VV} {g : Nat} {A : AF} {mk : Nat → Nat} {ks : KL} {tk : Nat} {tkt : Nat → Nat} {k : Nat}
theorem rq_loadOf (R : RelM S g A mk ks tk tkt) (w : AW A) (hk : 20000 ≤ k) (j : Nat) : M_X10_loadOf k S (nI j) = some (rload A j) := by
  have := w.n60
  refine loop_sum (fun n a i => M_X10_loadOf_4 k S n (nI j) a i) A.n _ some (fun n i a hi => ?_) (fun n a => ?_) (by omega)
  · simp only [M_X10_loadOf_4, lt_eq]
    rw [R.requests k, Option.bind_some, if_neg (nI_ge hi (by omega)), R.isIn w k hi, Option.bind_some, nI_1, R.q w k hi 2, Option.bind_some]
    by_cases h1 : A.Q i 4 = 0
    · by_cases h2 : A.Q i 6 = nI j
      · rw [if_pos (c := A.Q i 4 = 0 ∧ A.Q i 6 = nI j) ⟨h1, h2⟩, h1, h2]; simp [b1]
      · rw [if_neg (c := A.Q i 4 = 0 ∧ A.Q i 6 = nI j) (fun e => h2 e.2), h1, beq_false_of_ne h2]; simp [b1]
    · rw [if_neg (c := A.Q i 4 = 0 ∧ A.Q i 6 = nI j) (fun e => h1 e.1), beq_false_of_ne h1]; simp [b1]
  · simp only [M_X10_loadOf_4]
    rw [R.requests k, Option.bind_some, if_pos (nI_le (Nat.le_refl _) (by omega))]
theorem rq_countIn (R : RelM S g A mk ks tk tkt) (w : AW A) (hk : 20000 ≤ k) (x y : Int32) : M_X10_countIn k S x y = some (sumI (fun r => b1 (A.Q r 4 == x && A.Q r 6 == y)) A.n) := by
  have := w.n60
  refine loop_sum (fun n a i => M_X10_countIn_5 k S n x y a i) A.n _ some (fun n i a hi => ?_) (fun n a => ?_) (by omega)
  · simp only [M_X10_countIn_5, lt_eq]
    rw [R.requests k, Option.bind_some, if_neg (nI_ge hi (by omega)), R.isIn w k hi, Option.bind_some, nI_1]
    cases (A.Q i 4 == x && A.Q i 6 == y) <;> rfl
  · simp only [M_X10_countIn_5]
    rw [R.requests k, Option.bind_some, if_pos (nI_le (Nat.le_refl _) (by omega))]
/-- the one of least ticket among those that count -/
theorem rq_nextB (R : RelM S g A mk ks tk tkt) (w : AW A) (hk : 20000 ≤ k) (x y : Int32) {tic : Nat} (htic : tic < 2 ^ 31) (ht31 : ∀ r, r < A.n → A.Q r 4 = x → tkt r < 2 ^ 31) :
    M_X10_next k S x y (nI tic) = some (oI (bestOf (fun r => nI (tkt r)) (fun r => A.Q r 4 == x && A.Q r 6 == y && decide (tic ≤ tkt r)) A.n)) := by
  have h60 := w.n60
  have key : ∀ m i, i + m = A.n → ∀ fuel, m < fuel → M_X10_next_6 k S fuel x y (nI tic) (oI (bestOf (fun r => nI (tkt r)) (fun r => A.Q r 4 == x && A.Q r 6 == y && decide (tic ≤ tkt r)) i)) (nI i) = some (oI (bestOf (fun r => nI (tkt r)) (fun r => A.Q r 4 == x && A.Q r 6 == y && decide (tic ≤ tkt r)) A.n)) := by
    intro m
    induction m with
    | zero =>
      intro i hi fuel hf
      obtain ⟨f, rfl⟩ : ∃ f, fuel = f + 1 := ⟨fuel - 1, by omega⟩
      have : i = A.n := by omega
      subst this
      simp only [M_X10_next_6]
      rw [R.requests k, Option.bind_some, if_pos (nI_le (Nat.le_refl _) (by omega))]
    | succ m ih =>
      intro i hi fuel hf
      obtain ⟨f, rfl⟩ : ∃ f, fuel = f + 1 := ⟨fuel - 1, by omega⟩
      have hiW : i < A.n := by omega
      have ih := ih (i + 1) (by omega) f (by omega)
      simp only [M_X10_next_6]
      rw [R.requests k, Option.bind_some, if_neg (nI_ge hiW (by omega)), R.isIn w k hiW, Option.bind_some, R.tick w k hiW, Option.bind_some]
      have skip : (A.Q i 4 == x && A.Q i 6 == y && decide (tic ≤ tkt i)) = false → M_X10_next_43 k S (M_X10_next_6 k S f) x y (nI tic) (oI (bestOf (fun r => nI (tkt r)) (fun r => A.Q r 4 == x && A.Q r 6 == y && decide (tic ≤ tkt r)) i)) (nI i) 0 = some (oI (bestOf (fun r => nI (tkt r)) (fun r => A.Q r 4 == x && A.Q r 6 == y && decide (tic ≤ tkt r)) A.n)) := by
        intro hc
        unfold M_X10_next_43
        rw [if_pos rfl, nI_1]
        rw [bestOf, if_neg (by rw [hc]; decide)] at ih
        exact ih
      by_cases h12 : (A.Q i 4 == x && A.Q i 6 == y) = true
      · have hx : A.Q i 4 = x := by rw [Bool.and_eq_true] at h12; exact beq_iff_eq.mp h12.1
        have hti := ht31 i hiW hx
        rw [h12, if_neg (by decide)]
        by_cases h3 : tic ≤ tkt i
        · have hn : ¬ nI (tkt i) < nI tic := nI_nlt h3 hti
          have hc : (A.Q i 4 == x && A.Q i 6 == y && decide (tic ≤ tkt i)) = true := by rw [h12, decide_eq_true h3]; rfl
          rw [if_neg hn]
          unfold M_X10_next_43
          rw [if_neg (by decide), nI_1]
          rw [bestOf, if_pos hc] at ih
          cases hb : bestOf (fun r => nI (tkt r)) (fun r => A.Q r 4 == x && A.Q r 6 == y && decide (tic ≤ tkt r)) i with
          | none =>
            rw [hb] at ih
            rw [if_pos (by rfl)]
            exact ih
          | some b =>
            rw [hb] at ih
            obtain ⟨h1, h2⟩ := bestOf_some hb
            have hne : ¬ oI (some b) = -1 := m1_ne (by omega)
            rw [if_neg hne, R.tick w k hiW, Option.bind_some]
            show ((M_X10_of k S (nI b) 8).bind _) = _
            rw [R.tick w k (by omega), Option.bind_some]
            have ih : M_X10_next_6 k S f x y (nI tic) (oI (if nI (tkt b) ≤ nI (tkt i) then some b else some i)) (nI (i + 1)) = _ := ih
            by_cases hl : nI (tkt b) ≤ nI (tkt i)
            · rw [if_pos hl] at ih ⊢; exact ih
            · rw [if_neg hl] at ih ⊢; exact ih
        · rw [if_pos (nI_lt (by omega) htic)]
          exact skip (by rw [decide_eq_false h3, Bool.and_false])
      · have h12 : (A.Q i 4 == x && A.Q i 6 == y) = false := by simpa using h12
        rw [h12, if_pos (by rfl)]
        exact skip (by rw [h12]; rfl)
  have h := key A.n 0 (by omega) k (by omega)
  rw [nI_0] at h
  exact h
theorem Int32.le_trans' {a b c : Int32} (h1 : a ≤ b) (h2 : b ≤ c) : a ≤ c := Int32.le_trans h1 h2
theorem bestOf_min {ld : Nat → Int32} {c : Nat → Bool} : ∀ {n b : Nat}, bestOf ld c n = some b → ∀ i, i < n → c i = true → ld b ≤ ld i
  | 0, b, h => by cases h
  | n + 1, b, h => by
    intro i hi hci
    unfold bestOf at h
    by_cases hc : c n = true
    · rw [if_pos hc] at h
      cases hb : bestOf ld c n with
      | none =>
        rw [hb] at h; cases h
        have hn := bestOf_none.mp hb
        by_cases e : i = n
        · subst e; exact Int32.le_refl _
        · rw [hn i (by omega)] at hci; cases hci
      | some b' =>
        rw [hb] at h
        have ih := bestOf_min hb
        have h : (if ld b' ≤ ld n then some b' else some n) = some b := h
        by_cases hl : ld b' ≤ ld n
        · rw [if_pos hl] at h; cases h
          by_cases e : i = n
          · subst e; exact hl
          · exact ih i (by omega) hci
        · rw [if_neg hl] at h; cases h
          by_cases e : i = n
          · subst e; exact Int32.le_refl _
          · exact Int32.le_trans' (Int32.le_of_lt (Int32.not_le.mp hl)) (ih i (by omega) hci)
    · rw [if_neg hc] at h
      by_cases e : i = n
      · subst e; exact absurd hci hc
      · exact bestOf_min h i (by omega) hci
/-- in a line that its tickets order the least is the first -/
theorem best_find {l : List Nat} {n : Nat} {tkt : Nat → Nat} {c : Nat → Bool} (hs : l.Pairwise (fun a b => tkt a < tkt b)) (hm : ∀ r, r ∈ l → r < n) (hc : ∀ r, r < n → c r = true → r ∈ l) (h31 : ∀ r, r ∈ l → tkt r < 2 ^ 31) :
    bestOf (fun r => nI (tkt r)) c n = l.find? c := by
  cases hb : bestOf (fun r => nI (tkt r)) c n with
  | none =>
    symm
    rw [List.find?_eq_none]
    intro r hr hcr
    have := bestOf_none.mp hb r (hm r hr)
    rw [hcr] at this
    cases this
  | some b =>
    obtain ⟨h1, h2⟩ := bestOf_some hb
    symm
    have hbl := hc b h1 h2
    rw [List.find?_eq_some_iff_append]
    obtain ⟨as, bs, e⟩ := List.append_of_mem hbl
    refine ⟨h2, as, bs, e, fun a ha => ?_⟩
    have hal : a ∈ l := by rw [e]; exact List.mem_append_left _ ha
    by_cases hca : c a = true
    · have h3 := bestOf_min hb a (hm a hal) hca
      rw [e] at hs
      have h4 := (List.pairwise_append.mp hs).2.2 a ha b List.mem_cons_self
      have h5 := (nI_leI (h31 b hbl) (h31 a hal)).mp h3
      omega
    · simpa using hca
theorem rq_next (R : RelM S g A mk ks tk tkt) (h : LI A) (t : TO A tk tkt) (htk : tk < 2 ^ 31) (hk : 20000 ≤ k) {x : Int32} (hx : x = 0 ∨ x = 1) (y : Int32) {tic : Nat} (htic : tic < 2 ^ 31) :
    M_X10_next k S x y (nI tic) = some (oI (A.ln.find? (fun r => A.Q r 4 == x && A.Q r 6 == y && decide (tic ≤ tkt r)))) := by
  have hin : ∀ r, r < A.n → A.Q r 4 = x → r ∈ A.ln := fun r hr e => (h.wt r).mpr ⟨hr, by rw [e]; exact hx⟩
  rw [rq_nextB R h.toAW hk x y htic (fun r hr e => by have := t.lt r (hin r hr e); omega)]
  rw [best_find t.so h.me (fun r hr hc => by
    rw [Bool.and_eq_true, Bool.and_eq_true, beq_iff_eq] at hc
    exact hin r hr hc.1.1) (fun r hr => by have := t.lt r hr; omega)]
theorem ro_least (R : RelM S g A mk ks tk tkt) (w : AW A) (hk : 20000 ≤ k) {t : Nat} (ht : t < A.m) : M_X10_leastLoaded k S (nI t) = some (oI (bestA A t)) := by
  have hW := w.w12
  have hp := w.pw
  have hs := w.sh t ht
  have key : ∀ m i, i + m = A.W → ∀ fuel, m < fuel → M_X10_leastLoaded_4 k S fuel (nI t) (oI (bestOf (rload A) (can A (A.sh t)) i)) (nI i) = some (oI (bestA A t)) := by
    intro m
    induction m with
    | zero =>
      intro i hi fuel hf
      obtain ⟨f, rfl⟩ : ∃ f, fuel = f + 1 := ⟨fuel - 1, by omega⟩
      have : i = A.W := by omega
      subst this
      simp only [M_X10_leastLoaded_4]
      rw [R.workers k, Option.bind_some, if_pos (nI_le (Nat.le_refl _) (by omega))]
      rfl
    | succ m ih =>
      intro i hi fuel hf
      obtain ⟨f, rfl⟩ : ∃ f, fuel = f + 1 := ⟨fuel - 1, by omega⟩
      have hiW : i < A.W := by omega
      have ih := ih (i + 1) (by omega) f (by omega)
      simp only [M_X10_leastLoaded_4]
      rw [R.workers k, Option.bind_some, if_neg (nI_ge hiW (by omega)), (R.ofT w k ht).1, Option.bind_some, has10 k (by omega) (by omega), Option.bind_some, R.isUp w k hiW, Option.bind_some, nI_1]
      by_cases hc : can A (A.sh t) i = true
      · have hc2 : ((A.sh t).testBit i && A.up i) = true := hc
        rw [Bool.and_eq_true] at hc2
        rw [hc2.1, hc2.2, if_neg (by decide), if_neg (by decide), rq_loadOf R w hk, Option.bind_some]
        rw [bestOf, if_pos hc] at ih
        cases hb : bestOf (rload A) (can A (A.sh t)) i with
        | none =>
          rw [hb] at ih
          rw [if_pos (by rfl)]
          exact ih
        | some b =>
          rw [hb] at ih
          obtain ⟨h1, h2⟩ := bestOf_some hb
          have hne : ¬ oI (some b) = -1 := m1_ne (by omega)
          rw [if_neg hne]
          show ((M_X10_loadOf k S (nI b)).bind _) = _
          rw [rq_loadOf R w hk, Option.bind_some]
          have ih : M_X10_leastLoaded_4 k S f (nI t) (oI (if rload A b ≤ rload A i then some b else some i)) (nI (i + 1)) = _ := ih
          by_cases hl : rload A b ≤ rload A i
          · rw [if_pos hl] at ih ⊢; exact ih
          · rw [if_neg hl] at ih ⊢; exact ih
      · rw [bestOf, if_neg hc] at ih
        have hc2 : ((A.sh t).testBit i && A.up i) = false := by
          have : can A (A.sh t) i = false := by simpa using hc
          exact this
        rw [Bool.and_eq_false_iff] at hc2
        rcases hc2 with e | e
        · rw [e, if_pos (by rfl)]; exact ih
        · rw [e]
          by_cases e2 : (A.sh t).testBit i = true
          · rw [e2, if_neg (by decide), if_pos (by rfl)]; exact ih
          · have e2 : (A.sh t).testBit i = false := by simpa using e2
            rw [e2, if_pos (by rfl)]; exact ih
  have h := key A.W 0 (by omega) k (by omega)
  rw [nI_0] at h
  exact h
end REF
