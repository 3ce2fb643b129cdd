-- ===== what the class changes =====
section CLS
variable {F : VV} {A : AF} {fg : Nat → Nat} {ks : KL} {k : Nat}
theorem qcell {r c r' c' : Nat} (hc : c < 8) (hc' : c' < 8) : (r' * 8 + c' = r * 8 + c) ↔ (r' = r ∧ c' = c) := by omega
/-- a cell of a request -/
theorem RelC.putQ (R : RelC F A fg ks) {r c : Nat} (hc : c < 8) (v : Int32) : RelC (va_up F 4 (upd (F 4) (r * 8 + c) v)) (A.wQ (setQ A.Q r c v)) fg ks :=
  (RelC.ofs
      (s0 := R.s0)
      (s1 := R.s1)
      (s2 := R.s2)
      (s3 := R.s3)
      (s4 := R.s4)
      (s5 := R.s5)
      (s6 := R.s6)
      (se := R.se)
      (ag := R.ag)
      (te := R.te)
      (rq := fun r' c' hr' hc' => by
      show upd (F 4) (r * 8 + c) v (r' * 8 + c') = setQ A.Q r c v r' c'
      unfold upd setQ
      by_cases h : r' = r ∧ c' = c
      · rw [if_pos ((qcell hc hc').mpr h), if_pos h]
      · rw [if_neg (fun e => h ((qcell hc hc').mp e)), if_neg h]
        exact R.rq r' c' hr' hc')
      (li := R.li)
      (k0 := R.k0)
      (k1 := R.k1)
      (kp := R.kp))
def endA (A : AF) (r : Nat) (s : Int32) : AF := A.wQ (setQ (setQ (setQ A.Q r 4 s) r 6 (-1)) r 7 (nI A.t))
theorem co_end (R : RelC F A fg ks) (w : AW A) {r : Nat} (hr : r < A.n) (s : Int32) : ∃ F', M_X0_end k F (nI r) s = some F' ∧ RelC F' (endA A r s) fg ks := by
  have := w.n60
  have R1 := R.putQ (r := r) (c := 4) (by decide) s
  have R2 := R1.putQ (r := r) (c := 6) (by decide) (-1)
  have R3 := R2.putQ (r := r) (c := 7) (by decide) (nI A.t)
  refine ⟨_, ?_, R3⟩
  simp only [M_X0_end, M_X0_end_0, lt_eq]
  rw [TQ_putI k (r := r) (c := 4) (x := 4) (by omega) (by decide) rfl, Option.bind_some, TQ_putI k (r := r) (c := 6) (x := 6) (by omega) (by decide) rfl, Option.bind_some, TQ_putI k (r := r) (c := 7) (x := 7) (by omega) (by decide) rfl, Option.bind_some]
  have h4 := R2.s4
  rw [h4]
  rfl
theorem co_leave (R : RelC F A fg ks) (w : AW A) (l : AL A) {i : Nat} (hi : i < A.ln.length) : ∃ F', M_X0_leaveLine k F (nI i) = some F' ∧ RelC F' (A.wL (A.ln.eraseIdx i)) fg ks := by
  have hl := l.len w
  refine ⟨va_up (va_up F 5 (va_cpy (F 5) (F 5) (i + 1) i (59 - i))) 0 (upd (F 0) 6 (nI (A.ln.length - 1))), ?_, ?_⟩
  · simp only [M_X0_leaveLine, M_X0_leaveLine_0, M_X5_closeGap, M_X5_closeGap_0, lt_eq]
    have h60 : ¬ nI 60 ≤ nI i := nI_ge (by omega) (by decide)
    have hn : nI 60 - nI i - 1 = nI (59 - i) := by
      rw [nI_sub (by omega), show (1 : Int32) = nI 1 from rfl, nI_sub (by omega)]
      congr 1
      omega
    have hcp : cpOK (nI (i + 1)) (nI i) (nI (59 - i)) 60 60 = true := by
      unfold cpOK
      rw [decide_eq_false (nI_pos (by omega)), decide_eq_false (nI_pos (by omega)), decide_eq_false (nI_pos (by omega)), nI_clamp (by omega), nI_clamp (by omega), nI_clamp (by omega), decide_eq_true (by omega), decide_eq_true (by omega)]
      rfl
    rw [R.s6, if_neg (nI_pos (by omega)), if_neg (nI_ge hi (by omega)), if_neg (nI_pos (by omega)), if_neg h60, nI_1, hn, if_pos hcp, Option.bind_some, nI_clamp (by omega), nI_clamp (by omega), nI_clamp (by omega)]
    have h6 : va_up F 5 (va_cpy (F 5) (F 5) (i + 1) i (59 - i)) 0 6 = nI A.ln.length := R.s6
    rw [h6, show (1 : Int32) = nI 1 from rfl, nI_sub (by omega)]
    rfl
  · have hle : (A.ln.eraseIdx i).length = A.ln.length - 1 := by rw [List.length_eraseIdx, if_pos hi]
    exact (RelC.ofs
      (s0 := R.s0)
      (s1 := R.s1)
      (s2 := R.s2)
      (s3 := R.s3)
      (s4 := R.s4)
      (s5 := R.s5)
      (s6 := by show nI (A.ln.length - 1) = nI (A.ln.eraseIdx i).length; rw [hle])
      (se := R.se)
      (ag := R.ag)
      (te := R.te)
      (rq := R.rq)
      (li := fun j hj => by
        have hj : j < (A.ln.eraseIdx i).length := hj
        have hj1 : j < A.ln.length - 1 := by rw [← hle]; exact hj
        show va_cpy (F 5) (F 5) (i + 1) i (59 - i) j = nI (A.ln.eraseIdx i)[j]
        unfold va_cpy
        rw [List.getElem_eraseIdx]
        by_cases h : j < i
        · rw [if_neg (by omega), dif_pos h]
          exact R.li j (by omega)
        · rw [if_pos (by omega), dif_neg h, show i + 1 + (j - i) = j + 1 by omega]
          exact R.li (j + 1) (by omega))
      (k0 := R.k0)
      (k1 := R.k1)
      (kp := R.kp))
/-- the least loaded of those workers that count -/
def bestOf (ld : Nat → Int32) (c : Nat → Bool) : Nat → Option Nat
  | 0 => none
  | n + 1 => if c n then (match bestOf ld c n with | none => some n | some b => if ld b ≤ ld n then some b else some n) else bestOf ld c n
def oI : Option Nat → Int32
  | none => -1
  | some b => nI b
theorem bestOf_some {ld : Nat → Int32} {c : Nat → Bool} : ∀ {n b : Nat}, bestOf ld c n = some b → b < n ∧ c b = true
  | 0, b, h => by cases h
  | n + 1, b, h => by
    unfold bestOf at h
    by_cases hc : c n = true
    · rw [if_pos hc] at h
      cases hb : bestOf ld c n with
      | none => rw [hb] at h; cases h; exact ⟨by omega, hc⟩
      | some b' =>
        rw [hb] at h
        have ih := bestOf_some hb
        by_cases hl : ld b' ≤ ld n
        · have h : (if ld b' ≤ ld n then some b' else some n) = some b := h
          rw [if_pos hl] at h; cases h; exact ⟨by omega, ih.2⟩
        · have h : (if ld b' ≤ ld n then some b' else some n) = some b := h
          rw [if_neg hl] at h; cases h; exact ⟨by omega, hc⟩
    · rw [if_neg hc] at h
      have ih := bestOf_some h
      exact ⟨by omega, ih.2⟩
theorem bestOf_none {ld : Nat → Int32} {c : Nat → Bool} : ∀ {n : Nat}, bestOf ld c n = none ↔ ∀ i, i < n → c i = false
  | 0 => ⟨fun _ i hi => by omega, fun _ => rfl⟩
  | n + 1 => by
    have ih := bestOf_none (ld := ld) (c := c) (n := n)
    unfold bestOf
    by_cases hc : c n = true
    · rw [if_pos hc]
      constructor
      · intro h
        cases hb : bestOf ld c n with
        | none => rw [hb] at h; cases h
        | some b =>
          rw [hb] at h
          have h : (if ld b ≤ ld n then some b else some n) = none := h
          split at h <;> cases h
      · intro h
        have := h n (by omega)
        rw [hc] at this
        cases this
    · rw [if_neg hc, ih]
      constructor
      · intro h i hi
        by_cases e : i = n
        · subst e; simpa using hc
        · exact h i (by omega)
      · intro h i hi; exact h i (by omega)
theorem bestOf_ext {ld ld' : Nat → Int32} {c : Nat → Bool} : ∀ {n : Nat}, (∀ i, i < n → c i = true → ld i = ld' i) → bestOf ld c n = bestOf ld' c n
  | 0, _ => rfl
  | n + 1, h => by
    have ih := bestOf_ext (c := c) (n := n) (fun i hi hc => h i (by omega) hc)
    unfold bestOf
    rw [ih]
    by_cases hc : c n = true
    · rw [if_pos hc, if_pos hc]
      cases hb : bestOf ld' c n with
      | none => rfl
      | some b =>
        obtain ⟨h1, h2⟩ := bestOf_some hb
        show (if ld b ≤ ld n then some b else some n) = (if ld' b ≤ ld' n then some b else some n)
        rw [h b (by omega) h2, h n (by omega) hc]
    · rw [if_neg hc, if_neg hc]
def oL (ld : Nat → Int32) : Option Nat → Int32
  | none => 0
  | some b => ld b
def can (A : AF) (s : Nat) : Nat → Bool := fun i => s.testBit i && A.up i
theorem co_least (R : RelC F A fg ks) (w : AW A) (l : AL A) (hk : 20000 ≤ k) {s : Nat} (hs : s < 2 ^ A.W) : M_X0_leastLoaded k F (nI s) = some (oI (bestOf (fun j => lload A (nI j)) (can A s) A.W)) := by
  have := w.w12
  have hp := w.pw
  have key : ∀ m i, i + m = A.W → ∀ fuel, m < fuel → M_X0_leastLoaded_7 k F fuel (nI s) (oI (bestOf (fun j => lload A (nI j)) (can A s) i)) (oL (fun j => lload A (nI j)) (bestOf (fun j => lload A (nI j)) (can A s) i)) (nI i) = some (oI (bestOf (fun j => lload A (nI j)) (can A s) A.W)) := by
    intro m
    induction m with
    | zero =>
      intro i hi fuel hf
      obtain ⟨g, rfl⟩ : ∃ g, fuel = g + 1 := ⟨fuel - 1, by omega⟩
      have : i = A.W := by omega
      subst this
      simp only [M_X0_leastLoaded_7]
      rw [R.s0, if_pos (nI_le (Nat.le_refl _) (by omega))]
    | succ m ih =>
      intro i hi fuel hf
      obtain ⟨g, rfl⟩ : ∃ g, fuel = g + 1 := ⟨fuel - 1, by omega⟩
      have hiW : i < A.W := by omega
      have ih := ih (i + 1) (by omega) g (by omega)
      simp only [M_X0_leastLoaded_7]
      rw [R.s0, if_neg (nI_ge hiW (by omega)), R.s5, andmask hs w.w12, has0 k (w.up31 _) (by omega), Option.bind_some, msk_bit, decide_eq_true hiW, Bool.true_and]
      by_cases hc : can A s i = true
      · have hc2 : (s.testBit i && A.up i) = true := hc
        rw [hc2, if_pos rfl, if_neg (by decide), cq_loadOf R w l hk, Option.bind_some, nI_1]
        have e : bestOf (fun j => lload A (nI j)) (can A s) (i + 1) = (match bestOf (fun j => lload A (nI j)) (can A s) i with | none => some i | some b => if lload A (nI b) ≤ lload A (nI i) then some b else some i) := by
          rw [bestOf, if_pos hc]
        cases hb : bestOf (fun j => lload A (nI j)) (can A s) i with
        | none =>
          rw [hb] at e
          rw [e] at ih
          rw [if_pos (by rfl)]
          exact ih
        | some b =>
          rw [hb] at e
          have e : bestOf (fun j => lload A (nI j)) (can A s) (i + 1) = if lload A (nI b) ≤ lload A (nI i) then some b else some i := e
          obtain ⟨h1, h2⟩ := bestOf_some hb
          have hne : ¬ oI (some b) = -1 := m1_ne (by omega)
          rw [if_neg hne]
          show (if lload A (nI b) ≤ lload A (nI i) then _ else _) = _
          by_cases hl : lload A (nI b) ≤ lload A (nI i)
          · rw [if_pos hl] at e ⊢
            rw [e] at ih
            exact ih
          · rw [if_neg hl] at e ⊢
            rw [e] at ih
            exact ih
      · have hc2 : (s.testBit i && A.up i) = false := by
          have : can A s i = false := by simpa using hc
          exact this
        rw [hc2, if_pos (by rfl), nI_1]
        have e : bestOf (fun j => lload A (nI j)) (can A s) (i + 1) = bestOf (fun j => lload A (nI j)) (can A s) i := by
          rw [bestOf, if_neg hc]
        rw [e] at ih
        exact ih
  have h := key A.W 0 (by omega) k (by omega)
  rw [nI_0] at h
  exact h
end CLS
