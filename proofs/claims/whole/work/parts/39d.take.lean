-- ===== words, symbols and numbers =====
theorem bindS {α : Type} (o : Option α) : (o.bind fun x => some x) = o := by cases o <;> rfl
theorem chk1 (k : Nat) (U : VV) (d : Int32) : M_X10_check k U 1 d = some U := by
  show (if (1 : Int32) = 0 then (M_X10_flaw k U d).bind (fun q2 => some q2) else some U) = some U
  exact if_neg (show ¬ (1 : Int32) = 0 by decide)
theorem chk0 (k : Nat) (U : VV) (d : Int32) : M_X10_check k U 0 d = M_X10_flaw k U d := by
  show (if (0 : Int32) = 0 then (M_X10_flaw k U d).bind (fun q2 => some q2) else some U) = M_X10_flaw k U d
  exact (if_pos (show (0 : Int32) = 0 from rfl)).trans (bindS _)
section TAKE
variable {K U : VV} {b : Nat → Int32} {L s e κ k : Nat}
theorem c_is (hk : 20000 ≤ k) (t : TOK b L s e κ) (g : KC K b L s e κ) {w : Nat} (hw : (txB w).length < 1000) : (MT b s e (txB w) ∧ M_X7_is k K w = some 1) ∨ (¬ MT b s e (txB w) ∧ M_X7_is k K w = some 0) := by
  have h7 := t.h7
  have hse := t.se
  have hel := t.el
  have e0 : M_X7_is k K w = (if nI (e - s) = nI (txB w).length then M_X7_is_27 k K k w 0 else some 0) := by
    simp only [M_X7_is, M_X7_is_0]
    rw [c_good g.k1, Option.bind_some, if_neg (show ¬ (1 : Int32) = 0 by decide), g.k5, g.k4, nI_sub hse]
  by_cases hl : e - s = (txB w).length
  · obtain ⟨i0, -, h2, h3, h4⟩ := sk_ex (fun i => decide (b (s + i) = (txB w).getD i 0)) (L := (txB w).length) (txB w).length 0 (by omega)
    have lp : M_X7_is_27 k K k w (nI 0) = some (if i0 = (txB w).length then 1 else 0) := by
      refine loop_from (fun n i => M_X7_is_27 k K n w (nI i)) (Nat.zero_le i0) _ (fun n i _ hi => ?_) (fun n => ?_) (by omega)
      · show (if nI (txB w).length ≤ nI i then some (1 : Int32) else ((M_X5_at k 700 (K 1) (K 0 4 + nI i)).bind fun q2 => (if inb (nI i) (txB w).length = true then if q2 = ((txB w).getD (nI i).toNatClampNeg 0) then M_X7_is_27 k K n w (nI i + 1) else some 0 else none))) = M_X7_is_27 k K n w (nI (i + 1))
        rw [if_neg (nI_ge (by omega) (by omega)), g.k4, nI_add, R_atI k (by omega) (by decide), Option.bind_some, if_pos (inb_nI (by omega) (by omega)), nI_clamp (by omega), g.kB (s + i) (by omega), if_pos (of_decide_eq_true (h3 i (Nat.zero_le _) hi)), nI_1]
      · show (if nI (txB w).length ≤ nI i0 then some (1 : Int32) else ((M_X5_at k 700 (K 1) (K 0 4 + nI i0)).bind fun q2 => (if inb (nI i0) (txB w).length = true then if q2 = ((txB w).getD (nI i0).toNatClampNeg 0) then M_X7_is_27 k K n w (nI i0 + 1) else some 0 else none))) = _
        by_cases hi : i0 = (txB w).length
        · rw [if_pos (nI_le (by omega) (by omega)), if_pos hi]
        · have hlt : i0 < (txB w).length := by omega
          rw [if_neg (nI_ge hlt (by omega)), g.k4, nI_add, R_atI k (by omega) (by decide), Option.bind_some, if_pos (inb_nI hlt (by omega)), nI_clamp (by omega), g.kB (s + i0) (by omega), if_neg (of_decide_eq_false (h4 hlt)), if_neg hi]
    rw [e0, if_pos (by rw [hl]), show (0 : Int32) = nI 0 from rfl, lp]
    by_cases hi : i0 = (txB w).length
    · left
      rw [if_pos hi]
      exact ⟨⟨hl, fun i h => of_decide_eq_true (h3 i (Nat.zero_le _) (by omega))⟩, rfl⟩
    · right
      rw [if_neg hi]
      have hlt : i0 < (txB w).length := by omega
      exact ⟨fun h => of_decide_eq_false (h4 hlt) (h.2 i0 hlt), rfl⟩
  · right
    refine ⟨fun h => hl h.1, ?_⟩
    rw [e0, if_neg (fun h => hl ((nI_eq (by omega) (by omega)).mp h))]
theorem r_isW (hk : 20000 ≤ k) (t : TOK b L s e κ) (r : UC U b L s e κ) (h11 : U 0 11 = 0) {w : Nat} (hw : (txB w).length < 1000) : ((MT b s e (txB w) ∧ κ = 1) ∧ M_X10_isWord k U w = some 1) ∨ (¬ (MT b s e (txB w) ∧ κ = 1) ∧ M_X10_isWord k U w = some 0) := by
  have h7 := t.h7
  have hse := t.se
  have hel := t.el
  have hk3 := t.k3
  have e0 : M_X10_isWord k U w = (if nI κ = 1 then (if nI (txB w).length = nI (e - s) then M_X10_isWord_39 k U k w 1 0 else some 0) else some 0) := by
    simp only [M_X10_isWord, M_X10_isWord_0]
    rw [if_pos h11, r.uk, r.u8, r.u9, nI_sub hse, w_0 hk]
  by_cases h1 : κ = 1
  · by_cases hl : e - s = (txB w).length
    · obtain ⟨i0, -, h2, h3, h4⟩ := sk_ex (fun i => decide (b (s + i) = (txB w).getD i 0)) (L := (txB w).length) (txB w).length 0 (by omega)
      obtain ⟨f, hf⟩ : ∃ f, k = (f + 2) + i0 := ⟨k - i0 - 2, by omega⟩
      have stp : ∀ n i, i < (txB w).length → M_X10_isWord_39 k U (n + 1) w 1 (nI i) = (if (txB w).getD i 0 = b (s + i) then M_X10_isWord_39 k U n w 1 (nI (i + 1)) else M_X10_isWord_39 k U n w 0 (nI (i + 1))) := fun n i hi => by
        show (if (1 : Int32) = 0 then _ else (if nI (txB w).length ≤ nI i then _ else ((if inb (nI i) (txB w).length = true then (if inb (U 0 9 + nI i) 700 = true then if ((txB w).getD (nI i).toNatClampNeg 0) = U 8 (U 0 9 + nI i).toNatClampNeg then M_X10_isWord_39 k U n w 1 (nI i + 1) else M_X10_isWord_39 k U n w 0 (nI i + 1) else none) else none)))) = _
        rw [if_neg (show ¬ (1 : Int32) = 0 by decide), if_neg (nI_ge hi (by omega)), if_pos (inb_nI hi (by omega)), r.u9, nI_add, if_pos (inb_nI (by omega) (by decide)), nI_clamp (by omega), nI_clamp (by omega), r.uB (s + i) (by omega), nI_1]
      have lp : M_X10_isWord_39 k U ((f + 2) + i0) w 1 (nI 0) = M_X10_isWord_39 k U (f + 2) w 1 (nI i0) :=
        loop_add (fun n i => M_X10_isWord_39 k U n w 1 (nI i)) i0 (fun n i hi => by
          show M_X10_isWord_39 k U (n + 1) w 1 (nI i) = M_X10_isWord_39 k U n w 1 (nI (i + 1))
          rw [stp n i (by omega), if_pos (of_decide_eq_true (h3 i (Nat.zero_le _) hi)).symm]) (f + 2)
      have lp2 : M_X10_isWord_39 k U k w 1 0 = M_X10_isWord_39 k U (f + 2) w 1 (nI i0) := by
        rw [← lp, ← hf]
        rfl
      rw [e0, if_pos (by rw [h1]; rfl), if_pos (by rw [hl]), lp2]
      by_cases hi : i0 = (txB w).length
      · left
        refine ⟨⟨⟨hl, fun i h => of_decide_eq_true (h3 i (Nat.zero_le _) (by omega))⟩, h1⟩, ?_⟩
        show (if (1 : Int32) = 0 then _ else (if nI (txB w).length ≤ nI i0 then (if (1 : Int32) = 0 ∨ (1 : Int32) = 1 then some (1 : Int32) else none) else _)) = some 1
        rw [if_neg (show ¬ (1 : Int32) = 0 by decide), if_pos (nI_le (by omega) (by omega)), if_pos (Or.inr rfl)]
      · right
        have hlt : i0 < (txB w).length := by omega
        have hne := of_decide_eq_false (h4 hlt)
        refine ⟨fun h => hne (h.1.2 i0 hlt), ?_⟩
        rw [stp (f + 1) i0 hlt, if_neg (fun h => hne h.symm)]
        show (if (0 : Int32) = 0 then (if (0 : Int32) = 0 ∨ (0 : Int32) = 1 then some (0 : Int32) else none) else _) = some 0
        rw [if_pos rfl, if_pos (Or.inl rfl)]
    · right
      refine ⟨fun h => hl h.1.1, ?_⟩
      rw [e0, if_pos (by rw [h1]; rfl), if_neg (fun h => hl ((nI_eq (by omega) (by omega)).mp h).symm)]
  · right
    refine ⟨fun h => h1 h.2, ?_⟩
    rw [e0, if_neg (show ¬ nI κ = (1 : Int32) from fun h => h1 ((nI_eq (by omega) (by decide)).mp (show nI κ = nI 1 from h)))]
theorem r_isS (t : TOK b L s e κ) (r : UC U b L s e κ) (h11 : U 0 11 = 0) (c : Int32) : ((κ = 3 ∧ b s = c) ∧ M_X10_isSymbol k U c = some 1) ∨ (¬ (κ = 3 ∧ b s = c) ∧ M_X10_isSymbol k U c = some 0) := by
  have h7 := t.h7
  have hse := t.se
  have hel := t.el
  have hk3 := t.k3
  simp only [M_X10_isSymbol, M_X10_isSymbol_0]
  rw [if_pos h11, r.uk, r.u9]
  by_cases h : κ = 3
  · have ho := t.o h
    rw [if_pos (by rw [h]; rfl), if_pos (inb_nI (by omega) (by decide)), nI_clamp (by omega), r.uB s (by omega)]
    by_cases hb : b s = c
    · left
      rw [if_pos hb]
      exact ⟨⟨h, hb⟩, rfl⟩
    · right
      rw [if_neg hb]
      exact ⟨fun q => hb q.2, rfl⟩
  · right
    rw [if_neg (show ¬ nI κ = (3 : Int32) from fun q => h ((nI_eq (by omega) (by decide)).mp (show nI κ = nI 3 from q)))]
    exact ⟨fun q => h q.1, rfl⟩
/-- a word that is looked for -/
def WD (w w' : Nat) : Prop := txB w' = txB w ∧ 0 < (txB w).length ∧ (txB w).length < 1000 ∧ kob ((txB w).getD 0 0) = 1
def SY (w : Nat) (c : Int32) : Prop := txB w = [c] ∧ kob c = 3
theorem MT.pos {w : List Int32} (t : TOK b L s e κ) (h : MT b s e w) (hw : 0 < w.length) : κ = kob (w.getD 0 0) := by
  have h1 := h.1
  have h2 := h.2 0 hw
  rw [← h2]
  exact (t.c s (Nat.le_refl _) (by omega)).symm
theorem t_is (hk : 20000 ≤ k) (g : GD K U b L s e κ) {w w' : Nat} (hw : WD w w') : (κ ≠ 0 ∧ M_X7_is k K w = some 1 ∧ M_X10_isWord k U w' = some 1) ∨ (M_X7_is k K w = some 0 ∧ M_X10_isWord k U w' = some 0) := by
  obtain ⟨t, c, r, h11⟩ := g
  obtain ⟨w1, w2, w3, w4⟩ := hw
  have hr := r_isW hk t r h11 (w := w') (by rw [w1]; exact w3)
  rw [w1] at hr
  rcases c_is hk t c w3 with ⟨m, e1⟩ | ⟨m, e1⟩
  · have hκ := m.pos t w2
    rw [w4] at hκ
    rcases hr with ⟨m', e2⟩ | ⟨m', e2⟩
    · exact Or.inl ⟨by omega, e1, e2⟩
    · exact absurd ⟨m, hκ⟩ m'
  · rcases hr with ⟨m', e2⟩ | ⟨m', e2⟩
    · exact absurd m'.1 m
    · exact Or.inr ⟨e1, e2⟩
theorem t_sy (hk : 20000 ≤ k) (g : GD K U b L s e κ) {w : Nat} {x : Int32} (hw : SY w x) : (κ ≠ 0 ∧ M_X7_is k K w = some 1 ∧ M_X10_isSymbol k U x = some 1) ∨ (M_X7_is k K w = some 0 ∧ M_X10_isSymbol k U x = some 0) := by
  obtain ⟨t, c, r, h11⟩ := g
  obtain ⟨w1, w2⟩ := hw
  have hc := c_is hk t c (w := w) (by rw [w1]; exact (by decide : (1 : Nat) < 1000))
  rw [w1] at hc
  have hr := r_isS (k := k) t r h11 x
  rcases hc with ⟨m, e1⟩ | ⟨m, e1⟩
  · have hκ := m.pos t (by exact Nat.one_pos)
    have hκ : κ = 3 := hκ.trans w2
    have hb : b (s + 0) = x := m.2 0 Nat.one_pos
    rcases hr with ⟨m', e2⟩ | ⟨m', e2⟩
    · exact Or.inl ⟨by omega, e1, e2⟩
    · exact absurd ⟨hκ, hb⟩ m'
  · rcases hr with ⟨m', e2⟩ | ⟨m', e2⟩
    · refine absurd ⟨?_, fun i hi => ?_⟩ m
      · have := t.o m'.1
        show e - s = 1
        omega
      · have hi : i < 1 := hi
        have h0 : i = 0 := by omega
        subst h0
        exact m'.2
    · exact Or.inr ⟨e1, e2⟩
/-- what is asked for is there, and read -/
theorem t_go {w : Nat} (hk : 20000 ≤ k) (g : GD K U b L s e κ) (h0 : κ ≠ 0) (h : M_X7_is k K w = some 1) : ∃ K' U', M_X7_take k K w = some K' ∧ M_X7_advance k K = some K' ∧ M_X10_scan k U = some U' ∧ M_X10_advance k U = some U' ∧ FRU U U' ∧ ∃ s' e' κ', s < s' ∧ GD K' U' b L s' e' κ' := by
  obtain ⟨K', U', s', e', κ', a1, a2, g', h2, f⟩ := t_adv hk g
  have := g.1.p h0
  refine ⟨K', U', ?_, a1, a2, ?_, f, s', e', κ', by omega, g'⟩
  · simp only [M_X7_take, M_X7_take_0]
    rw [h, Option.bind_some, if_neg (show ¬ (1 : Int32) = 0 by decide), a1, Option.bind_some]
  · simp only [M_X10_advance, M_X10_advance_0]
    rw [if_pos g.2.2.2, a2, Option.bind_some]
theorem t_take (hk : 20000 ≤ k) (g : GD K U b L s e κ) {w w' : Nat} (hw : WD w w') : ∃ K' U', M_X7_take k K w = some K' ∧ M_X10_expectWord k U w' = some U' ∧ FRU U U' ∧ NX K' U' b L s := by
  rcases t_is hk g hw with ⟨h0, h1, h2⟩ | ⟨h1, h2⟩
  · obtain ⟨K', U', a1, a2, a3, a4, f, n⟩ := t_go hk g h0 h1
    refine ⟨K', U', a1, ?_, f, Or.inl n⟩
    simp only [M_X10_expectWord, M_X10_expectWord_0, M_X10_check, M_X10_check_0]
    rw [h2, Option.bind_some, if_neg (show ¬ (1 : Int32) = 0 by decide), Option.bind_some, a4, Option.bind_some]
  · obtain ⟨K', U', a1, a2, er, f⟩ := t_fail (k := k) g (c := 1) (by decide)
    refine ⟨K', U', ?_, ?_, f, Or.inr ⟨1, er⟩⟩
    · simp only [M_X7_take, M_X7_take_0]
      rw [h1, Option.bind_some, if_pos rfl, a1, Option.bind_some]
    · simp only [M_X10_expectWord, M_X10_expectWord_0, M_X10_check, M_X10_check_0]
      rw [h2, Option.bind_some, if_pos rfl, a2, Option.bind_some, Option.bind_some, e_adv er, Option.bind_some]
theorem t_expect (hk : 20000 ≤ k) (g : GD K U b L s e κ) {w : Nat} {x : Int32} (hw : SY w x) : ∃ K' U', M_X7_take k K w = some K' ∧ M_X10_expect k U x = some U' ∧ FRU U U' ∧ NX K' U' b L s := by
  rcases t_sy hk g hw with ⟨h0, h1, h2⟩ | ⟨h1, h2⟩
  · obtain ⟨K', U', a1, a2, a3, a4, f, n⟩ := t_go hk g h0 h1
    refine ⟨K', U', a1, ?_, f, Or.inl n⟩
    simp only [M_X10_expect, M_X10_expect_0, M_X10_check, M_X10_check_0]
    rw [h2, Option.bind_some, if_neg (show ¬ (1 : Int32) = 0 by decide), Option.bind_some, a4, Option.bind_some]
  · obtain ⟨K', U', a1, a2, er, f⟩ := t_fail (k := k) g (c := 1) (by decide)
    refine ⟨K', U', ?_, ?_, f, Or.inr ⟨1, er⟩⟩
    · simp only [M_X7_take, M_X7_take_0]
      rw [h1, Option.bind_some, if_pos rfl, a1, Option.bind_some]
    · simp only [M_X10_expect, M_X10_expect_0, M_X10_check, M_X10_check_0]
      rw [h2, Option.bind_some, if_pos rfl, a2, Option.bind_some, Option.bind_some, e_adv er, Option.bind_some]
-- numbers
theorem r_value (hk : 20000 ≤ k) (t : TOK b L s e κ) (r : UC U b L s e κ) (h2 : κ = 2) : M_X10_value k U = some (nI (min (dec b s (e - s)) 2000000000)) := by
  have h7 := t.h7
  have hse := t.se
  have hel := t.el
  have e1 : M_X10_value k U = M_X10_value_7 k U k 0 (nI s) := by
    simp only [M_X10_value, M_X10_value_0, lt_eq]
    rw [r.u9]
  rw [e1]
  refine loop_st0 (fun n i => M_X10_value_7 k U n (nI (min (dec b s i) 2000000000)) (nI (s + i))) (e - s) _ (fun n i hi => ?_) (fun n => ?_) (by omega)
  · show (if U 0 8 ≤ nI (s + i) then _ else (if U 0 10 = (2 : Int32) then ((if inb (nI (s + i)) 700 = true then M_X10_value_7 k U n ((if ((((10 : Int64) * ((nI (min (dec b s i) 2000000000)).toInt64)) + ((U 8 (nI (s + i)).toNatClampNeg).toInt64)) - (48 : Int64)) < (2000000000 : Int64) then ((((10 : Int64) * ((nI (min (dec b s i) 2000000000)).toInt64)) + ((U 8 (nI (s + i)).toNatClampNeg).toInt64)) - (48 : Int64)) else (2000000000 : Int64)).toInt32) (nI (s + i) + 1) else none)) else _)) = M_X10_value_7 k U n (nI (min (dec b s i * 10 + dg (b (s + i))) 2000000000)) (nI (s + i + 1))
    obtain ⟨d1, d2⟩ := dg_of (x := b (s + i)) (by rw [t.c (s + i) (by omega) (by omega), h2])
    have e1 := min_2e9 (v := min (dec b s i) 2000000000) (d := dg (b (s + i))) (by omega) d2
    rw [← d1] at e1
    rw [r.u8, if_neg (nI_ge (by omega) (by omega)), r.uk, if_pos (by rw [h2]; rfl), if_pos (inb_nI (by omega) (by decide)), nI_clamp (by omega), r.uB (s + i) (by omega), e1, nI_1, show min (min (dec b s i) 2000000000 * 10 + dg (b (s + i))) 2000000000 = min (dec b s i * 10 + dg (b (s + i))) 2000000000 by omega]
  · show (if U 0 8 ≤ nI (s + (e - s)) then some (nI (min (dec b s (e - s)) 2000000000)) else _) = _
    rw [r.u8, if_pos (nI_le (by omega) (by omega))]
theorem le_hi {v B : Nat} (hv : v < 2 ^ 31) (hB : B < 2 ^ 30) : nI v ≤ nI B - 1 ↔ v < B := by
  by_cases h : v < B
  · rw [show (1 : Int32) = nI 1 from rfl, nI_sub (by omega)]
    exact ⟨fun _ => h, fun _ => nI_le (by omega) (by omega)⟩
  · refine ⟨fun q => ?_, fun q => absurd q h⟩
    by_cases h0 : B = 0
    · rw [h0, show nI 0 - 1 = (-1 : Int32) by decide] at q
      exact absurd (m1_lt hv) (Int32.not_lt.mpr q)
    · rw [show (1 : Int32) = nI 1 from rfl, nI_sub (by omega)] at q
      exact absurd q (nI_ge (by omega) (by omega))
/-- a number is read: it is one and in its range, or an error -/
theorem t_num (hk : 20000 ≤ k) (g : GD K U b L s e κ) {a B : Nat} (ha : a ≤ 10000) (hB : B ≤ 10000) :
    (∃ K' U' v s' e' κ', M_X7_takeNumber k K (nI a) (nI B - 1) = some (nI v, K') ∧ M_X10_readNumber k U (nI a) (nI B - 1) = some (nI v, U') ∧ a ≤ v ∧ v < B ∧ s < s' ∧ GD K' U' b L s' e' κ' ∧ FRU U U') ∨
    (∃ K' U' c, M_X7_takeNumber k K (nI a) (nI B - 1) = some (-1, K') ∧ M_X10_readNumber k U (nI a) (nI B - 1) = some (nI a, U') ∧ ER K' U' c ∧ FRU U U') := by
  have hk3 := g.1.k3
  have c36 : ∀ (K' U' : VV) (c x : Int32), ER K' U' c → M_X7_takeNumber_36 k x K' = some (-1, K') := fun K' U' c x er => by
    simp only [M_X7_takeNumber_36]
    rw [c_bad er.kn, Option.bind_some, if_pos rfl]
  by_cases h2 : κ = 2
  · have t2 : nI κ = 2 := by rw [h2]; rfl
    have hval := r_value hk g.1 g.2.2.1 h2
    have e1 : M_X7_takeNumber k K (nI a) (nI B - 1) = (if nI (min (dec b s (e - s)) 100000) < nI a then ((M_X7_fail k K 2).bind fun q7 => M_X7_takeNumber_36 k (nI (min (dec b s (e - s)) 100000)) q7) else (if nI (min (dec b s (e - s)) 100000) ≤ nI B - 1 then M_X7_takeNumber_36 k (nI (min (dec b s (e - s)) 100000)) K else ((M_X7_fail k K 2).bind fun q9 => M_X7_takeNumber_36 k (nI (min (dec b s (e - s)) 100000)) q9))) := by
      simp only [M_X7_takeNumber, M_X7_takeNumber_0, lt_eq]
      rw [g.2.1.k6, if_pos t2, g.2.1.k7 h2]
    have e2 : M_X10_readNumber k U (nI a) (nI B - 1) = ((M_X10_inRange k (nI (min (dec b s (e - s)) 2000000000)) (nI a) (nI B - 1)).bind fun q7 => if q7 = 0 then M_X10_readNumber_52 k (nI a) (nI (min (dec b s (e - s)) 2000000000)) 0 U else M_X10_readNumber_52 k (nI a) (nI (min (dec b s (e - s)) 2000000000)) 1 U) := by
      simp only [M_X10_readNumber, M_X10_readNumber_0, M_X10_readNumber_21, M_X10_check, M_X10_check_0]
      rw [if_pos g.2.2.2, g.2.2.1.uk, if_pos t2, if_neg (show ¬ (1 : Int32) = 0 by decide), Option.bind_some, hval, Option.bind_some, if_pos g.2.2.2]
    have bad : M_X10_inRange k (nI (min (dec b s (e - s)) 2000000000)) (nI a) (nI B - 1) = some 0 → (nI (min (dec b s (e - s)) 100000) < nI a ∨ ¬ nI (min (dec b s (e - s)) 100000) ≤ nI B - 1) → ∃ K' U' c, M_X7_takeNumber k K (nI a) (nI B - 1) = some (-1, K') ∧ M_X10_readNumber k U (nI a) (nI B - 1) = some (nI a, U') ∧ ER K' U' c ∧ FRU U U' := fun hr hc => by
      obtain ⟨K', U', a1, a2, er, f⟩ := t_fail (k := k) g (c := 2) (by decide)
      refine ⟨K', U', 2, ?_, ?_, er, f⟩
      · rw [e1, a1, Option.bind_some, c36 K' U' 2 _ er]
        by_cases hlt : nI (min (dec b s (e - s)) 100000) < nI a
        · rw [if_pos hlt]
        · rw [if_neg hlt, if_neg (hc.resolve_left hlt)]
      · rw [e2, hr, Option.bind_some, if_pos rfl]
        simp only [M_X10_readNumber_52]
        rw [chk0, a2, Option.bind_some, e_adv er, Option.bind_some, if_neg er.un]
    by_cases hA : a ≤ dec b s (e - s) ∧ dec b s (e - s) < B
    · left
      obtain ⟨K', U', s', e', κ', a1, a2, g', hs, f⟩ := t_adv hk g
      have hp := g.1.p (by omega)
      refine ⟨K', U', dec b s (e - s), s', e', κ', ?_, ?_, hA.1, hA.2, by omega, g', f⟩
      · rw [e1, Nat.min_eq_left (by omega), if_neg (nI_nlt hA.1 (by omega)), if_pos ((le_hi (by omega) (by omega)).mpr hA.2)]
        simp only [M_X7_takeNumber_36]
        rw [c_good g.2.1.k1, Option.bind_some, if_neg (show ¬ (1 : Int32) = 0 by decide), a1, Option.bind_some]
      · rw [e2, Nat.min_eq_left (by omega)]
        simp only [M_X10_inRange, M_X10_inRange_0, M_X10_readNumber_52, M_X10_check, M_X10_check_0, M_X10_advance, M_X10_advance_0]
        rw [if_neg (nI_nlt hA.1 (by omega)), if_neg (Int32.not_lt.mpr ((le_hi (by omega) (by omega)).mpr hA.2)), Option.bind_some, if_neg (show ¬ (1 : Int32) = 0 by decide), if_neg (show ¬ (1 : Int32) = 0 by decide), Option.bind_some, if_pos g.2.2.2, a2, Option.bind_some, Option.bind_some, if_pos g'.2.2.2]
    · right
      refine bad ?_ ?_
      · simp only [M_X10_inRange, M_X10_inRange_0]
        by_cases hl : dec b s (e - s) < a
        · rw [if_pos (nI_lt (by omega) (by omega))]
        · rw [if_neg (nI_nlt (by omega) (by omega)), if_pos (Int32.not_le.mp (fun q => by have := (le_hi (by omega) (by omega)).mp q; omega))]
      · by_cases hl : dec b s (e - s) < a
        · exact Or.inl (nI_lt (by omega) (by omega))
        · exact Or.inr (fun q => by have := (le_hi (by omega) (by omega)).mp q; omega)
  · right
    have t2 : ¬ nI κ = 2 := fun q => h2 ((nI_eq (by omega) (by decide)).mp (show nI κ = nI 2 from q))
    obtain ⟨K', U', a1, a2, er, f⟩ := t_fail (k := k) g (c := 1) (by decide)
    obtain ⟨v, hv⟩ := e_value er hk
    refine ⟨K', U', 1, ?_, ?_, er, f⟩
    · simp only [M_X7_takeNumber, M_X7_takeNumber_0, lt_eq]
      rw [g.2.1.k6, if_neg t2, a1, Option.bind_some, c36 K' U' 1 _ er]
    · simp only [M_X10_readNumber, M_X10_readNumber_0, M_X10_readNumber_21, M_X10_readNumber_52]
      rw [if_pos g.2.2.2, g.2.2.1.uk, if_neg t2]
      have hc : M_X10_check k U 0 1 = some U' := by rw [chk0, a2]
      rw [hc, Option.bind_some, hv, Option.bind_some, if_neg er.un, e_check er, Option.bind_some, e_adv er, Option.bind_some, if_neg er.un]
end TAKE
