-- ===== both sides read =====
def FRU (U U' : VV) : Prop := (∀ j, j ≠ 0 → U' j = U j) ∧ ∀ c, c ≠ 8 → c ≠ 9 → c ≠ 10 → c ≠ 11 → c ≠ 12 → U' 0 c = U 0 c
theorem FRU.refl (U : VV) : FRU U U := ⟨fun _ _ => rfl, fun _ _ _ _ _ _ => rfl⟩
theorem FRU.trans {U U' U'' : VV} (h : FRU U U') (g : FRU U' U'') : FRU U U'' := ⟨fun j hj => (g.1 j hj).trans (h.1 j hj), fun c a1 a2 a3 a4 a5 => (g.2 c a1 a2 a3 a4 a5).trans (h.2 c a1 a2 a3 a4 a5)⟩
def GD (K U : VV) (b : Nat → Int32) (L s e κ : Nat) : Prop := TOK b L s e κ ∧ KC K b L s e κ ∧ UC U b L s e κ ∧ U 0 11 = 0
def ER (K U : VV) (c : Int32) : Prop := K 0 0 = 0 ∧ c ≠ 0 ∧ K 0 1 = c ∧ U 0 11 = c ∧ K 0 2 = U 0 12 ∧ ∃ s e : Nat, U 0 9 = nI s ∧ U 0 8 = nI e ∧ s ≤ e ∧ e ≤ 700
def NX (K U : VV) (b : Nat → Int32) (L s : Nat) : Prop := (∃ s' e' κ', s < s' ∧ GD K U b L s' e' κ') ∨ ∃ c, ER K U c
def MT (b : Nat → Int32) (s e : Nat) (w : List Int32) : Prop := e - s = w.length ∧ ∀ i, i < w.length → b (s + i) = w.getD i 0
theorem loop_add {β : Type} (M : Nat → Nat → Option β) (N : Nat) (hs : ∀ n i, i < N → M (n + 1) i = M n (i + 1)) (n : Nat) : M (n + N) 0 = M n N := by
  have key : ∀ i, i ≤ N → M (n + N) 0 = M (n + (N - i)) i := by
    intro i
    induction i with
    | zero => intro _; rfl
    | succ i ih =>
      intro hi
      rw [ih (by omega), show n + (N - i) = (n + (N - (i + 1))) + 1 by omega, hs _ _ (by omega)]
  have := key N (Nat.le_refl _)
  rw [Nat.sub_self] at this
  exact this
section BOTH
variable {K U : VV} {b : Nat → Int32} {L s e κ k : Nat}
theorem t_adv (hk : 20000 ≤ k) (g : GD K U b L s e κ) : ∃ K' U' s' e' κ', M_X7_advance k K = some K' ∧ M_X10_scan k U = some U' ∧ GD K' U' b L s' e' κ' ∧ e ≤ s' ∧ FRU U U' := by
  obtain ⟨t, c, r, h11⟩ := g
  obtain ⟨s', e', κ', nx⟩ := tok_next b t.h7 t.el
  obtain ⟨K', k1, k2⟩ := c_adv hk c.k0 c.k1 c.k2 c.k3 c.k5 c.kB nx
  obtain ⟨U', u1, u2, u3, u4⟩ := r_scan hk r.u7 r.u8 r.uB nx
  exact ⟨K', U', s', e', κ', k1, u1, ⟨nx.tk, k2, u2, (u4 11 (by decide) (by decide) (by decide)).trans h11⟩, nx.es, ⟨u3, fun c a1 a2 a3 _ _ => u4 c a1 a2 a3⟩⟩
theorem c_good (h : K 0 1 = 0) : M_X7_isGood k K = some 1 := if_pos h
theorem c_bad (h : K 0 1 ≠ 0) : M_X7_isGood k K = some 0 := if_neg h
theorem t_fail (g : GD K U b L s e κ) {c : Int32} (hc : c ≠ 0) : ∃ K' U', M_X7_fail k K c = some K' ∧ M_X10_flaw k U c = some U' ∧ ER K' U' c ∧ FRU U U' := by
  obtain ⟨t, g1, r, h11⟩ := g
  refine ⟨va_up K 0 (upd (upd (K 0) 1 c) 2 (nI s)), va_up U 0 (upd (upd (U 0) 11 c) 12 (nI s)), ?_, ?_, ⟨g1.k0, hc, rfl, rfl, rfl, s, e, r.u9, r.u8, t.se, Nat.le_trans t.el t.h7⟩, fun j hj => vaN _ _ hj, fun x _ _ _ h11 h12 => ?_⟩
  · simp only [M_X7_fail, M_X7_fail_0, lt_eq]
    rw [c_good g1.k1, Option.bind_some, if_neg (show ¬ (1 : Int32) = 0 by decide)]
    show some (va_up (va_up K 0 (upd (K 0) 1 c)) 0 (upd (upd (K 0) 1 c) 2 (K 0 4))) = _
    rw [va_up_up, g1.k4]
  · simp only [M_X10_flaw, M_X10_flaw_0, lt_eq]
    rw [if_pos h11]
    show some (va_up (va_up U 0 (upd (U 0) 11 c)) 0 (upd (upd (U 0) 11 c) 12 (U 0 9))) = _
    rw [va_up_up, r.u9]
  · show upd (upd (U 0) 11 c) 12 (nI s) x = U 0 x
    rw [upd_ne _ _ h12, upd_ne _ _ h11]
-- behind an error nothing is read
theorem ER.kn {c : Int32} (h : ER K U c) : K 0 1 ≠ 0 := by rw [h.2.2.1]; exact h.2.1
theorem ER.un {c : Int32} (h : ER K U c) : ¬ U 0 11 = 0 := by rw [h.2.2.2.1]; exact h.2.1
theorem e_fail {c : Int32} (h : ER K U c) (d : Int32) : M_X7_fail k K d = some K := by
  simp only [M_X7_fail, M_X7_fail_0]
  rw [c_bad h.kn, Option.bind_some, if_pos rfl]
theorem e_flaw {c : Int32} (h : ER K U c) (d : Int32) : M_X10_flaw k U d = some U := by
  simp only [M_X10_flaw, M_X10_flaw_0]
  rw [if_neg h.un]
theorem e_is {c : Int32} (h : ER K U c) (w : Nat) : M_X7_is k K w = some 0 := by
  simp only [M_X7_is, M_X7_is_0]
  rw [c_bad h.kn, Option.bind_some, if_pos rfl]
theorem e_take {c : Int32} (h : ER K U c) (w : Nat) : M_X7_take k K w = some K := by
  simp only [M_X7_take, M_X7_take_0]
  rw [e_is h, Option.bind_some, if_pos rfl, e_fail h, Option.bind_some]
theorem e_takeN {c : Int32} (h : ER K U c) (p q : Int32) : M_X7_takeNumber k K p q = some (-1, K) := by
  have h36 : ∀ x, M_X7_takeNumber_36 k x K = some (-1, K) := fun x => by
    simp only [M_X7_takeNumber_36]
    rw [c_bad h.kn, Option.bind_some, if_pos rfl]
  simp only [M_X7_takeNumber, M_X7_takeNumber_0, lt_eq]
  rw [e_fail h, e_fail h, Option.bind_some, h36]
  by_cases h1 : K 0 6 = 2
  · rw [if_pos h1]
    by_cases h2 : K 0 7 < p
    · rw [if_pos h2]
    · rw [if_neg h2]
      by_cases h3 : K 0 7 ≤ q
      · rw [if_pos h3]
      · rw [if_neg h3]
  · rw [if_neg h1]
theorem e_end {c : Int32} (h : ER K U c) : M_X7_takeEnd k K = some K := by
  simp only [M_X7_takeEnd, M_X7_takeEnd_0]
  rw [e_fail h, Option.bind_some]
  by_cases h1 : K 0 6 = 0
  · rw [if_pos h1]
  · rw [if_neg h1]
theorem e_check {c : Int32} (h : ER K U c) (x d : Int32) : M_X10_check k U x d = some U := by
  simp only [M_X10_check, M_X10_check_0]
  rw [e_flaw h, Option.bind_some]
  by_cases h1 : x = 0
  · rw [if_pos h1]
  · rw [if_neg h1]
theorem e_adv {c : Int32} (h : ER K U c) : M_X10_advance k U = some U := by
  simp only [M_X10_advance, M_X10_advance_0]
  rw [if_neg h.un]
theorem w_0 (hk : 20000 ≤ k) (w : Nat) (i : Int32) : M_X10_isWord_39 k U k w 0 i = some 0 := by
  obtain ⟨f, rfl⟩ : ∃ f, k = f + 1 := ⟨k - 1, by omega⟩
  simp only [M_X10_isWord_39]
  rw [if_pos trivial, if_pos (Or.inl trivial)]
theorem e_isW {c : Int32} (h : ER K U c) (hk : 20000 ≤ k) (w : Nat) : M_X10_isWord k U w = some 0 := by
  simp only [M_X10_isWord, M_X10_isWord_0]
  rw [if_neg h.un, w_0 hk]
theorem e_isS {c : Int32} (h : ER K U c) (x : Int32) : M_X10_isSymbol k U x = some 0 := by
  simp only [M_X10_isSymbol, M_X10_isSymbol_0]
  rw [if_neg h.un]
theorem e_expW {c : Int32} (h : ER K U c) (hk : 20000 ≤ k) (w : Nat) : M_X10_expectWord k U w = some U := by
  simp only [M_X10_expectWord, M_X10_expectWord_0]
  rw [e_isW h hk, Option.bind_some, e_check h, Option.bind_some, e_adv h, Option.bind_some]
theorem e_exp {c : Int32} (h : ER K U c) (x : Int32) : M_X10_expect k U x = some U := by
  simp only [M_X10_expect, M_X10_expect_0]
  rw [e_isS h, Option.bind_some, e_check h, Option.bind_some, e_adv h, Option.bind_some]
theorem e_accept {c : Int32} (h : ER K U c) (hk : 20000 ≤ k) (w : Nat) : M_X10_accept k U w = some (0, U) := by
  simp only [M_X10_accept, M_X10_accept_0]
  rw [e_isW h hk, Option.bind_some, if_pos rfl, if_pos (Or.inl rfl)]
theorem e_value {c : Int32} (h : ER K U c) (hk : 20000 ≤ k) : ∃ v, M_X10_value k U = some v := by
  obtain ⟨-, -, -, -, -, s, e, h9, h8, hse, he⟩ := h
  have key : ∀ m i, i + m = e → ∀ (x : Int32) (fuel : Nat), m < fuel → ∃ v, M_X10_value_7 k U fuel x (nI i) = some v := by
    intro m
    induction m with
    | zero =>
      intro i hi x fuel hf
      obtain ⟨f, rfl⟩ : ∃ f, fuel = f + 1 := ⟨fuel - 1, by omega⟩
      refine ⟨x, ?_⟩
      simp only [M_X10_value_7]
      rw [h8, if_pos (nI_le (by omega) (by omega))]
    | succ m ih =>
      intro i hi x fuel hf
      obtain ⟨f, rfl⟩ : ∃ f, fuel = f + 1 := ⟨fuel - 1, by omega⟩
      simp only [M_X10_value_7]
      rw [h8, if_neg (nI_ge (by omega) (by omega))]
      by_cases h2 : U 0 10 = 2
      · rw [if_pos h2, if_pos (inb_nI (by omega) (by decide)), lt_eq, nI_1]
        exact ih (i + 1) (by omega) _ f (by omega)
      · rw [if_neg h2]
        exact ⟨x, rfl⟩
  have e1 : M_X10_value k U = M_X10_value_7 k U k 0 (nI s) := by
    simp only [M_X10_value, M_X10_value_0, lt_eq]
    rw [h9]
  rw [e1]
  exact key (e - s) s (by omega) 0 k (by omega)
theorem e_readN21 {c : Int32} (h : ER K U c) (hk : 20000 ≤ k) (p q y : Int32) : M_X10_readNumber_21 k p q y U = some (p, U) := by
  obtain ⟨v, hv⟩ := e_value h hk
  simp only [M_X10_readNumber_21, M_X10_readNumber_52]
  rw [e_check h, Option.bind_some, hv, Option.bind_some, if_neg h.un, e_check h, Option.bind_some, e_adv h, Option.bind_some, if_neg h.un]
theorem e_readN {c : Int32} (h : ER K U c) (hk : 20000 ≤ k) (p q : Int32) : M_X10_readNumber k U p q = some (p, U) := by
  simp only [M_X10_readNumber, M_X10_readNumber_0]
  rw [if_neg h.un, e_readN21 h hk]
end BOTH
