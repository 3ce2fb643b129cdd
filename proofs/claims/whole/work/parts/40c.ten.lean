-- ===== a text of a fleet is read: its tenants =====
section TEN
variable {K U : VV} {b : Nat → Int32} {L s e κ k : Nat}
theorem e_shard {c : Int32} (h : ER K U c) (F : VV) {Z : Nat} (hZ : F 0 1 = nI Z) (hZ4 : Z ≤ 4) (x : Int32) : ∀ r i, i + r = Z → ∀ n, r < n → M_X1_takeShard_4 k F n x (nI i) K = some (x, K) := by
  intro r
  induction r with
  | zero =>
    intro i hi n hn
    obtain ⟨n, rfl⟩ : ∃ f, n = f + 1 := ⟨n - 1, by omega⟩
    simp only [M_X1_takeShard_4]
    rw [hZ, if_pos (nI_le (by omega) (by omega))]
  | succ r ih =>
    intro i hi n hn
    obtain ⟨n, rfl⟩ : ∃ f, n = f + 1 := ⟨n - 1, by omega⟩
    have h25 : M_X1_takeShard_25 k F (M_X1_takeShard_4 k F n) x (nI i) K = some (x, K) := by
      simp only [M_X1_takeShard_25]
      rw [e_takeN h, Option.bind_some, if_pos rfl, nI_1]
      exact ih (i + 1) (by omega) n (by omega)
    have hin : ∃ y, M_X7_isNumberIn k K x = some y := by
      simp only [M_X7_isNumberIn, M_X7_isNumberIn_0]
      by_cases h1 : K 0 6 = 2
      · rw [if_pos h1]
        by_cases h2 : (12 : Int32) ≤ K 0 7
        · rw [if_pos h2]; exact ⟨_, rfl⟩
        · rw [if_neg h2]
          by_cases h3 : (x >>> (K 0 7 &&& 31)) &&& (1 : Int32) = 1
          · rw [if_pos h3]; exact ⟨_, rfl⟩
          · rw [if_neg h3]; exact ⟨_, rfl⟩
      · rw [if_neg h1]; exact ⟨_, rfl⟩
    obtain ⟨y, hy⟩ := hin
    simp only [M_X1_takeShard_4]
    rw [hZ, if_neg (nI_ge (by omega) (by omega)), hy, Option.bind_some, e_fail h, Option.bind_some, h25]
    by_cases h0 : y = 0
    · rw [if_pos h0]
    · rw [if_neg h0]
/-- behind an error the reference leaves its loop -/
theorem e_ten {c : Int32} (h : ER K U c) {Z : Nat} (hZ : U 2 1 = nI Z) (n : Nat) (x : Int32) (i : Nat) : M_X10_readTenant_29 k (n + 1) x (nI i) U = M_X10_readTenant_158 k x U := by
  simp only [M_X10_readTenant_29]
  rw [if_pos (show inb (1 : Int32) 1692 = true by decide), if_neg h.un]
  by_cases h1 : U 2 (1 : Int32).toNatClampNeg ≤ nI i
  · rw [if_pos h1]
  · rw [if_neg h1]
theorem e_124 {c : Int32} (h : ER K U c) (κ29 : Int32 → Int32 → VV → Option VV) (x1 x2 y : Int32) : M_X10_readTenant_124 k κ29 x1 x2 y U = κ29 (x1 ||| 0) (x2 + 1) U := by
  simp only [M_X10_readTenant_124, lt_eq]
  rw [e_check h, Option.bind_some, if_neg h.un, e_adv h, Option.bind_some]
theorem e_96 {c : Int32} (h : ER K U c) (κ29 : Int32 → Int32 → VV → Option VV) (x1 x2 y : Int32) : M_X10_readTenant_96 k κ29 x1 x2 y U = κ29 (x1 ||| 0) (x2 + 1) U := by
  simp only [M_X10_readTenant_96]
  rw [e_check h, Option.bind_some, if_neg h.un, e_124 h]
theorem e_60 {c : Int32} (h : ER K U c) (κ29 : Int32 → Int32 → VV → Option VV) (x1 x2 y : Int32) : M_X10_readTenant_60 k κ29 x1 x2 y U = κ29 (x1 ||| 0) (x2 + 1) U := by
  simp only [M_X10_readTenant_60]
  rw [e_check h, Option.bind_some, if_neg h.un, e_96 h]
theorem or_bit {a w : Nat} (ha : a < 2 ^ 31) (hw : w < 31) : nI a ||| ((1 : Int32) <<< (nI w &&& 31)) = nI (a ||| 2 ^ w) := by
  rw [bit_nI (by omega), or_nI]
/-- a shard is read -/
theorem s_shard (hk : 20000 ≤ k) {F : VV} {W Z : Nat} (hW : W ≤ 12) (hZ4 : Z ≤ 4) (f0 : F 0 0 = nI W) (f1 : F 0 1 = nI Z) : ∀ r i (K U : VV) (s e κ a : Nat), i + r = Z → GD K U b L s e κ → U 2 0 = nI W → U 2 1 = nI Z → a < 2 ^ W → pcn a 12 = i → ∀ n n', r < n → r < n' →
    (∃ K' U' s' e' κ' a', M_X1_takeShard_4 k F n (nI a) (nI i) K = some (nI a', K') ∧ M_X10_readTenant_29 k n' (nI a) (nI i) U = M_X10_readTenant_158 k (nI a') U' ∧ GD K' U' b L s' e' κ' ∧ FRU U U' ∧ a' < 2 ^ W ∧ pcn a' 12 = Z) ∨
    (∃ K' U' c x x', M_X1_takeShard_4 k F n (nI a) (nI i) K = some (x, K') ∧ M_X10_readTenant_29 k n' (nI a) (nI i) U = M_X10_readTenant_158 k x' U' ∧ ER K' U' c ∧ FRU U U') := by
  have c0 : Int32.toNatClampNeg 0 = 0 := by decide
  have c1 : Int32.toNatClampNeg 1 = 1 := by decide
  intro r
  induction r with
  | zero =>
    intro i K U s e κ a hi g u0 u1 ha hp n n' hn hn'
    obtain ⟨n, rfl⟩ : ∃ f, n = f + 1 := ⟨n - 1, by omega⟩
    obtain ⟨n', rfl⟩ : ∃ f, n' = f + 1 := ⟨n' - 1, by omega⟩
    left
    refine ⟨K, U, s, e, κ, a, ?_, ?_, g, FRU.refl U, ha, by omega⟩
    · simp only [M_X1_takeShard_4]
      rw [f1, if_pos (nI_le (by omega) (by omega))]
    · simp only [M_X10_readTenant_29]
      rw [if_pos (show inb (1 : Int32) 1692 = true by decide), c1, u1, if_pos (nI_le (by omega) (by omega))]
  | succ r ih =>
    intro i K U s e κ a hi g u0 u1 ha hp n n' hn hn'
    obtain ⟨n, rfl⟩ : ∃ f, n = f + 1 := ⟨n - 1, by omega⟩
    obtain ⟨n', rfl⟩ : ∃ f, n' = f + 2 := ⟨n' - 2, by omega⟩
    have hk3 := g.1.k3
    have h12 : (2 : Nat) ^ W ≤ 2 ^ 12 := Nat.pow_le_pow_right (by decide) hW
    have ha12 : a < 4096 := by omega
    -- what an error leads to
    have bad : ∀ (d : Int32), d ≠ 0 → (∀ K' U', M_X7_fail k K d = some K' → ER K' U' d → ∃ x, M_X1_takeShard_4 k F (n + 1) (nI a) (nI i) K = some (x, K')) → (∀ K' U', M_X10_flaw k U d = some U' → ER K' U' d → M_X10_readTenant_29 k (n' + 2) (nI a) (nI i) U = M_X10_readTenant_29 k (n' + 1) (nI a ||| 0) (nI i + 1) U') →
        ∃ K' U' c x x', M_X1_takeShard_4 k F (n + 1) (nI a) (nI i) K = some (x, K') ∧ M_X10_readTenant_29 k (n' + 2) (nI a) (nI i) U = M_X10_readTenant_158 k x' U' ∧ ER K' U' c ∧ FRU U U' := fun d hd hc hr => by
      obtain ⟨K', U', q1, q2, er, f⟩ := t_fail (k := k) g hd
      obtain ⟨x, hx⟩ := hc K' U' q1 er
      refine ⟨K', U', d, x, nI a ||| 0, hx, ?_, er, f⟩
      rw [hr K' U' q2 er, nI_1]
      exact e_ten er (Z := Z) (by rw [f.1 2 (by decide)]; exact u1) n' _ (i + 1)
    have c4 : M_X1_takeShard_4 k F (n + 1) (nI a) (nI i) K = ((M_X7_isNumberIn k K (nI a)).bind fun q5 => if q5 = 0 then M_X1_takeShard_25 k F (M_X1_takeShard_4 k F n) (nI a) (nI i) K else ((M_X7_fail k K 4).bind fun q7 => M_X1_takeShard_25 k F (M_X1_takeShard_4 k F n) (nI a) (nI i) q7)) := by
      simp only [M_X1_takeShard_4]
      rw [f1, if_neg (nI_ge (by omega) (by omega))]
    have r29 : M_X10_readTenant_29 k (n' + 2) (nI a) (nI i) U = (if nI κ = 2 then M_X10_readTenant_60 k (M_X10_readTenant_29 k (n' + 1)) (nI a) (nI i) 1 U else M_X10_readTenant_60 k (M_X10_readTenant_29 k (n' + 1)) (nI a) (nI i) 0 U) := by
      simp only [M_X10_readTenant_29]
      rw [if_pos (show inb (1 : Int32) 1692 = true by decide), c1, u1, if_neg (nI_ge (by omega) (by omega)), if_pos g.2.2.2, g.2.2.1.uk]
    have e25 : ∀ (K' U' : VV) (c : Int32), ER K' U' c → M_X1_takeShard_25 k F (M_X1_takeShard_4 k F n) (nI a) (nI i) K' = some (nI a, K') := fun K' U' c er => by
      simp only [M_X1_takeShard_25]
      rw [e_takeN er, Option.bind_some, if_pos rfl, nI_1]
      exact e_shard er F f1 hZ4 (nI a) r (i + 1) (by omega) n (by omega)
    by_cases h2 : κ = 2
    · have t2 : nI κ = 2 := by rw [h2]; rfl
      have hval := r_value hk g.1 g.2.2.1 h2
      have hin : M_X7_isNumberIn k K (nI a) = some (if dec b s (e - s) < 12 ∧ a.testBit (dec b s (e - s)) = true then 1 else 0) := by
        simp only [M_X7_isNumberIn, M_X7_isNumberIn_0]
        rw [g.2.1.k6, if_pos t2, g.2.1.k7 h2]
        by_cases hl : dec b s (e - s) < 12
        · rw [Nat.min_eq_left (by omega), if_neg (show ¬ (12 : Int32) ≤ nI (dec b s (e - s)) from nI_ge (b := 12) hl (by decide)), bitAt (by omega) (by omega)]
          by_cases hb : a.testBit (dec b s (e - s)) = true
          · rw [if_pos hb, if_pos rfl, if_pos (show dec b s (e - s) < 12 ∧ a.testBit (dec b s (e - s)) = true from ⟨hl, hb⟩)]
          · rw [if_neg hb, if_neg (show ¬ (0 : Int32) = 1 by decide), if_neg (show ¬ (dec b s (e - s) < 12 ∧ a.testBit (dec b s (e - s)) = true) from fun q => hb q.2)]
        · rw [if_pos (show (12 : Int32) ≤ nI (min (dec b s (e - s)) 100000) from nI_le (a := 12) (by omega) (by omega)), if_neg (show ¬ (dec b s (e - s) < 12 ∧ a.testBit (dec b s (e - s)) = true) from fun q => hl q.1)]
      have r60 : M_X10_readTenant_60 k (M_X10_readTenant_29 k (n' + 1)) (nI a) (nI i) 1 U = (if dec b s (e - s) < W then M_X10_readTenant_96 k (M_X10_readTenant_29 k (n' + 1)) (nI a) (nI i) 1 U else M_X10_readTenant_96 k (M_X10_readTenant_29 k (n' + 1)) (nI a) (nI i) 0 U) := by
        simp only [M_X10_readTenant_60]
        rw [chk1, Option.bind_some, if_pos g.2.2.2, hval, Option.bind_some, if_pos (show inb (0 : Int32) 1692 = true by decide), c0, u0]
        simp only [M_X10_inRange, M_X10_inRange_0]
        rw [if_neg (nI_pos (by omega))]
        by_cases hl : dec b s (e - s) < W
        · rw [if_neg (Int32.not_lt.mpr ((le_hi (by omega) (by omega)).mpr (by omega))), Option.bind_some, if_neg (show ¬ (1 : Int32) = 0 by decide), if_pos hl]
        · rw [if_pos (Int32.not_le.mp (fun q => by have := (le_hi (by omega) (by omega)).mp q; omega)), Option.bind_some, if_pos rfl, if_neg hl]
      by_cases hl : dec b s (e - s) < W
      · have r96 : M_X10_readTenant_96 k (M_X10_readTenant_29 k (n' + 1)) (nI a) (nI i) 1 U = (if a.testBit (dec b s (e - s)) = true then M_X10_readTenant_124 k (M_X10_readTenant_29 k (n' + 1)) (nI a) (nI i) 0 U else M_X10_readTenant_124 k (M_X10_readTenant_29 k (n' + 1)) (nI a) (nI i) 1 U) := by
          simp only [M_X10_readTenant_96]
          rw [chk1, Option.bind_some, if_pos g.2.2.2, hval, Option.bind_some, Nat.min_eq_left (by omega), has10 k (by omega) (by omega), Option.bind_some]
          by_cases hb : a.testBit (dec b s (e - s)) = true
          · rw [if_pos hb, if_neg (show ¬ (1 : Int32) = 0 by decide), if_pos hb]
          · rw [if_neg hb, if_pos rfl, if_neg hb]
        by_cases hb : a.testBit (dec b s (e - s)) = true
        · right
          refine bad 4 (by decide) (fun K' U' q1 er => ⟨nI a, ?_⟩) (fun K' U' q2 er => ?_)
          · rw [c4, hin, Option.bind_some, if_pos (show dec b s (e - s) < 12 ∧ a.testBit (dec b s (e - s)) = true from ⟨by omega, hb⟩), if_neg (show ¬ (1 : Int32) = 0 by decide), q1, Option.bind_some, e25 K' U' 4 er]
          · rw [r29, if_pos t2, r60, if_pos hl, r96, if_pos hb]
            simp only [M_X10_readTenant_124, lt_eq]
            rw [chk0, q2, Option.bind_some, if_neg er.un, e_adv er, Option.bind_some]
        · rcases t_numQ hk g (p := 0) (q := nI W - 1) (a := 0) (B := W) rfl rfl (by decide) (by omega) with ⟨K1, U1, v, s1, e1, κ1, a1, b1, v1, v2, q1, g1, f⟩ | ⟨K1, U1, c, a1, b1, er, f⟩
          · -- the number that was read
            have hv : v = dec b s (e - s) := by
              have hb1 : M_X10_readNumber k U 0 (nI W - 1) = some (nI (dec b s (e - s)), U1) := by
                obtain ⟨K2, U2, s2, e2, κ2, z1, z2, z3, z4, z5⟩ := t_ad hk g (by omega)
                simp only [M_X10_readNumber, M_X10_readNumber_0, M_X10_readNumber_21, M_X10_readNumber_52, M_X10_inRange, M_X10_inRange_0] at b1 ⊢
                rw [if_pos g.2.2.2, g.2.2.1.uk, if_pos t2, chk1, Option.bind_some, hval, Option.bind_some, if_pos g.2.2.2, Nat.min_eq_left (by omega), if_neg (nI_pos (by omega)), if_neg (Int32.not_lt.mpr ((le_hi (by omega) (by omega)).mpr (by omega))), Option.bind_some, if_neg (show ¬ (1 : Int32) = 0 by decide), chk1, Option.bind_some, z3, Option.bind_some, if_pos z5.1.2.2.2] at b1 ⊢
                have b1 := Option.some.inj b1
                rw [(Prod.mk.inj b1).2]
              rw [hb1] at b1
              have := (Prod.mk.inj (Option.some.inj b1)).1
              exact ((nI_eq (by omega) (by omega)).mp this).symm
            subst hv
            have hlt : a ||| 2 ^ dec b s (e - s) < 2 ^ W := Nat.or_lt_two_pow ha (Nat.pow_lt_pow_right (by decide) hl)
            have hpn : pcn (a ||| 2 ^ dec b s (e - s)) 12 = i + 1 := by
              rw [pcn_or (by simpa using hb), hp, if_pos (by omega)]
            have hne : ¬ nI (dec b s (e - s)) = -1 := m1_ne (by omega)
            have cs : M_X1_takeShard_4 k F (n + 1) (nI a) (nI i) K = M_X1_takeShard_4 k F n (nI (a ||| 2 ^ dec b s (e - s))) (nI (i + 1)) K1 := by
              rw [c4, hin, Option.bind_some, if_neg (show ¬ (dec b s (e - s) < 12 ∧ a.testBit (dec b s (e - s)) = true) from fun q => hb q.2), if_pos rfl]
              simp only [M_X1_takeShard_25, lt_eq]
              rw [f0, a1, Option.bind_some, if_neg hne, or_bit (by omega) (by omega), nI_1]
            have rs : M_X10_readTenant_29 k (n' + 2) (nI a) (nI i) U = M_X10_readTenant_29 k (n' + 1) (nI (a ||| 2 ^ dec b s (e - s))) (nI (i + 1)) U1 := by
              obtain ⟨K2, U2, s2, e2, κ2, z1, z2, z3, z4, z5⟩ := t_ad hk g (by omega)
              have hU : U2 = U1 := by
                simp only [M_X10_readNumber, M_X10_readNumber_0, M_X10_readNumber_21, M_X10_readNumber_52, M_X10_inRange, M_X10_inRange_0] at b1
                rw [if_pos g.2.2.2, g.2.2.1.uk, if_pos t2, chk1, Option.bind_some, hval, Option.bind_some, if_pos g.2.2.2, Nat.min_eq_left (by omega), if_neg (nI_pos (by omega)), if_neg (Int32.not_lt.mpr ((le_hi (by omega) (by omega)).mpr (by omega))), Option.bind_some, if_neg (show ¬ (1 : Int32) = 0 by decide), chk1, Option.bind_some, z3, Option.bind_some, if_pos z5.1.2.2.2] at b1
                exact (Prod.mk.inj (Option.some.inj b1)).2
              rw [r29, if_pos t2, r60, if_pos hl, r96, if_neg hb]
              simp only [M_X10_readTenant_124, lt_eq]
              rw [chk1, Option.bind_some, if_pos g.2.2.2, hval, Option.bind_some, Nat.min_eq_left (by omega), or_bit (by omega) (by omega), z3, Option.bind_some, nI_1, hU]
            have u2 : U1 2 = U 2 := f.1 2 (by decide)
            rw [cs, rs]
            rcases ih (i + 1) K1 U1 s1 e1 κ1 _ (by omega) g1 (by rw [u2]; exact u0) (by rw [u2]; exact u1) hlt hpn n (n' + 1) (by omega) (by omega) with ⟨K', U', s', e', κ', a', y1, y2, y3, y4, y5⟩ | ⟨K', U', c, x, x', y1, y2, y3, y4⟩
            · exact Or.inl ⟨K', U', s', e', κ', a', y1, y2, y3, f.trans y4, y5⟩
            · exact Or.inr ⟨K', U', c, x, x', y1, y2, y3, f.trans y4⟩
          · -- it is in its range
            exfalso
            obtain ⟨K2, U2, s2, e2, κ2, z1, z2, z3, z4, z5⟩ := t_ad hk g (by omega)
            simp only [M_X10_readNumber, M_X10_readNumber_0, M_X10_readNumber_21, M_X10_readNumber_52, M_X10_inRange, M_X10_inRange_0] at b1
            rw [if_pos g.2.2.2, g.2.2.1.uk, if_pos t2, chk1, Option.bind_some, hval, Option.bind_some, if_pos g.2.2.2, Nat.min_eq_left (by omega), if_neg (nI_pos (by omega)), if_neg (Int32.not_lt.mpr ((le_hi (by omega) (by omega)).mpr (by omega))), Option.bind_some, if_neg (show ¬ (1 : Int32) = 0 by decide), chk1, Option.bind_some, z3, Option.bind_some, if_pos z5.1.2.2.2] at b1
            have hU := (Prod.mk.inj (Option.some.inj b1)).2
            exact er.un (by rw [← hU]; exact z5.1.2.2.2)
      · right
        refine bad 2 (by decide) (fun K' U' q1 er => ⟨nI a, ?_⟩) (fun K' U' q2 er => ?_)
        · have hnb : ¬ (dec b s (e - s) < 12 ∧ a.testBit (dec b s (e - s)) = true) := fun q => by
            have h1 : a < 2 ^ dec b s (e - s) := Nat.lt_of_lt_of_le ha (Nat.pow_le_pow_right (by decide) (by omega))
            rw [Nat.testBit_lt_two_pow h1] at q
            exact absurd q.2 (by decide)
          have hfail : M_X7_takeNumber k K 0 (nI W - 1) = some (-1, K') := by
            simp only [M_X7_takeNumber, M_X7_takeNumber_0, lt_eq]
            rw [g.2.1.k6, if_pos t2, g.2.1.k7 h2, if_neg (nI_pos (by omega)), if_neg (fun q => by have := (le_hi (by omega) (by omega)).mp q; omega), q1, Option.bind_some]
            simp only [M_X7_takeNumber_36]
            rw [c_bad er.kn, Option.bind_some, if_pos rfl]
          rw [c4, hin, Option.bind_some, if_neg hnb, if_pos rfl]
          simp only [M_X1_takeShard_25]
          rw [f0, hfail, Option.bind_some, if_pos rfl, nI_1]
          exact e_shard er F f1 hZ4 (nI a) r (i + 1) (by omega) n (by omega)
        · rw [r29, if_pos t2, r60, if_neg hl]
          simp only [M_X10_readTenant_96]
          rw [chk0, q2, Option.bind_some, if_neg er.un, e_124 er]
    · right
      have t2 : ¬ nI κ = 2 := fun q => h2 ((nI_eq (by omega) (by decide)).mp (show nI κ = nI 2 from q))
      refine bad 1 (by decide) (fun K' U' q1 er => ⟨nI a, ?_⟩) (fun K' U' q2 er => ?_)
      · have hin : M_X7_isNumberIn k K (nI a) = some 0 := by
          simp only [M_X7_isNumberIn, M_X7_isNumberIn_0]
          rw [g.2.1.k6, if_neg t2]
        have hfail : M_X7_takeNumber k K 0 (nI W - 1) = some (-1, K') := by
          simp only [M_X7_takeNumber, M_X7_takeNumber_0, lt_eq]
          rw [g.2.1.k6, if_neg t2, q1, Option.bind_some]
          simp only [M_X7_takeNumber_36]
          rw [c_bad er.kn, Option.bind_some, if_pos rfl]
        rw [c4, hin, Option.bind_some, if_pos rfl]
        simp only [M_X1_takeShard_25]
        rw [f0, hfail, Option.bind_some, if_pos rfl, nI_1]
        exact e_shard er F f1 hZ4 (nI a) r (i + 1) (by omega) n (by omega)
      · rw [r29, if_neg t2]
        simp only [M_X10_readTenant_60]
        rw [chk0, q2, Option.bind_some, if_neg er.un, e_96 er]
end TEN
