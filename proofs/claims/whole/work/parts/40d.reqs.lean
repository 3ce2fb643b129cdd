-- ===== a text of a fleet is read: tenants and requests =====
section REQ
variable {K U : VV} {b : Nat → Int32} {L s e κ k : Nat}
theorem t_158 {U' : VV} {m : Nat} (he : M_X10_expect k U 59 = some U') (h11 : U' 0 11 = 0) (h2 : U' 2 2 = nI m) (hm : m < 12) (x : Int32) : M_X10_readTenant_158 k x U = some (va_up U' 2 (tenG (U' 2) m x)) := by
  have c2 : Int32.toNatClampNeg 2 = 2 := by decide
  have i2 : inb (2 : Int32) 1692 = true := by decide
  simp only [M_X10_readTenant_158, lt_eq]
  rw [he, Option.bind_some, if_pos h11, if_pos i2, c2, h2, tenAt k m 0 (x := 0) rfl, Option.bind_some, ifin rfl (by omega), nI_clamp (by omega), tenAt k m 1 (x := 1) rfl, Option.bind_some, ifin rfl (by omega), nI_clamp (by omega), tenAt k m 2 (x := 2) rfl, Option.bind_some, ifin rfl (by omega), nI_clamp (by omega), if_pos i2, if_pos i2]
  show some (va_up (va_up (va_up (va_up U' 2 (upd (U' 2) (36 + 3 * m + 0) x)) 2 (upd (upd (U' 2) (36 + 3 * m + 0) x) (36 + 3 * m + 1) (-1))) 2 (upd (upd (upd (U' 2) (36 + 3 * m + 0) x) (36 + 3 * m + 1) (-1)) (36 + 3 * m + 2) 0)) 2 (upd (upd (upd (upd (U' 2) (36 + 3 * m + 0) x) (36 + 3 * m + 1) (-1)) (36 + 3 * m + 2) 0) 2 (upd (upd (upd (U' 2) (36 + 3 * m + 0) x) (36 + 3 * m + 1) (-1)) (36 + 3 * m + 2) 0 2 + 1))) = some (va_up U' 2 (tenG (U' 2) m x))
  rw [va_up_up, va_up_up, va_up_up, upd_ne (upd (upd (U' 2) (36 + 3 * m + 0) x) (36 + 3 * m + 1) (-1)) 0 (show 2 ≠ 36 + 3 * m + 2 by omega), upd_ne (upd (U' 2) (36 + 3 * m + 0) x) (-1) (show 2 ≠ 36 + 3 * m + 1 by omega), upd_ne (U' 2) x (show 2 ≠ 36 + 3 * m + 0 by omega), h2, nI_1]
  rfl
theorem e_158 {c : Int32} (h : ER K U c) (x : Int32) : M_X10_readTenant_158 k x U = some U := by
  simp only [M_X10_readTenant_158]
  rw [e_exp h, Option.bind_some, if_neg h.un]
theorem e_79 {c : Int32} (h : ER K U c) (hk : 20000 ≤ k) (n : Nat) : M_X10_readAll_79 k (n + 1) U = M_X10_readAll_95 k k U := by
  simp only [M_X10_readAll_79]
  rw [e_isW h hk, Option.bind_some, if_pos rfl]
theorem e_tens {c : Int32} (h : ER K U c) (F : VV) (n : Nat) (i : Int32) : M_X1_readTenants_2 k (n + 1) i K F = some (K, F) := by
  simp only [M_X1_readTenants_2]
  rw [e_is h, Option.bind_some, if_pos rfl]
  by_cases h1 : 12 < i
  · rw [if_pos h1]
  · rw [if_neg h1]
theorem s_tenants (hk : 20000 ≤ k) {W Z : Nat} {st : Nat → Nat} : ∀ r m (K U F : VV) (s e κ : Nat) (sh : Nat → Nat), m + r = 12 → GD K U b L s e κ → LF F U W Z m st sh → ∀ n n', r + 2 < n → r + 2 < n' →
    (∃ K' F' U' c, M_X1_readTenants_2 k n (nI m) K F = some (K', F') ∧ M_X10_readAll_79 k n' U = M_X10_readAll_95 k k U' ∧ ER K' U' c ∧ FRD U U') ∨
    (∃ K' F' U' s' e' κ' m' sh', M_X1_readTenants_2 k n (nI m) K F = some (K', F') ∧ M_X10_readAll_79 k n' U = M_X10_readAll_95 k k U' ∧ GD K' U' b L s' e' κ' ∧ LF F' U' W Z m' st sh' ∧ FRD U U') := by
  have c2 : Int32.toNatClampNeg 2 = 2 := by decide
  have i2 : inb (2 : Int32) 1692 = true := by decide
  -- no further tenant
  have stop : ∀ n n' m (K U F : VV) (s e κ : Nat), m ≤ 12 → GD K U b L s e κ → M_X7_is k K 9 = some 0 → M_X10_isWord k U 60 = some 0 → M_X1_readTenants_2 k (n + 1) (nI m) K F = some (K, F) ∧ M_X10_readAll_79 k (n' + 1) U = M_X10_readAll_95 k k U := fun n n' m K U F s e κ hm g h1 h2 => by
    have h12 : ¬ (12 : Int32) < nI m := nI_nlt (a := 12) hm (by decide)
    constructor
    · simp only [M_X1_readTenants_2]
      rw [if_neg h12, h1, Option.bind_some, if_pos rfl]
    · simp only [M_X10_readAll_79]
      rw [h2, Option.bind_some, if_pos rfl]
  intro r
  induction r with
  | zero =>
    intro m K U F s e κ sh hm g lf n n' hn hn'
    obtain ⟨n, rfl⟩ : ∃ f, n = f + 2 := ⟨n - 2, by omega⟩
    obtain ⟨n', rfl⟩ : ∃ f, n' = f + 2 := ⟨n' - 2, by omega⟩
    have hm : m = 12 := by omega
    subst hm
    rcases t_is hk g wd_tenant with ⟨h0, h1, h2⟩ | ⟨h1, h2⟩
    · left
      obtain ⟨K', U', q1, q2, er, f⟩ := t_fail (k := k) g (c := 3) (by decide)
      have u2 : U 2 2 = nI 12 := lf.2.2.1.s2
      have u1 : U' 2 1 = nI Z := by rw [f.1 2 (by decide)]; exact lf.2.2.1.s1
      refine ⟨K', F, U', 3, ?_, ?_, er, f.d⟩
      · have h12 : ¬ (12 : Int32) < nI 12 := by decide
        simp only [M_X1_readTenants_2]
        rw [if_neg h12, h1, Option.bind_some, if_neg (show ¬ (1 : Int32) = 0 by decide), if_pos (show nI 12 = (12 : Int32) by decide), q1, Option.bind_some]
        exact e_tens er F n _
      · obtain ⟨f1, hf1⟩ : ∃ f, k = f + 1 := ⟨k - 1, by omega⟩
        have hT : M_X10_readTenant k U = some U' := by
          simp only [M_X10_readTenant, M_X10_readTenant_0, M_X10_readTenant_17]
          rw [if_pos i2, c2, u2, if_pos (show (12 : Int32) ≤ nI 12 by decide), chk0, q2, Option.bind_some, e_adv er, Option.bind_some]
          have := e_ten (k := k) er u1 f1 0 0
          rw [← hf1] at this
          exact this.trans (e_158 er 0)
        have e1 : M_X10_readAll_79 k (n' + 2) U = M_X10_readAll_79 k (n' + 1) U' := by
          show ((M_X10_isWord k U 60).bind fun q9 => if q9 = 0 then M_X10_readAll_95 k k U else ((M_X10_readTenant k U).bind fun q11 => M_X10_readAll_79 k (n' + 1) q11)) = _
          rw [h2, Option.bind_some, if_neg (show ¬ (1 : Int32) = 0 by decide), hT, Option.bind_some]
        rw [e1]
        exact e_79 er hk n'
    · right
      obtain ⟨z1, z2⟩ := stop (n + 1) (n' + 1) 12 K U F s e κ (Nat.le_refl _) g h1 h2
      exact ⟨K, F, U, s, e, κ, 12, sh, z1, z2, g, lf, FRD.refl U⟩
  | succ r ih =>
    intro m K U F s e κ sh hm g lf n n' hn hn'
    obtain ⟨n, rfl⟩ : ∃ f, n = f + 2 := ⟨n - 2, by omega⟩
    obtain ⟨n', rfl⟩ : ∃ f, n' = f + 2 := ⟨n' - 2, by omega⟩
    have w := lf.1
    have w4 := w.z4
    have w12 := w.w12
    rcases t_is hk g wd_tenant with ⟨h0, h1, h2⟩ | ⟨h1, h2⟩
    · obtain ⟨K1, U1, s1, e1, κ1, a1, -, b1, -, g1, f1⟩ := t_ad hk g h0
      have lf1 := lf.mv f1
      have u2 : U 2 2 = nI m := lf.2.2.1.s2
      have h12 : ¬ (12 : Int32) < nI m := nI_nlt (a := 12) (by omega) (by decide)
      have h12' : ¬ (12 : Int32) ≤ nI m := nI_ge (b := 12) (by omega) (by decide)
      have hme : ¬ nI m = 12 := fun q => by have := (nI_eq (by omega) (by decide)).mp (show nI m = nI 12 from q); omega
      have cls : M_X1_readTenants_2 k (n + 2) (nI m) K F = ((M_X1_takeShard_4 k F k 0 0 K1).bind fun q6 => (M_X0_addTenant k F q6.1).bind fun q7 => (M_X7_take k q6.2 3).bind fun q8 => M_X1_readTenants_2 k (n + 1) (nI (m + 1)) q8 q7) := by
        show (if (12 : Int32) < nI m then _ else ((M_X7_is k K 9).bind fun q2 => if q2 = 0 then _ else (if nI m = 12 then _ else ((M_X7_advance k K).bind fun q5 => (M_X1_takeShard k q5 F).bind fun q6 => (M_X0_addTenant k F q6.1).bind fun q7 => (M_X7_take k q6.2 3).bind fun q8 => M_X1_readTenants_2 k (n + 1) (nI m + 1) q8 q7)))) = _
        rw [if_neg h12, h1, Option.bind_some, if_neg (show ¬ (1 : Int32) = 0 by decide), if_neg hme, a1, Option.bind_some, nI_1]
        rfl
      have ref : M_X10_readAll_79 k (n' + 2) U = ((M_X10_readTenant_29 k k 0 0 U1).bind fun q11 => M_X10_readAll_79 k (n' + 1) q11) := by
        show ((M_X10_isWord k U 60).bind fun q9 => if q9 = 0 then M_X10_readAll_95 k k U else ((M_X10_readTenant k U).bind fun q11 => M_X10_readAll_79 k (n' + 1) q11)) = _
        have hT : M_X10_readTenant k U = M_X10_readTenant_29 k k 0 0 U1 := by
          simp only [M_X10_readTenant, M_X10_readTenant_0, M_X10_readTenant_17]
          rw [if_pos i2, c2, u2, if_neg h12', chk1, Option.bind_some, b1, Option.bind_some]
        rw [h2, Option.bind_some, if_neg (show ¬ (1 : Int32) = 0 by decide), hT]
      have hsh := s_shard (L := L) hk (F := F) (W := W) (Z := Z) w12 w4 lf.2.1.s0 lf.2.1.s1 Z 0 K1 U1 s1 e1 κ1 0 (by omega) g1 lf1.2.2.1.s0 lf1.2.2.1.s1 (Nat.pos_of_ne_zero (by simp)) (by decide) k k (by omega) (by omega)
      rcases hsh with ⟨K2, U2, s2, e2, κ2, a, y1, y2, g2, f2, ha, hp⟩ | ⟨K2, U2, c, x, x', y1, y2, er, f2⟩
      · have y1 : M_X1_takeShard_4 k F k 0 0 K1 = some (nI a, K2) := y1
        have y2 : M_X10_readTenant_29 k k 0 0 U1 = M_X10_readTenant_158 k (nI a) U2 := y2
        obtain ⟨K3, U3, a3, b3, f3, n3⟩ := t_expect hk g2 sy_semi
        have F3 : FRU U U3 := (f1.trans f2).trans f3
        have lf3 := lf.mv F3
        rw [cls, y1, Option.bind_some, c_ten (m := m) (by omega) lf.2.1.s2, Option.bind_some, a3, Option.bind_some, ref, y2]
        rcases n3 with ⟨s3, e3, κ3, -, g3⟩ | ⟨c, er⟩
        · have lf4 := l_ten lf3 (by omega) ha hp
          rw [t_158 (m := m) b3 g3.2.2.2 lf3.2.2.1.s2 (by omega) (nI a), Option.bind_some]
          have fr : FRD U (va_up U3 2 (tenG (U3 2) m (nI a))) := F3.d.trans (FRD.put U3 _)
          rcases ih (m + 1) K3 _ _ s3 e3 κ3 _ (by omega) (g3.fr (U' := va_up U3 2 (tenG (U3 2) m (nI a))) rfl rfl) lf4 (n + 1) (n' + 1) (by omega) (by omega) with ⟨K', F', U', c, r1, r2, r3, r4⟩ | ⟨K', F', U', s', e', κ', m', sh', r1, r2, r3, r4, r5⟩
          · exact Or.inl ⟨K', F', U', c, r1, r2, r3, fr.trans r4⟩
          · exact Or.inr ⟨K', F', U', s', e', κ', m', sh', r1, r2, r3, r4, fr.trans r5⟩
        · left
          have hx : M_X10_readTenant_158 k (nI a) U2 = some U3 := by
            simp only [M_X10_readTenant_158]
            rw [b3, Option.bind_some, if_neg er.un]
          rw [hx, Option.bind_some, e_tens er _ n _, e_79 er hk n']
          exact ⟨K3, _, U3, c, rfl, rfl, er, F3.d⟩
      · left
        have y1 : M_X1_takeShard_4 k F k 0 0 K1 = some (x, K2) := y1
        have y2 : M_X10_readTenant_29 k k 0 0 U1 = M_X10_readTenant_158 k x' U2 := y2
        rw [cls, y1, Option.bind_some, c_ten (m := m) (by omega) lf.2.1.s2, Option.bind_some, e_take er, Option.bind_some, ref, y2, e_158 er, Option.bind_some, e_tens er _ n _, e_79 er hk n']
        exact ⟨K2, _, U2, c, rfl, rfl, er, f1.d.trans f2.d⟩
    · right
      obtain ⟨z1, z2⟩ := stop (n + 1) (n' + 1) m K U F s e κ (by omega) g h1 h2
      exact ⟨K, F, U, s, e, κ, m, sh, z1, z2, g, lf, FRD.refl U⟩
-- requests
theorem c_addBad (F : VV) (k : Nat) (c p : Int32) : ∃ F' v, M_X0_addRequest k F (-1) c p = some (v, F') := by
  have hz : ∀ S, tAt 12 3 S (-1) 1 = 0 := fun S => if_neg (fun h => absurd h.1 (by decide))
  have h65 : ∀ x y2 y3 (S : VV), ∃ F' v, M_X0_addRequest_65 k (-1) x x y2 y3 S = some (v, F') := fun x y2 y3 S => by
    simp only [M_X0_addRequest_65, M_X0_isQuarantined, M_X0_isQuarantined_0, M_X0_end, M_X0_end_0, lt_eq, TQ_put, TT_at, Option.bind_some, hz]
    rw [if_neg (show ¬ (0 : Int32) = -1 by decide), Option.bind_some, if_neg (show ¬ (1 : Int32) = 0 by decide)]
    exact ⟨_, _, rfl⟩
  simp only [M_X0_addRequest, M_X0_addRequest_0, lt_eq, TQ_put, Option.bind_some]
  by_cases h : p = 0
  · rw [if_pos h]; exact h65 _ _ _ _
  · rw [if_neg h]; exact h65 _ _ _ _
theorem JR.mvU {F U U' : VV} {A : AF} {N : Nat} (J : JR F U 2 A N) (f : FRU U U') : JR F U' 2 A N := by
  obtain ⟨fg, mk, ks, ks', tk, tkt, R, M, I, hN⟩ := J
  exact ⟨fg, mk, ks, ks', tk, tkt, R, M.mv2 (f.2 3 (by decide) (by decide) (by decide) (by decide) (by decide)) (f.1 2 (by decide)), I, hN⟩
theorem JR.r23 {F U : VV} {A : AF} {N : Nat} (J : JR F U 2 A N) : U 2 2 = nI A.m ∧ U 2 3 = nI A.n ∧ F 0 2 = nI A.m := by
  obtain ⟨fg, mk, ks, ks', tk, tkt, R, M, I, hN⟩ := J
  exact ⟨M.s2, M.s3, R.s2⟩
theorem JR.lay3 {F U S1 : VV} {A : AF} {N : Nat} (J : JR F U 2 A N) {t : Nat} (ht : t < A.m) (hn : A.n < 60) {c p : Int32} (h : M_X10_layRequest k U (nI t) c p = some S1) : S1 2 3 = nI (A.n + 1) := by
  obtain ⟨fg, mk, ks, ks', tk, tkt, R, M, I, hN⟩ := J
  obtain ⟨S', e1, M', f'⟩ := ro_lay (k := k) M I.li.toAW hn ht (by rw [I.pm.length_eq]; exact I.ac.le I.li) c p
  rw [e1] at h
  have h := Option.some.inj h
  subst h
  exact M'.s3
theorem e_95 {c : Int32} (h : ER K U c) (hk : 20000 ≤ k) (n : Nat) : M_X10_readAll_95 k (n + 1) U = some U := by
  simp only [M_X10_readAll_95]
  rw [e_isW h hk, Option.bind_some, if_pos rfl, if_neg h.un, chk1, Option.bind_some]
theorem e_reqs {c : Int32} (h : ER K U c) (F : VV) (n : Nat) (i : Int32) : M_X1_readRequests_2 k (n + 1) i K F = some (K, F) := by
  simp only [M_X1_readRequests_2]
  rw [e_is h, Option.bind_some, if_pos rfl]
  by_cases h1 : 60 < i
  · rw [if_pos h1]
  · rw [if_neg h1]
/-- how a text ends: by an error, or with a fleet -/
def FIN (m : Nat) (U : VV) (q : Option (VV × VV)) (r : Option VV) : Prop :=
  (∃ K' F' U' c, q = some (K', F') ∧ r = some U' ∧ ER K' U' c ∧ FRD U U') ∨
  (∃ K' F' U' A, q = some (K', F') ∧ r = some U' ∧ K' 0 0 = 0 ∧ K' 0 1 = 0 ∧ K' 0 2 = -1 ∧ U' 0 11 = 0 ∧ A.m = m ∧ A.t = 0 ∧ JR F' U' 2 A 60 ∧ FRD U U')
theorem s_requests (hk : 20000 ≤ k) : ∀ r (K U F : VV) (s e κ : Nat) (A : AF), A.n + r = 60 → GD K U b L s e κ → JR F U 2 A A.n → A.t = 0 → (∀ t, t < A.m → A.qe t = -1) → ∀ n n', r + 2 < n → r + 2 < n' →
    FIN A.m U ((M_X1_readRequests_2 k n (nI A.n) K F).bind fun q4 => (M_X7_takeEnd k q4.1).bind fun q5 => some (q5, q4.2)) (M_X10_readAll_95 k n' U) := by
  have c2 : Int32.toNatClampNeg 2 = 2 := by decide
  have c3 : Int32.toNatClampNeg 3 = 3 := by decide
  have i2 : inb (2 : Int32) 1692 = true := by decide
  have i3 : inb (3 : Int32) 1692 = true := by decide
  -- the end of the text
  have stop : ∀ n n' (K U F : VV) (s e κ : Nat) (A : AF), A.n ≤ 60 → GD K U b L s e κ → JR F U 2 A A.n → A.t = 0 → M_X7_is k K 10 = some 0 → M_X10_isWord k U 59 = some 0 → FIN A.m U ((M_X1_readRequests_2 k (n + 1) (nI A.n) K F).bind fun q4 => (M_X7_takeEnd k q4.1).bind fun q5 => some (q5, q4.2)) (M_X10_readAll_95 k (n' + 1) U) := fun n n' K U F s e κ A hm g J hA h1 h2 => by
    have h60 : ¬ (60 : Int32) < nI A.n := nI_nlt (a := 60) hm (by decide)
    have hk3 := g.1.k3
    simp only [M_X1_readRequests_2, M_X10_readAll_95, M_X7_takeEnd, M_X7_takeEnd_0]
    rw [if_neg h60, h1, Option.bind_some, if_pos rfl, Option.bind_some, h2, Option.bind_some, if_pos rfl, if_pos g.2.2.2, g.2.2.1.uk]
    show FIN A.m U ((if K 0 6 = 0 then some K else (M_X7_fail k K 1).bind fun q2 => some q2).bind fun q5 => some (q5, F)) (if nI κ = 0 then (M_X10_check k U 1 1).bind fun q7 => some q7 else (M_X10_check k U 0 1).bind fun q6 => some q6)
    rw [g.2.1.k6]
    by_cases h : κ = 0
    · rw [if_pos (show nI κ = 0 by rw [h]; rfl), if_pos (show nI κ = 0 by rw [h]; rfl), Option.bind_some, chk1, Option.bind_some]
      exact Or.inr ⟨K, F, U, A, rfl, rfl, g.2.1.k0, g.2.1.k1, g.2.1.k2, g.2.2.2, rfl, hA, J.mono hm, FRD.refl U⟩
    · have hn : ¬ nI κ = 0 := fun q => h ((nI_eq (by omega) (by decide)).mp (show nI κ = nI 0 from q))
      obtain ⟨K', U', q1, q2, er, f⟩ := t_fail (k := k) g (c := 1) (by decide)
      rw [if_neg hn, if_neg hn, q1, Option.bind_some, Option.bind_some, chk0, q2, Option.bind_some]
      exact Or.inl ⟨K', F, U', 1, rfl, rfl, er, f.d⟩
  intro r
  induction r with
  | zero =>
    intro K U F s e κ A hn0 g J hA hqe n n' hn hn'
    obtain ⟨n, rfl⟩ : ∃ f, n = f + 2 := ⟨n - 2, by omega⟩
    obtain ⟨n', rfl⟩ : ∃ f, n' = f + 2 := ⟨n' - 2, by omega⟩
    rcases t_is hk g wd_request with ⟨h0, h1, h2⟩ | ⟨h1, h2⟩
    · obtain ⟨K', U', q1, q2, er, f⟩ := t_fail (k := k) g (c := 3) (by decide)
      have hn60 : A.n = 60 := by omega
      have u3 : U 2 3 = nI 60 := by rw [J.r23.2.1, hn60]
      have hc : M_X1_readRequests_2 k (n + 2) (nI A.n) K F = some (K', F) := by
        have h60 : ¬ (60 : Int32) < nI 60 := by decide
        rw [hn60]
        simp only [M_X1_readRequests_2]
        rw [if_neg h60, h1, Option.bind_some, if_neg (show ¬ (1 : Int32) = 0 by decide), if_pos (show nI 60 = (60 : Int32) by decide), q1, Option.bind_some]
        exact e_reqs er F n _
      have hR : M_X10_readRequest k U = some U' := by
        simp only [M_X10_readRequest, M_X10_readRequest_0, M_X10_readRequest_17]
        rw [if_pos i3, c3, u3, if_pos (show (60 : Int32) ≤ nI 60 by decide), chk0, q2, Option.bind_some, e_adv er, Option.bind_some, if_pos i2, e_readN er hk, Option.bind_some, e_readN er hk, Option.bind_some, e_accept er hk, Option.bind_some, e_exp er, Option.bind_some, if_neg er.un]
      have hr : M_X10_readAll_95 k (n' + 2) U = some U' := by
        show ((M_X10_isWord k U 59).bind fun q1 => if q1 = 0 then _ else ((M_X10_readRequest k U).bind fun q8 => M_X10_readAll_95 k (n' + 1) q8)) = _
        rw [h2, Option.bind_some, if_neg (show ¬ (1 : Int32) = 0 by decide), hR, Option.bind_some]
        exact e_95 er hk n'
      rw [hc, Option.bind_some, e_end er, Option.bind_some, hr]
      exact Or.inl ⟨K', F, U', 3, rfl, rfl, er, f.d⟩
    · exact stop (n + 1) (n' + 1) K U F s e κ A (by omega) g J hA h1 h2
  | succ r ih =>
    intro K U F s e κ A hn0 g J hA hqe n n' hn hn'
    obtain ⟨n, rfl⟩ : ∃ f, n = f + 2 := ⟨n - 2, by omega⟩
    obtain ⟨n', rfl⟩ : ∃ f, n' = f + 2 := ⟨n' - 2, by omega⟩
    have hm := J.aw.m12
    rcases t_is hk g wd_request with ⟨h0, h1, h2⟩ | ⟨h1, h2⟩
    · obtain ⟨K1, U1, s1, e1, κ1, a1, -, b1, -, g1, f1⟩ := t_ad hk g h0
      have h60 : ¬ (60 : Int32) < nI A.n := nI_nlt (a := 60) (by omega) (by decide)
      have h60' : ¬ (60 : Int32) ≤ nI A.n := nI_ge (b := 60) (by omega) (by decide)
      have hne : ¬ nI A.n = 60 := fun q => by have := (nI_eq (by omega) (by decide)).mp (show nI A.n = nI 60 from q); omega
      have cls : M_X1_readRequests_2 k (n + 2) (nI A.n) K F = ((M_X7_takeNumber k K1 0 (nI A.m - 1)).bind fun q8 => (M_X7_takeNumber k q8.2 1 20).bind fun q9 => (M_X7_is k q9.2 11).bind fun q10 => if q10 = 0 then M_X1_readRequests_73 k (M_X1_readRequests_2 k (n + 1)) (nI A.n) q8.1 q9.1 q10 q9.2 F else ((M_X7_advance k q9.2).bind fun q12 => M_X1_readRequests_73 k (M_X1_readRequests_2 k (n + 1)) (nI A.n) q8.1 q9.1 q10 q12 F)) := by
        show (if (60 : Int32) < nI A.n then _ else ((M_X7_is k K 10).bind fun q4 => if q4 = 0 then _ else (if nI A.n = 60 then _ else ((M_X7_advance k K).bind fun q7 => (M_X7_takeNumber k q7 0 (F 0 2 - 1)).bind fun q8 => (M_X7_takeNumber k q8.2 1 20).bind fun q9 => (M_X7_is k q9.2 11).bind fun q10 => if q10 = 0 then M_X1_readRequests_73 k (M_X1_readRequests_2 k (n + 1)) (nI A.n) q8.1 q9.1 q10 q9.2 F else ((M_X7_advance k q9.2).bind fun q12 => M_X1_readRequests_73 k (M_X1_readRequests_2 k (n + 1)) (nI A.n) q8.1 q9.1 q10 q12 F))))) = _
        rw [if_neg h60, h1, Option.bind_some, if_neg (show ¬ (1 : Int32) = 0 by decide), if_neg hne, a1, Option.bind_some, J.r23.2.2]
      have ref : M_X10_readAll_95 k (n' + 2) U = (((M_X10_readNumber k U1 0 (nI A.m - 1)).bind fun q4 => (M_X10_readNumber k q4.2 1 20).bind fun q5 => (M_X10_accept k q5.2 63).bind fun q6 => (M_X10_expect k q6.2 59).bind fun q7 => if q7 0 11 = 0 then ((M_X10_layRequest k q7 q4.1 q5.1 q6.1).bind fun q9 => (M_X10_route k q9 (q9 2 3 - 1)).bind fun q11 => some q11) else some q7).bind fun q8 => M_X10_readAll_95 k (n' + 1) q8) := by
        have hR : M_X10_readRequest k U = ((M_X10_readNumber k U1 0 (nI A.m - 1)).bind fun q4 => (M_X10_readNumber k q4.2 1 20).bind fun q5 => (M_X10_accept k q5.2 63).bind fun q6 => (M_X10_expect k q6.2 59).bind fun q7 => if q7 0 11 = 0 then ((M_X10_layRequest k q7 q4.1 q5.1 q6.1).bind fun q9 => (M_X10_route k q9 (q9 2 3 - 1)).bind fun q11 => some q11) else some q7) := by
          have u1 : U1 2 2 = nI A.m := by rw [f1.1 2 (by decide)]; exact J.r23.1
          simp only [M_X10_readRequest, M_X10_readRequest_0, M_X10_readRequest_17]
          rw [if_pos i3, c3, J.r23.2.1, if_neg h60', chk1, Option.bind_some, b1, Option.bind_some, if_pos i2, c2, u1]
          simp only [if_pos i3]
        show ((M_X10_isWord k U 59).bind fun q1 => if q1 = 0 then _ else ((M_X10_readRequest k U).bind fun q8 => M_X10_readAll_95 k (n' + 1) q8)) = _
        rw [h2, Option.bind_some, if_neg (show ¬ (1 : Int32) = 0 by decide), hR]
      rw [cls, ref]
      have J1 := J.mvU f1
      -- an error behind which a request is made that nobody sees
      have lost : ∀ (K' U' F' : VV) (c : Int32), ER K' U' c → FRD U U' → FIN A.m U ((M_X1_readRequests_2 k (n + 1) (nI A.n + 1) K' F').bind fun q4 => (M_X7_takeEnd k q4.1).bind fun q5 => some (q5, q4.2)) (M_X10_readAll_95 k (n' + 1) U') := fun K' U' F' c er fr => by
        rw [e_reqs er F' n _, Option.bind_some, e_end er, Option.bind_some, e_95 er hk n']
        exact Or.inl ⟨K', F', U', c, rfl, rfl, er, fr⟩
      rcases t_numQ hk g1 (p := 0) (q := nI A.m - 1) (a := 0) (B := A.m) rfl rfl (by decide) (by omega) with ⟨K2, U2, t, s2, e2, κ2, a2, b2, -, ht, -, g2, f2⟩ | ⟨K2, U2, c, a2, b2, er, f2⟩
      rotate_left
      · obtain ⟨F', v, hb⟩ := c_addBad F k (-1) 0
        rw [a2, Option.bind_some, e_takeN er, Option.bind_some, e_is er, Option.bind_some, if_pos rfl, b2, Option.bind_some, e_readN er hk, Option.bind_some, e_accept er hk, Option.bind_some, e_exp er, Option.bind_some, if_neg er.un, Option.bind_some]
        simp only [M_X1_readRequests_73]
        rw [e_take er, Option.bind_some, hb, Option.bind_some]
        exact lost K2 U2 F' c er (f1.d.trans f2.d)
      rw [a2, Option.bind_some, b2, Option.bind_some]
      have J2 := J1.mvU f2
      rcases t_numQ hk g2 (p := 1) (q := 20) (a := 1) (B := 21) rfl (by decide) (by decide) (by decide) with ⟨K3, U3, v, s3, e3, κ3, a3, b3, -, hv, -, g3, f3⟩ | ⟨K3, U3, c, a3, b3, er, f3⟩
      rotate_left
      · obtain ⟨F', S1, S', A', hb, -⟩ := jr_addOpen J2 ht (by omega) (hqe t ht) (-1) 0 hk
        rw [a3, Option.bind_some, e_is er, Option.bind_some, if_pos rfl, b3, Option.bind_some, e_accept er hk, Option.bind_some, e_exp er, Option.bind_some, if_neg er.un, Option.bind_some]
        simp only [M_X1_readRequests_73]
        rw [e_take er, Option.bind_some, hb, Option.bind_some]
        exact lost K3 U3 F' c er ((f1.d.trans f2.d).trans f3.d)
      rw [a3, Option.bind_some, b3, Option.bind_some]
      have J3 := J2.mvU f3
      have fr3 : FRU U U3 := (f1.trans f2).trans f3
      -- from the mark of poison on
      have tail : ∀ (K4 U4 : VV) (s4 e4 κ4 : Nat) (p : Int32), GD K4 U4 b L s4 e4 κ4 → FRU U U4 → FIN A.m U ((M_X1_readRequests_73 k (M_X1_readRequests_2 k (n + 1)) (nI A.n) (nI t) (nI v) p K4 F).bind fun q4 => (M_X7_takeEnd k q4.1).bind fun q5 => some (q5, q4.2)) (((M_X10_expect k U4 59).bind fun q7 => if q7 0 11 = 0 then ((M_X10_layRequest k q7 (nI t) (nI v) p).bind fun q9 => (M_X10_route k q9 (q9 2 3 - 1)).bind fun q11 => some q11) else some q7).bind fun q8 => M_X10_readAll_95 k (n' + 1) q8) := fun K4 U4 s4 e4 κ4 p g4 f4 => by
        obtain ⟨K5, U5, a5, b5, f5, n5⟩ := t_expect hk g4 sy_semi
        have fr5 : FRU U U5 := f4.trans f5
        have J5 := J.mvU fr5
        obtain ⟨F', S1, S', A', hb, hl, -, hr, J6, sn, fr6⟩ := jr_addOpen J5 ht (by omega) (hqe t ht) (nI v) p hk
        simp only [M_X1_readRequests_73]
        rw [a5, Option.bind_some, hb, Option.bind_some, b5, Option.bind_some]
        rcases n5 with ⟨s5, e5, κ5, -, g5⟩ | ⟨c, er⟩
        · have h3 := J5.lay3 ht (by omega) hl
          have e0 : S' 0 = U5 0 := fr6 0 (by decide)
          have e8 : S' 8 = U5 8 := fr6 8 (by decide)
          rw [if_pos g5.2.2.2, hl, Option.bind_some, h3, show (1 : Int32) = nI 1 from rfl, nI_sub (by omega), Nat.add_sub_cancel, hr, Option.bind_some, Option.bind_some, nI_add, ← sn.n, ← sn.m]
          have J6 : JR F' S' 2 A' A'.n := by rw [sn.n]; exact J6
          have fr : FRD U S' := fr5.d.trans ⟨fun j _ h2 => fr6 j h2, fun c _ _ _ _ _ => by rw [e0]⟩
          rcases ih K5 S' F' s5 e5 κ5 A' (by have := sn.n; omega) (g5.fr e0 e8) J6 (sn.t.trans hA) (fun t' h' => by rw [sn.qe]; exact hqe t' (by rw [← sn.m]; exact h')) (n + 1) (n' + 1) (by omega) (by omega) with ⟨K', F2, U', c, r1, r2, r3, r4⟩ | ⟨K', F2, U', A2, r1, r2, r3, r4, r5, r6, r7, r8, r9, r10⟩
          · exact Or.inl ⟨K', F2, U', c, r1, r2, r3, fr.trans r4⟩
          · exact Or.inr ⟨K', F2, U', A2, r1, r2, r3, r4, r5, r6, r7, r8, r9, fr.trans r10⟩
        · rw [if_neg er.un, Option.bind_some]
          exact lost K5 U5 F' c er fr5.d
      rcases t_is hk g3 wd_poisoned with ⟨h0, z1, z2⟩ | ⟨z1, z2⟩
      · obtain ⟨K4, U4, s4, e4, κ4, a4, b4, -, -, g4, f4⟩ := t_ad hk g3 h0
        have hacc : M_X10_accept k U3 63 = some (1, U4) := by
          simp only [M_X10_accept, M_X10_accept_0]
          rw [z2, Option.bind_some, if_neg (show ¬ (1 : Int32) = 0 by decide), b4, Option.bind_some, if_pos (Or.inr rfl)]
        rw [z1, Option.bind_some, if_neg (show ¬ (1 : Int32) = 0 by decide), a4, Option.bind_some, hacc, Option.bind_some]
        exact tail K4 U4 s4 e4 κ4 1 g4 (fr3.trans f4)
      · have hacc : M_X10_accept k U3 63 = some (0, U3) := by
          simp only [M_X10_accept, M_X10_accept_0]
          rw [z2, Option.bind_some, if_pos rfl, if_pos (Or.inl rfl)]
        rw [z1, Option.bind_some, if_pos rfl, hacc, Option.bind_some]
        exact tail K3 U3 s3 e3 κ3 0 g3 fr3
    · exact stop (n + 1) (n' + 1) K U F s e κ A (by omega) g J hA h1 h2
end REQ
