-- ===== rows of parts that are joined =====
theorem acc0 {k : Nat} {U : VV} {w : Nat} (h : M_X10_isWord k U w = some 0) : M_X10_accept k U w = some (0, U) := by
  simp only [M_X10_accept, M_X10_accept_0]
  rw [h, Option.bind_some, if_pos rfl, if_pos (Or.inl rfl)]
theorem acc1 {k : Nat} {U U' : VV} {w : Nat} (h : M_X10_isWord k U w = some 1) (hs : M_X10_scan k U = some U') : M_X10_accept k U w = some (1, U') := by
  simp only [M_X10_accept, M_X10_accept_0]
  rw [h, Option.bind_some, if_neg (show ¬ (1 : Int32) = 0 by decide), hs, Option.bind_some, if_pos (Or.inr rfl)]
/-- a part of a query is read alike on both sides -/
def PSP (A : AF) (b : Nat → Int32) (L o : Nat) (Φ : VV → Option (Int64 × VV)) (Ψ : VV → Option VV) : Prop := ∀ (K U : VV) (s e κ : Nat) (l : List Int32), GD K U b L s e κ → CDS U l → l.length ≤ s → U 0 14 = nI o → QR A b L s o l U (Φ K) (Ψ U)
/-- what the reference does with a conjunction that is read to its end, behind those before it (their codes lb, their requests fb; d codes more) -/
def PFX (A : AF) (b : Nat → Int32) (L : Nat) (l lb : List Int32) (fb : Nat → Bool) (d : Nat) (P : VV → Option VV) : Prop :=
  (∀ K U c, ER K U c → P U = some U) ∧
  ∀ (K U : VV) (s e κ : Nat) (lc : List Int32) (fc : Nat → Bool), GD K U b L s e κ → CDS U (l ++ lb ++ lc) → lb.length + lc.length + l.length + d ≤ 200 → EVL A fc lc →
    ∃ U' lz, P U = some U' ∧ GD K U' b L s e κ ∧ CDS U' (l ++ lz) ∧ lz.length = lb.length + lc.length + d ∧ U' 0 14 = U 0 14 ∧ FRQ U U' ∧ EVL A (fun i => fb i || fc i) lz
theorem PFX.first (A : AF) (b : Nat → Int32) (L : Nat) (l : List Int32) : PFX A b L l [] (fun _ => false) 0 (fun U => some U) :=
  ⟨fun _ _ _ _ => rfl, fun K U s e κ lc fc g cd _ hf => by
    rw [List.append_nil] at cd
    refine ⟨U, lc, rfl, g, cd, ?_, rfl, FRQ.refl U, hf⟩
    show lc.length = 0 + lc.length + 0
    omega⟩
theorem PFX.next {A : AF} {b : Nat → Int32} {L k : Nat} {l lb : List Int32} {fb : Nat → Bool} (hb : EVL A fb lb) : PFX A b L l lb fb 1 (fun U => M_X10_emit k U (-25)) :=
  ⟨fun K U c er => e_emit er.un _, fun K U s e κ lc fc g cd hl hf => by
    have hll : (l ++ lb ++ lc).length = l.length + lb.length + lc.length := by rw [List.length_append, List.length_append]
    have hlz : (lb ++ lc ++ [(-25 : Int32)]).length = lb.length + lc.length + 1 := by rw [List.length_append, List.length_append]; rfl
    have em1 := r_emit (k := k) cd g.2.2.2 (by omega) (-25)
    refine ⟨em U (l ++ lb ++ lc) (-25), lb ++ lc ++ [-25], em1, g.em _ _, ?_, hlz, em_0 U _ _ (by decide), em_fr U _ _, EVL.bin ev_or hb hf⟩
    have ea : l ++ lb ++ lc ++ [(-25 : Int32)] = l ++ (lb ++ lc ++ [-25]) := by simp only [List.append_assoc]
    rw [← ea]
    exact em_cd cd (-25)⟩
section QTEST
variable {F : VV} {A : AF} {b : Nat → Int32} {L k o : Nat} {φ : VV → VV → Int32 → Option (Int64 × VV)} {ψ : VV → Option VV}
theorem t43_and (κ21 : Int32 → Int64 → Int64 → Int32 → Int32 → VV → Option (Int64 × VV)) (x2 : Int32) (z3 z5 : Int64) {x7 : Int32} (h : x7 = 0) (x8 : Int32) (S : VV) : M_X4_test_43 k φ F κ21 x2 z3 z5 x7 x8 S = ((M_X7_advance k S).bind fun q5 => (φ q5 F x2).bind fun q6 => (M_X7_is k q6.2 53).bind fun q3 => κ21 x2 z3 (z5 &&& q6.1) q3 (x8 + 1) q6.2) := by
  unfold M_X4_test_43 M_X4_test_68
  simp only [if_pos h, lt_eq]
theorem t43_or (κ21 : Int32 → Int64 → Int64 → Int32 → Int32 → VV → Option (Int64 × VV)) (x2 : Int32) (z3 z5 : Int64) {x7 : Int32} (h : ¬ x7 = 0) (x8 : Int32) (S : VV) : M_X4_test_43 k φ F κ21 x2 z3 z5 x7 x8 S = ((M_X7_advance k S).bind fun q5 => (φ q5 F x2).bind fun q6 => (M_X7_is k q6.2 53).bind fun q3 => κ21 x2 (z3 ||| z5) q6.1 q3 (x8 + 1) q6.2) := by
  unfold M_X4_test_43 M_X4_test_68
  simp only [if_neg h]
theorem or_52 {s e κ : Nat} (h : κ = 1 ∧ MT b s e (txB 53)) (g : κ = 1 ∧ MT b s e (txB 52)) : False := by
  have h1 : (txB 53).length = 2 := by decide +kernel
  have h2 : (txB 52).length = 3 := by decide +kernel
  have h3 := h.2.1
  have h4 := g.2.1
  omega
/-- behind an error both sides stop -/
theorem q_err (hk : 20000 ≤ k) {P : VV → Option VV} {K U : VV} {c : Int32} (er : ER K U c) (h1 : P U = some U) {n n1 n2 : Nat} (hn : 0 < n) (hn1 : 0 < n1) (hn2 : 0 < n2) (x2 : Int32) (z3 z5 : Int64) (x8 : Int32) :
    M_X4_test_21 k φ F n x2 z3 z5 0 x8 K = some (z3 ||| z5, K) ∧ ((M_X10_compileConjunction_4 k ψ n1 U).bind fun q => (P q).bind fun q4 => M_X10_compileTest_4 k ψ n2 q4) = some U := by
  obtain ⟨n, rfl⟩ : ∃ i, n = i + 1 := ⟨n - 1, by omega⟩
  obtain ⟨n1, rfl⟩ : ∃ i, n1 = i + 1 := ⟨n1 - 1, by omega⟩
  obtain ⟨n2, rfl⟩ : ∃ i, n2 = i + 1 := ⟨n2 - 1, by omega⟩
  constructor
  · rw [M_X4_test_21_s]
    by_cases h : (200 : Int32) ≤ x8
    · rw [if_pos h]
    · rw [if_neg h, if_pos rfl, e_is er, Option.bind_some, if_pos rfl]
  · have e1 : M_X10_compileConjunction_4 k ψ (n1 + 1) U = some U := by
      rw [M_X10_compileConjunction_4_s, e_accept er hk, Option.bind_some, if_pos rfl]
      try rfl
    have e2 : M_X10_compileTest_4 k ψ (n2 + 1) U = some U := by
      rw [M_X10_compileTest_4_s, e_accept er hk, Option.bind_some, if_pos rfl]
      try rfl
    rw [e1, Option.bind_some, h1, Option.bind_some, e2]
/-- neither 'and' nor 'or' is next -/
theorem q_end (hk : 20000 ≤ k) {l lb lc : List Int32} {fb fc : Nat → Bool} {d s0 : Nat} {P : VV → Option VV} (hP : PFX A b L l lb fb d P) {K U : VV} {s e κ : Nat} (g : GD K U b L s e κ) (cd : CDS U (l ++ lb ++ lc)) (hl : lb.length + lc.length + l.length + d ≤ 200) (hs : lb.length + lc.length + d + s0 ≤ s) (h14 : U 0 14 = nI o) (hf : EVL A fc lc)
    (r52 : M_X10_isWord k U 77 = some 0) (h7 : M_X7_is k K 53 = some 0) {n1 n2 : Nat} (hn1 : 0 < n1) (hn2 : 0 < n2) :
    QR A b L s0 o l U (some (lI (msk fb A.n) ||| lI (msk fc A.n), K)) ((M_X10_compileConjunction_4 k ψ n1 U).bind fun q => (P q).bind fun q4 => M_X10_compileTest_4 k ψ n2 q4) := by
  obtain ⟨n1, rfl⟩ : ∃ i, n1 = i + 1 := ⟨n1 - 1, by omega⟩
  obtain ⟨n2, rfl⟩ : ∃ i, n2 = i + 1 := ⟨n2 - 1, by omega⟩
  obtain ⟨U', lz, p1, g', cd', hlz, h14', f, hz⟩ := hP.2 K U s e κ lc fc g cd hl hf
  have h2 : M_X10_isWord k U' 78 = some 0 := by
    rcases t_isE hk g' wd_or with ⟨-, h, -⟩ | ⟨-, -, h⟩
    · rw [h7] at h
      exact absurd h (by decide)
    · exact h
  have e1 : M_X10_compileConjunction_4 k ψ (n1 + 1) U = some U := by
    rw [M_X10_compileConjunction_4_s, acc0 r52, Option.bind_some, if_pos rfl]
    try rfl
  have e2 : M_X10_compileTest_4 k ψ (n2 + 1) U' = some U' := by
    rw [M_X10_compileTest_4_s, acc0 h2, Option.bind_some, if_pos rfl]
    try rfl
  rw [e1, Option.bind_some, p1, Option.bind_some, e2, or_msk]
  exact Or.inr ⟨K, U', s, e, κ, _, lz, rfl, rfl, g', cd', by omega, h14'.trans h14, f, hz⟩
theorem q_test (hk : 20000 ≤ k) (hL : L ≤ 200) (hΦ : PSP A b L o (fun S => φ S F (nI o)) ψ) :
    ∀ m x (K U : VV) (s e κ s0 : Nat) (l lb lc : List Int32) (fb fc : Nat → Bool) (d : Nat) (P : VV → Option VV) (x7 : Int32), x + m = 200 → x ≤ s → GD K U b L s e κ → CDS U (l ++ lb ++ lc) → l.length ≤ s0 → lb.length + lc.length + d + s0 ≤ s → U 0 14 = nI o → EVL A fc lc → PFX A b L l lb fb d P → M_X7_is k K 53 = some x7 →
      ∀ n n1 n2, m + 1 < n → m + 1 < n1 → m + 1 < n2 → QR A b L s0 o l U (M_X4_test_21 k φ F n (nI o) (lI (msk fb A.n)) (lI (msk fc A.n)) x7 (nI x) K) ((M_X10_compileConjunction_4 k ψ n1 U).bind fun q => (P q).bind fun q4 => M_X10_compileTest_4 k ψ n2 q4) := by
  intro m
  induction m with
  | zero =>
    intro x K U s e κ s0 l lb lc fb fc d P x7 hx hxs g cd hl hlf h14 hf hP h7 n n1 n2 hn hn1 hn2
    obtain ⟨n, rfl⟩ : ∃ i, n = i + 1 := ⟨n - 1, by omega⟩
    have he := g.1.el
    have hse := g.1.se
    have h200 : (200 : Int32) ≤ nI x := nI_le (a := 200) (by omega) (by omega)
    have c53 : M_X7_is k K 53 = some 0 := by
      rcases t_isE hk g wd_or with ⟨h0, -, -⟩ | ⟨-, h, -⟩
      · have := g.1.p (by omega)
        omega
      · exact h
    have r52 : M_X10_isWord k U 77 = some 0 := by
      rcases t_isE hk g wd_and with ⟨h0, -, -⟩ | ⟨-, -, h⟩
      · have := g.1.p (by omega)
        omega
      · exact h
    rw [M_X4_test_21_s, if_pos h200]
    exact q_end hk hP g cd (by omega) hlf h14 hf r52 c53 (by omega) (by omega)
  | succ m ih =>
    intro x K U s e κ s0 l lb lc fb fc d P x7 hx hxs g cd hl hlf h14 hf hP h7 n n1 n2 hn hn1 hn2
    obtain ⟨n, rfl⟩ : ∃ i, n = i + 1 := ⟨n - 1, by omega⟩
    have he := g.1.el
    have hse := g.1.se
    have h200 : ¬ (200 : Int32) ≤ nI x := nI_ge (b := 200) (by omega) (by decide)
    have h10 : ¬ (1 : Int32) = 0 := by decide
    have hll : (l ++ lb ++ lc).length = l.length + lb.length + lc.length := by rw [List.length_append, List.length_append]
    rw [M_X4_test_21_s, if_neg h200]
    rcases t_isE hk g wd_or with ⟨m53, c53, r53⟩ | ⟨-, c53, r53⟩
    · have e7 : x7 = 1 := Option.some.inj (h7.symm.trans c53)
      subst e7
      have r52 : M_X10_isWord k U 77 = some 0 := by
        rcases t_isE hk g wd_and with ⟨m52, -, -⟩ | ⟨-, -, h⟩
        · exact (or_52 m53 m52).elim
        · exact h
      obtain ⟨n1, rfl⟩ : ∃ i, n1 = i + 1 := ⟨n1 - 1, by omega⟩
      obtain ⟨n2, rfl⟩ : ∃ i, n2 = i + 1 := ⟨n2 - 1, by omega⟩
      obtain ⟨U1, lz, p1, g1, cd1, hlz, h141, f1, hz⟩ := hP.2 K U s e κ lc fc g cd (by omega) hf
      have rz : M_X10_isWord k U1 78 = some 1 := by
        rcases t_isE hk g1 wd_or with ⟨-, -, h⟩ | ⟨-, h, -⟩
        · exact h
        · rw [c53] at h
          exact absurd h (by decide)
      obtain ⟨K2, U2, s2, e2, κ2, a1, a2, -, hs2, g2, f2⟩ := t_ad hk g1 (by omega)
      have hlz2 : (l ++ lz).length = l.length + lz.length := List.length_append
      have eC : M_X10_compileConjunction_4 k ψ (n1 + 1) U = some U := by
        rw [M_X10_compileConjunction_4_s, acc0 r52, Option.bind_some, if_pos rfl]
        try rfl
      have eT : M_X10_compileTest_4 k ψ (n2 + 1) U1 = ((ψ U2).bind fun q5 => M_X10_compileConjunction_4 k ψ k q5).bind fun q3 => (M_X10_emit k q3 (-25)).bind fun q4 => M_X10_compileTest_4 k ψ n2 q4 := by
        rw [M_X10_compileTest_4_s, acc1 rz a2, Option.bind_some, if_neg h10]
        try rfl
      rw [if_neg h10, t43_or _ _ _ _ h10, a1, Option.bind_some, eC, Option.bind_some, p1, Option.bind_some, eT]
      have hN : PFX A b L l lz (fun i => fb i || fc i) 1 (fun U => M_X10_emit k U (-25)) := PFX.next hz
      rcases hΦ K2 U2 s2 e2 κ2 (l ++ lz) g2 (cd1.fru f2) (by omega) (f2.n.trans (h141.trans h14)) with ⟨K3, U3, c, y, r1, r2, er, f3⟩ | ⟨K3, U3, s3, e3, κ3, f', l2, r1, r2, g3, cd3, hl3, h143, f3, hf3⟩
      · have r1' : φ K2 F (nI o) = some (y, K3) := r1
        have h7' : M_X7_is k (y, K3).2 53 = some 0 := e_is er 53
        have z := q_err (F := F) (φ := φ) (ψ := ψ) (P := fun U => M_X10_emit k U (-25)) hk er (hN.1 _ _ _ er) (n := n) (n1 := k) (n2 := n2) (by omega) (by omega) (by omega) (nI o) (lI (msk fb A.n) ||| lI (msk fc A.n)) y (nI x + 1)
        left
        rw [r1', Option.bind_some, h7', Option.bind_some, r2, Option.bind_some]
        exact ⟨K3, U3, c, _, z.1, z.2, er, (f1.trans f2.q).trans f3⟩
      · have r1' : φ K2 F (nI o) = some (lI (msk f' A.n), K3) := r1
        have hx7 : ∃ y, M_X7_is k K3 53 = some y := by
          rcases t_isE hk g3 wd_or with ⟨-, h, -⟩ | ⟨-, h, -⟩
          · exact ⟨_, h⟩
          · exact ⟨_, h⟩
        obtain ⟨y, hy⟩ := hx7
        have h7' : M_X7_is k (lI (msk f' A.n), K3).2 53 = some y := hy
        have q := ih (x + 1) K3 U3 s3 e3 κ3 s0 l lz l2 (fun i => fb i || fc i) f' 1 (fun U => M_X10_emit k U (-25)) y (by omega) (by omega) g3 cd3 hl (by omega) h143 hf3 hN hy n k n2 (by omega) (by omega) (by omega)
        rw [r1', Option.bind_some, h7', Option.bind_some, r2, Option.bind_some, or_msk]
        rw [← nI_1] at q
        exact QR.fr ((f1.trans f2.q).trans f3) q
    · have e7 : x7 = 0 := Option.some.inj (h7.symm.trans c53)
      subst e7
      rw [if_pos rfl]
      rcases t_isE hk g wd_and with ⟨m52, c52, r52⟩ | ⟨-, c52, r52⟩
      rotate_left
      · rw [c52, Option.bind_some, if_pos rfl]
        exact q_end hk hP g cd (by omega) hlf h14 hf r52 c53 (by omega) (by omega)
      obtain ⟨n1, rfl⟩ : ∃ i, n1 = i + 1 := ⟨n1 - 1, by omega⟩
      obtain ⟨K2, U2, s2, e2, κ2, a1, a2, -, hs2, g2, f2⟩ := t_ad hk g (by omega)
      have eC : M_X10_compileConjunction_4 k ψ (n1 + 1) U = ((ψ U2).bind fun q3 => (M_X10_emit k q3 (-24)).bind fun q4 => M_X10_compileConjunction_4 k ψ n1 q4) := by
        rw [M_X10_compileConjunction_4_s, acc1 r52 a2, Option.bind_some, if_neg h10]
        try rfl
      rw [c52, Option.bind_some, if_neg h10, t43_and _ _ _ _ rfl, a1, Option.bind_some, eC]
      rcases hΦ K2 U2 s2 e2 κ2 (l ++ lb ++ lc) g2 (cd.fru f2) (by omega) (f2.n.trans h14) with ⟨K3, U3, c, y, r1, r2, er, f3⟩ | ⟨K3, U3, s3, e3, κ3, f', l2, r1, r2, g3, cd3, hl3, h143, f3, hf3⟩
      · have r1' : φ K2 F (nI o) = some (y, K3) := r1
        have h7' : M_X7_is k (y, K3).2 53 = some 0 := e_is er 53
        have z := q_err (F := F) (φ := φ) (ψ := ψ) hk er (hP.1 _ _ _ er) (n := n) (n1 := n1) (n2 := n2) (by omega) (by omega) (by omega) (nI o) (lI (msk fb A.n)) (lI (msk fc A.n) &&& y) (nI x + 1)
        left
        rw [r1', Option.bind_some, h7', Option.bind_some, r2, Option.bind_some, e_emit er.un, Option.bind_some]
        exact ⟨K3, U3, c, _, z.1, z.2, er, f2.q.trans f3⟩
      · have r1' : φ K2 F (nI o) = some (lI (msk f' A.n), K3) := r1
        have hx7 : ∃ y, M_X7_is k K3 53 = some y := by
          rcases t_isE hk g3 wd_or with ⟨-, h, -⟩ | ⟨-, h, -⟩
          · exact ⟨_, h⟩
          · exact ⟨_, h⟩
        obtain ⟨y, hy⟩ := hx7
        have h7' : M_X7_is k (lI (msk f' A.n), K3).2 53 = some y := hy
        have hl4 : (l ++ lb ++ lc ++ l2).length = l.length + lb.length + lc.length + l2.length := by rw [List.length_append, hll]
        have he3 := g3.1.el
        have hse3 := g3.1.se
        have em1 := r_emit (k := k) cd3 g3.2.2.2 (by omega) (-24)
        have cd4 : CDS (em U3 (l ++ lb ++ lc ++ l2) (-24)) (l ++ lb ++ (lc ++ l2 ++ [-24])) := by
          have ea : l ++ lb ++ lc ++ l2 ++ [(-24 : Int32)] = l ++ lb ++ (lc ++ l2 ++ [-24]) := by simp only [List.append_assoc]
          rw [← ea]
          exact em_cd cd3 (-24)
        have hl5 : (lc ++ l2 ++ [(-24 : Int32)]).length = lc.length + l2.length + 1 := by rw [List.length_append, List.length_append]; rfl
        have q := ih (x + 1) K3 (em U3 (l ++ lb ++ lc ++ l2) (-24)) s3 e3 κ3 s0 l lb (lc ++ l2 ++ [-24]) fb (fun i => fc i && f' i) d P y (by omega) (by omega) (g3.em _ _) cd4 hl (by omega) ((em_0 U3 _ _ (by decide)).trans h143) (EVL.bin ev_and hf hf3) hP hy n n1 n2 (by omega) (by omega) (by omega)
        rw [r1', Option.bind_some, h7', Option.bind_some, r2, Option.bind_some, em1, Option.bind_some, and_msk]
        rw [← nI_1] at q
        exact QR.fr ((f2.q.trans f3).trans (em_fr U3 _ _)) q
theorem s_test (hk : 20000 ≤ k) (hL : L ≤ 200) (hΦ : PSP A b L o (fun S => φ S F (nI o)) ψ) : PSP A b L o (fun S => M_X4_test k φ S F (nI o)) (fun S => M_X10_compileTest k ψ S) := fun K U s e κ l g cd hl h14 => by
  show QR A b L s o l U (M_X4_test k φ K F (nI o)) (M_X10_compileTest k ψ U)
  have eC : M_X4_test k φ K F (nI o) = ((φ K F (nI o)).bind fun q12 => (M_X7_is k q12.2 53).bind fun q13 => M_X4_test_21 k φ F k (nI o) 0 q12.1 q13 0 q12.2) := rfl
  have eR : M_X10_compileTest k ψ U = ((ψ U).bind fun q5 => M_X10_compileConjunction_4 k ψ k q5).bind fun q4 => M_X10_compileTest_4 k ψ k q4 := rfl
  have hN := PFX.first A b L l
  have h0 : lI (msk (fun _ => false) A.n) = 0 := by
    rw [msk_0.mpr (fun _ _ => rfl)]
    rfl
  rw [eC, eR]
  rcases hΦ K U s e κ l g cd hl h14 with ⟨K3, U3, c, y, r1, r2, er, f3⟩ | ⟨K3, U3, s3, e3, κ3, f', l2, r1, r2, g3, cd3, hl3, h143, f3, hf3⟩
  · have r1' : φ K F (nI o) = some (y, K3) := r1
    have h7' : M_X7_is k (y, K3).2 53 = some 0 := e_is er 53
    have z := q_err (F := F) (φ := φ) (ψ := ψ) (P := fun U => some U) hk er rfl (n := k) (n1 := k) (n2 := k) (by omega) (by omega) (by omega) (nI o) 0 y 0
    left
    rw [r1', Option.bind_some, h7', Option.bind_some, r2, Option.bind_some]
    exact ⟨K3, U3, c, _, z.1, z.2, er, f3⟩
  · have r1' : φ K F (nI o) = some (lI (msk f' A.n), K3) := r1
    have hx7 : ∃ y, M_X7_is k K3 53 = some y := by
      rcases t_isE hk g3 wd_or with ⟨-, h, -⟩ | ⟨-, h, -⟩
      · exact ⟨_, h⟩
      · exact ⟨_, h⟩
    obtain ⟨y, hy⟩ := hx7
    have h7' : M_X7_is k (lI (msk f' A.n), K3).2 53 = some y := hy
    have cd4 : CDS U3 (l ++ [] ++ l2) := by
      rw [List.append_nil]
      exact cd3
    have hl0 : ([] : List Int32).length + l2.length + 0 + s ≤ s3 := by
      show 0 + l2.length + 0 + s ≤ s3
      omega
    have q := q_test hk hL hΦ 200 0 K3 U3 s3 e3 κ3 s l [] l2 (fun _ => false) f' 0 (fun U => some U) y rfl (Nat.zero_le _) g3 cd4 hl hl0 h143 hf3 hN hy k k k (by omega) (by omega) (by omega)
    rw [h0] at q
    rw [r1', Option.bind_some, h7', Option.bind_some, r2, Option.bind_some]
    exact QR.fr f3 q
end QTEST
