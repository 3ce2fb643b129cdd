-- ===== a text of a fleet is read: its first line and its settings =====
def FRD (U U' : VV) : Prop := (∀ j, j ≠ 0 → j ≠ 2 → U' j = U j) ∧ ∀ c, c ≠ 8 → c ≠ 9 → c ≠ 10 → c ≠ 11 → c ≠ 12 → U' 0 c = U 0 c
theorem FRD.refl (U : VV) : FRD U U := ⟨fun _ _ _ => rfl, fun _ _ _ _ _ _ => rfl⟩
theorem FRD.trans {U U' U'' : VV} (h : FRD U U') (g : FRD U' U'') : FRD U U'' := ⟨fun j h0 h2 => (g.1 j h0 h2).trans (h.1 j h0 h2), fun c a1 a2 a3 a4 a5 => (g.2 c a1 a2 a3 a4 a5).trans (h.2 c a1 a2 a3 a4 a5)⟩
theorem FRU.d {U U' : VV} (h : FRU U U') : FRD U U' := ⟨fun j h0 _ => h.1 j h0, h.2⟩
theorem FRD.put (U : VV) (G : Nat → Int32) : FRD U (va_up U 2 G) := ⟨fun _ _ h2 => vaN _ _ h2, fun _ _ _ _ _ _ => rfl⟩
theorem GD.fr {K U U' : VV} {b : Nat → Int32} {L s e κ : Nat} (g : GD K U b L s e κ) (h0 : U' 0 = U 0) (h8 : U' 8 = U 8) : GD K U' b L s e κ := by
  obtain ⟨t, c, r, h11⟩ := g
  exact ⟨t, c, UC.ofs (u7 := by rw [h0]; exact r.u7) (u8 := by rw [h0]; exact r.u8) (u9 := by rw [h0]; exact r.u9) (uk := by rw [h0]; exact r.uk) (uB := fun i hi => by rw [h8]; exact r.uB i hi), by rw [h0]; exact h11⟩
theorem ER.fr {K U U' : VV} {c : Int32} (h : ER K U c) (h0 : U' 0 = U 0) : ER K U' c := by
  unfold ER at h ⊢
  rw [h0]
  exact h
theorem RelM.mv2 {U U' : VV} {A : AF} {mk : Nat → Nat} {ks : KL} {tk : Nat} {tkt : Nat → Nat} (M : RelM U 2 A mk ks tk tkt) (h3 : U' 0 3 = U 0 3) (h2 : U' 2 = U 2) : RelM U' 2 A mk ks tk tkt :=
  RelM.ofs (gs := ⟨by
      have := M.gs.sel
      unfold gsel at this ⊢
      rw [h3]
      exact this, rfl⟩) (s0 := by rw [h2]; exact M.s0) (s1 := by rw [h2]; exact M.s1) (s2 := by rw [h2]; exact M.s2) (s3 := by rw [h2]; exact M.s3) (s4 := by rw [h2]; exact M.s4) (se := fun i hi => by rw [h2]; exact M.se i hi) (s10 := by rw [h2]; exact M.s10) (s11 := by rw [h2]; exact M.s11) (wo := fun j hj => by rw [h2]; exact M.wo j hj) (te := fun t ht => by rw [h2]; exact M.te t ht) (rq := fun r c hr hc => by rw [h2]; exact M.rq r c hr hc) (ti := fun r hr => by rw [h2]; exact M.ti r hr) (ki := fun i hi => by rw [h2]; exact M.ki i hi)
theorem LF.mv {F U U' : VV} {W Z m : Nat} {st sh : Nat → Nat} (h : LF F U W Z m st sh) (f : FRU U U') : LF F U' W Z m st sh := ⟨h.1, h.2.1, h.2.2.1.mv2 (f.2 3 (by decide) (by decide) (by decide) (by decide) (by decide)) (f.1 2 (by decide)), h.2.2.2⟩
section READ
variable {K U : VV} {b : Nat → Int32} {L s e κ k : Nat}
theorem t_numQ (hk : 20000 ≤ k) (g : GD K U b L s e κ) {p q : Int32} {a B : Nat} (hp : p = nI a) (hq : q = nI B - 1) (ha : a ≤ 10000) (hB : B ≤ 10000) :
    (∃ K' U' v s' e' κ', M_X7_takeNumber k K p q = some (nI v, K') ∧ M_X10_readNumber k U p q = some (nI v, U') ∧ a ≤ v ∧ v < B ∧ s < s' ∧ GD K' U' b L s' e' κ' ∧ FRU U U') ∨
    (∃ K' U' c, M_X7_takeNumber k K p q = some (-1, K') ∧ M_X10_readNumber k U p q = some (p, U') ∧ ER K' U' c ∧ FRU U U') := by
  subst hp
  subst hq
  exact t_num hk g ha hB
/-- a token is left behind -/
theorem t_ad (hk : 20000 ≤ k) (g : GD K U b L s e κ) (h0 : κ ≠ 0) : ∃ K' U' s' e' κ', M_X7_advance k K = some K' ∧ M_X10_scan k U = some U' ∧ M_X10_advance k U = some U' ∧ s < s' ∧ GD K' U' b L s' e' κ' ∧ FRU U U' := by
  obtain ⟨K', U', s', e', κ', a1, a2, g', h2, f⟩ := t_adv hk g
  have := g.1.p h0
  refine ⟨K', U', s', e', κ', a1, a2, ?_, by omega, g', f⟩
  simp only [M_X10_advance, M_X10_advance_0]
  rw [if_pos g.2.2.2, a2, Option.bind_some]
theorem wd_workers : WD 1 72 := by unfold WD; decide +kernel
theorem wd_size : WD 2 73 := by unfold WD; decide +kernel
theorem sy_semi : SY 3 59 := by unfold SY; decide +kernel
theorem wd_tenant : WD 9 60 := by unfold WD; decide +kernel
theorem wd_request : WD 10 59 := by unfold WD; decide +kernel
theorem wd_poisoned : WD 11 63 := by unfold WD; decide +kernel
theorem wd_set : ∀ i, i < 5 → WD (4 + i) (54 + i) := by unfold WD; decide +kernel
theorem min4 {W : Nat} (h : W ≤ 12) : (if nI W < 4 then nI W else 4) = nI (min W 4 + 1) - 1 := by
  have key : ∀ W, W ≤ 12 → (if nI W < 4 then nI W else 4) = nI (min W 4 + 1) - 1 := by decide +kernel
  exact key W h
/-- the first line -/
theorem s_workers {T : VV} (hk : 20000 ≤ k) (g : GD K U b L s e κ) {Y : Nat → Int32} (hU : U 2 = clr0 Y) (hY : ∀ j, j < 1692 → Y j = 0) (h3 : U 0 3 = 2) :
    (∃ K' U' c, M_X1_readWorkers k K T = some (K', T) ∧ M_X10_readAll k U = some U' ∧ ER K' U' c ∧ FRD U U') ∨
    (∃ K' F' U' s' e' κ' W Z, M_X1_readWorkers k K T = some (K', F') ∧ M_X10_readAll k U = ((M_X10_settingHere k U').bind fun q => M_X10_readAll_61 k k q U') ∧ GD K' U' b L s' e' κ' ∧ LF F' U' W Z 0 st0 (fun _ => 0) ∧ FRD U U') := by
  simp only [M_X1_readWorkers, M_X1_readWorkers_0, M_X10_readAll, M_X10_readAll_0]
  obtain ⟨K1, U1, a1, b1, f1, n1⟩ := t_take hk g wd_workers
  rw [a1, Option.bind_some, b1, Option.bind_some]
  rcases n1 with ⟨s1, e1, κ1, -, g1⟩ | ⟨c, er⟩
  rotate_left
  · left
    refine ⟨K1, U1, c, ?_, ?_, er, f1.d⟩
    · rw [e_takeN er, Option.bind_some, e_take er, Option.bind_some, e_takeN er, Option.bind_some, e_take er, Option.bind_some, c_bad er.kn, Option.bind_some, if_pos rfl]
    · rw [e_readN er hk, Option.bind_some, e_expW er hk, Option.bind_some, e_readN er hk, Option.bind_some, e_exp er, Option.bind_some, if_neg er.un]
  rcases t_numQ hk g1 (p := 2) (q := 12) (a := 2) (B := 13) rfl (by decide) (by decide) (by decide) with ⟨K2, U2, W, s2, e2, κ2, a2, b2, w2, w13, -, g2, f2⟩ | ⟨K2, U2, c, a2, b2, er, f2⟩
  rotate_left
  · left
    rw [a2, Option.bind_some, b2, Option.bind_some]
    refine ⟨K2, U2, c, ?_, ?_, er, f1.d.trans f2.d⟩
    · rw [e_take er, Option.bind_some, e_takeN er, Option.bind_some, e_take er, Option.bind_some, c_bad er.kn, Option.bind_some, if_pos rfl]
    · rw [e_expW er hk, Option.bind_some, e_readN er hk, Option.bind_some, e_exp er, Option.bind_some, if_neg er.un]
  rw [a2, Option.bind_some, b2, Option.bind_some]
  obtain ⟨K3, U3, a3, b3, f3, n3⟩ := t_take hk g2 wd_size
  rw [a3, Option.bind_some, b3, Option.bind_some]
  rcases n3 with ⟨s3, e3, κ3, -, g3⟩ | ⟨c, er⟩
  rotate_left
  · left
    refine ⟨K3, U3, c, ?_, ?_, er, (f1.d.trans f2.d).trans f3.d⟩
    · rw [e_takeN er, Option.bind_some, e_take er, Option.bind_some, c_bad er.kn, Option.bind_some, if_pos rfl]
    · rw [e_readN er hk, Option.bind_some, e_exp er, Option.bind_some, if_neg er.un]
  have hW : W ≤ 12 := by omega
  rcases t_numQ hk g3 (p := 1) (q := if nI W < 4 then nI W else 4) (a := 1) (B := min W 4 + 1) rfl (min4 hW) (by decide) (by omega) with ⟨K4, U4, Z, s4, e4, κ4, a4, b4, z1, z5, -, g4, f4⟩ | ⟨K4, U4, c, a4, b4, er, f4⟩
  rotate_left
  · left
    rw [a4, Option.bind_some, b4, Option.bind_some]
    refine ⟨K4, U4, c, ?_, ?_, er, ((f1.d.trans f2.d).trans f3.d).trans f4.d⟩
    · rw [e_take er, Option.bind_some, c_bad er.kn, Option.bind_some, if_pos rfl]
    · rw [e_exp er, Option.bind_some, if_neg er.un]
  rw [a4, Option.bind_some, b4, Option.bind_some]
  obtain ⟨K5, U5, a5, b5, f5, n5⟩ := t_expect hk g4 sy_semi
  rw [a5, Option.bind_some, b5, Option.bind_some]
  have F5 : FRU U U5 := (((f1.trans f2).trans f3).trans f4).trans f5
  rcases n5 with ⟨s5, e5, κ5, -, g5⟩ | ⟨c, er⟩
  rotate_left
  · left
    refine ⟨K5, U5, c, ?_, ?_, er, F5.d⟩
    · rw [c_bad er.kn, Option.bind_some, if_pos rfl]
    · rw [if_neg er.un]
  right
  obtain ⟨F', G, c1, c2, lf⟩ := l_begin (F := T) (U := U5) (W := W) (Z := Z) hk w2 hW z1 (by omega) (by omega) ((F5.1 2 (by decide)).trans hU) hY ((F5.2 3 (by decide) (by decide) (by decide) (by decide) (by decide)).trans h3)
  refine ⟨K5, F', va_up U5 2 G, s5, e5, κ5, W, Z, ?_, ?_, g5.fr rfl rfl, lf, F5.d.trans (FRD.put U5 G)⟩
  · rw [c_good g5.2.1.k1, Option.bind_some, if_neg (show ¬ (1 : Int32) = 0 by decide), c1, Option.bind_some]
  · rw [if_pos g5.2.2.2, c2, Option.bind_some, lt_eq]
-- settings
def loR (i : Nat) : Nat := ([1, 0, 1, 1, 1] : List Nat).getD i 0
def hiR (i : Nat) : Nat := ([51, 6, 10, 100, 1000] : List Nat).getD i 0
theorem bnds0 : ∀ i, i < 5 → (M_X9_leastSetting 0 (nI i) = some (nI (loR i)) ∧ M_X9_greatestSetting 0 (nI i) = some (nI (hiR i) - 1)) ∧ M_X10_leastOf 0 (nI i) = some (nI (loR i)) ∧ M_X10_mostOf 0 (nI i) = some (nI (hiR i) - 1) := by decide +kernel
theorem bnds (k : Nat) {i : Nat} (h : i < 5) : M_X9_leastSetting k (nI i) = some (nI (loR i)) ∧ M_X9_greatestSetting k (nI i) = some (nI (hiR i) - 1) ∧ M_X10_leastOf k (nI i) = some (nI (loR i)) ∧ M_X10_mostOf k (nI i) = some (nI (hiR i) - 1) := ⟨(bnds0 i h).1.1, (bnds0 i h).1.2, (bnds0 i h).2.1, (bnds0 i h).2.2⟩
theorem bndS : ∀ i, i < 5 → loR i ≤ 10000 ∧ hiR i ≤ 1000 ∧ (i = 1 → hiR i = 6) := by decide
theorem t_named (hk : 20000 ≤ k) (g : GD K U b L s e κ) : (∃ i, i < 5 ∧ κ ≠ 0 ∧ M_X1_settingNamed k K = some (nI i) ∧ M_X10_settingHere k U = some (nI i)) ∨ (M_X1_settingNamed k K = some (-1) ∧ M_X10_settingHere k U = some (-1)) := by
  obtain ⟨f, hf⟩ : ∃ f, k = f + 6 := ⟨k - 6, by omega⟩
  have hr : M_X10_settingHere k U = M_X10_settingHere_2 k U (f + 6) 0 := by
    rw [← hf]
    rfl
  have step : ∀ n i, i < 5 → M_X10_settingHere_2 k U (n + 1) (nI i) = ((M_X10_isWord k U (54 + i)).bind fun q4 => if q4 = 0 then M_X10_settingHere_2 k U n (nI (i + 1)) else some (nI i)) := fun n i hi => by
    have h0 : ¬ (5 : Int32) ≤ nI i := nI_ge (b := 5) hi (by decide)
    simp only [M_X10_settingHere_2, lt_eq]
    rw [if_neg h0, if_pos (inb_nI hi (by decide)), nI_clamp (by omega), nI_1]
  have last : ∀ n, M_X10_settingHere_2 k U (n + 1) (nI 5) = some (-1) := fun n => by
    have h0 : (5 : Int32) ≤ nI 5 := nI_le (Nat.le_refl 5) (by decide)
    simp only [M_X10_settingHere_2]
    rw [if_pos h0]
  rw [hr, show (0 : Int32) = nI 0 from rfl, step _ 0 (by decide)]
  simp only [M_X1_settingNamed, M_X1_settingNamed_0]
  rcases t_is hk g (wd_set 0 (by decide)) with ⟨h0, h1, h2⟩ | ⟨h1, h2⟩
  · left
    refine ⟨0, by decide, h0, ?_, ?_⟩
    · rw [h1, Option.bind_some, if_neg (show ¬ (1 : Int32) = 0 by decide)]; rfl
    · rw [h2, Option.bind_some, if_neg (show ¬ (1 : Int32) = 0 by decide)]
  rw [h1, Option.bind_some, if_pos rfl, h2, Option.bind_some, if_pos rfl, step _ 1 (by decide)]
  rcases t_is hk g (wd_set 1 (by decide)) with ⟨h0, h1, h2⟩ | ⟨h1, h2⟩
  · left
    refine ⟨1, by decide, h0, ?_, ?_⟩
    · rw [h1, Option.bind_some, if_neg (show ¬ (1 : Int32) = 0 by decide)]; rfl
    · rw [h2, Option.bind_some, if_neg (show ¬ (1 : Int32) = 0 by decide)]
  rw [h1, Option.bind_some, if_pos rfl, h2, Option.bind_some, if_pos rfl, step _ 2 (by decide)]
  rcases t_is hk g (wd_set 2 (by decide)) with ⟨h0, h1, h2⟩ | ⟨h1, h2⟩
  · left
    refine ⟨2, by decide, h0, ?_, ?_⟩
    · rw [h1, Option.bind_some, if_neg (show ¬ (1 : Int32) = 0 by decide)]; rfl
    · rw [h2, Option.bind_some, if_neg (show ¬ (1 : Int32) = 0 by decide)]
  rw [h1, Option.bind_some, if_pos rfl, h2, Option.bind_some, if_pos rfl, step _ 3 (by decide)]
  rcases t_is hk g (wd_set 3 (by decide)) with ⟨h0, h1, h2⟩ | ⟨h1, h2⟩
  · left
    refine ⟨3, by decide, h0, ?_, ?_⟩
    · rw [h1, Option.bind_some, if_neg (show ¬ (1 : Int32) = 0 by decide)]; rfl
    · rw [h2, Option.bind_some, if_neg (show ¬ (1 : Int32) = 0 by decide)]
  rw [h1, Option.bind_some, if_pos rfl, h2, Option.bind_some, if_pos rfl, step _ 4 (by decide)]
  rcases t_is hk g (wd_set 4 (by decide)) with ⟨h0, h1, h2⟩ | ⟨h1, h2⟩
  · left
    refine ⟨4, by decide, h0, ?_, ?_⟩
    · rw [h1, Option.bind_some, if_neg (show ¬ (1 : Int32) = 0 by decide)]; rfl
    · rw [h2, Option.bind_some, if_neg (show ¬ (1 : Int32) = 0 by decide)]
  right
  rw [h1, Option.bind_some, if_pos rfl, h2, Option.bind_some, if_pos rfl, last]
  exact ⟨rfl, rfl⟩
theorem e_named {c : Int32} (h : ER K U c) (hk : 20000 ≤ k) : M_X1_settingNamed k K = some (-1) ∧ M_X10_settingHere k U = some (-1) := by
  constructor
  · simp only [M_X1_settingNamed, M_X1_settingNamed_0]
    rw [e_is h, Option.bind_some, if_pos rfl, e_is h, Option.bind_some, if_pos rfl, e_is h, Option.bind_some, if_pos rfl, e_is h, Option.bind_some, if_pos rfl, e_is h, Option.bind_some, if_pos rfl]
  · refine loop_st0 (fun n i => M_X10_settingHere_2 k U n (nI i)) 5 _ (fun n i hi => ?_) (fun n => ?_) (fuel := k) (by omega)
    · have h0 : ¬ (5 : Int32) ≤ nI i := nI_ge (b := 5) hi (by decide)
      simp only [M_X10_settingHere_2, lt_eq]
      rw [if_neg h0, if_pos (inb_nI hi (by decide)), e_isW h hk, Option.bind_some, if_pos rfl, nI_1]
    · have h0 : (5 : Int32) ≤ nI 5 := nI_le (Nat.le_refl 5) (by decide)
      simp only [M_X10_settingHere_2]
      rw [if_pos h0]
/-- the settings, from the x-th on -/
theorem s_settings (hk : 20000 ≤ k) {W Z : Nat} : ∀ m x (K U F : VV) (s e κ : Nat) (st : Nat → Nat) (q : Int32), x + m = 700 → x ≤ s → GD K U b L s e κ → LF F U W Z 0 st (fun _ => 0) → (q = -1 ∨ ∃ i, i < 5 ∧ κ ≠ 0 ∧ q = nI i) → ∀ n n', m + 1 < n → m + 1 < n' →
    (∃ K' F' U' c, M_X1_readSettings_7 k n q (nI x) K F = some (K', F') ∧ M_X10_readAll_61 k n' q U = M_X10_readAll_79 k k U' ∧ ER K' U' c ∧ FRD U U') ∨
    (∃ K' F' U' s' e' κ' st', M_X1_readSettings_7 k n q (nI x) K F = some (K', F') ∧ M_X10_readAll_61 k n' q U = M_X10_readAll_79 k k U' ∧ GD K' U' b L s' e' κ' ∧ LF F' U' W Z 0 st' (fun _ => 0) ∧ FRD U U') := by
  -- no further setting
  have stop : ∀ n n' x (K U F : VV), M_X1_readSettings_7 k (n + 1) (-1) (nI x) K F = some (K, F) ∧ M_X10_readAll_61 k (n' + 1) (-1) U = M_X10_readAll_79 k k U := fun n n' x K U F => by
    constructor
    · simp only [M_X1_readSettings_7]
      by_cases h : (700 : Int32) ≤ nI x
      · rw [if_pos h]
      · rw [if_neg h, if_pos trivial]
    · simp only [M_X10_readAll_61]
      rw [if_pos trivial]
  intro m
  induction m with
  | zero =>
    intro x K U F s e κ st q hx hs g lf hq n n' hn hn'
    obtain ⟨n, rfl⟩ : ∃ f, n = f + 1 := ⟨n - 1, by omega⟩
    obtain ⟨n', rfl⟩ : ∃ f, n' = f + 1 := ⟨n' - 1, by omega⟩
    rcases hq with rfl | ⟨i, hi, h0, rfl⟩
    · right
      obtain ⟨z1, z2⟩ := stop n n' x K U F
      exact ⟨K, F, U, s, e, κ, st, z1, z2, g, lf, FRD.refl U⟩
    · have h7 := g.1.h7
      have hp := g.1.p h0
      have hel := g.1.el
      omega
  | succ m ih =>
    intro x K U F s e κ st q hx hs g lf hq n n' hn hn'
    obtain ⟨n, rfl⟩ : ∃ f, n = f + 1 := ⟨n - 1, by omega⟩
    obtain ⟨n', rfl⟩ : ∃ f, n' = f + 1 := ⟨n' - 1, by omega⟩
    rcases hq with rfl | ⟨i, hi, h0, rfl⟩
    · right
      obtain ⟨z1, z2⟩ := stop n n' x K U F
      exact ⟨K, F, U, s, e, κ, st, z1, z2, g, lf, FRD.refl U⟩
    obtain ⟨d1, d2, d3, d4⟩ := bnds k hi
    obtain ⟨y1, y2, y3⟩ := bndS i hi
    have hx7 : ¬ (700 : Int32) ≤ nI x := nI_ge (b := 700) (by omega) (by decide)
    have hm1 : ¬ nI i = -1 := m1_ne (by omega)
    have h5i : (5 : Int32) + nI i = nI (5 + i) := nI_add 5 i
    obtain ⟨K1, U1, s1, e1, κ1, a1, -, b1, q1, g1, f1⟩ := t_ad hk g h0
    simp only [M_X1_readSettings_7, M_X10_readAll_61, M_X10_readSetting, M_X10_readSetting_0]
    rw [if_neg hx7, if_neg hm1, if_neg hm1, a1, Option.bind_some, d1, Option.bind_some, d2, Option.bind_some, b1, Option.bind_some, d3, Option.bind_some, d4, Option.bind_some, h5i]
    rcases t_numQ hk g1 (p := nI (loR i)) (q := nI (hiR i) - 1) rfl rfl y1 (by omega) with ⟨K2, U2, v, s2, e2, κ2, a2, b2, v1, v2, q2, g2, f2⟩ | ⟨K2, U2, c, a2, b2, er, f2⟩
    · rw [a2, Option.bind_some, b2, Option.bind_some, R_putI k hi (by decide), Option.bind_some, lt_eq, if_pos (inb_nI (by omega) (by decide)), nI_clamp (by omega), lt_eq]
      have lf2 := l_set ((lf.mv f1).mv f2) hi (v := v) (by omega) (fun h => by have := y3 h; omega)
      have g2' : GD K2 (va_up U2 2 (upd (U2 2) (5 + i) (nI v))) b L s2 e2 κ2 := g2.fr rfl rfl
      obtain ⟨K3, U3, a3, b3, f3, n3⟩ := t_expect hk g2' sy_semi
      have fr : FRD U U3 := ((f1.d.trans f2.d).trans (FRD.put U2 _)).trans f3.d
      rw [a3, Option.bind_some, b3, Option.bind_some, Option.bind_some, nI_1]
      rcases n3 with ⟨s3, e3, κ3, q3, g3⟩ | ⟨c, er⟩
      · rcases t_named hk g3 with ⟨j, hj, hκ, z1, z2⟩ | ⟨z1, z2⟩
        · rw [z1, Option.bind_some, z2, Option.bind_some]
          rcases ih (x + 1) K3 U3 _ s3 e3 κ3 _ (nI j) (by omega) (by omega) g3 (lf2.mv f3) (Or.inr ⟨j, hj, hκ, rfl⟩) n n' (by omega) (by omega) with ⟨K', F', U', c, r1, r2, r3, r4⟩ | ⟨K', F', U', s', e', κ', st', r1, r2, r3, r4, r5⟩
          · exact Or.inl ⟨K', F', U', c, r1, r2, r3, fr.trans r4⟩
          · exact Or.inr ⟨K', F', U', s', e', κ', st', r1, r2, r3, r4, fr.trans r5⟩
        · rw [z1, Option.bind_some, z2, Option.bind_some]
          rcases ih (x + 1) K3 U3 _ s3 e3 κ3 _ (-1) (by omega) (by omega) g3 (lf2.mv f3) (Or.inl rfl) n n' (by omega) (by omega) with ⟨K', F', U', c, r1, r2, r3, r4⟩ | ⟨K', F', U', s', e', κ', st', r1, r2, r3, r4, r5⟩
          · exact Or.inl ⟨K', F', U', c, r1, r2, r3, fr.trans r4⟩
          · exact Or.inr ⟨K', F', U', s', e', κ', st', r1, r2, r3, r4, fr.trans r5⟩
      · left
        obtain ⟨z1, z2⟩ := e_named er hk
        obtain ⟨n, rfl⟩ : ∃ f, n = f + 1 := ⟨n - 1, by omega⟩
        obtain ⟨n', rfl⟩ : ∃ f, n' = f + 1 := ⟨n' - 1, by omega⟩
        rw [z1, Option.bind_some, z2, Option.bind_some, (stop n n' (x + 1) K3 U3 _).1, (stop n n' (x + 1) K3 U3 F).2]
        exact ⟨K3, _, U3, c, rfl, rfl, er, fr⟩
    · left
      have er' : ER K2 (va_up U2 2 (upd (U2 2) (5 + i) (nI (loR i)))) c := er.fr rfl
      obtain ⟨z1, z2⟩ := e_named er' hk
      obtain ⟨n, rfl⟩ : ∃ f, n = f + 1 := ⟨n - 1, by omega⟩
      obtain ⟨n', rfl⟩ : ∃ f, n' = f + 1 := ⟨n' - 1, by omega⟩
      rw [a2, Option.bind_some, b2, Option.bind_some, R_putI k hi (by decide), Option.bind_some, lt_eq, if_pos (inb_nI (by omega) (by decide)), nI_clamp (by omega), lt_eq, e_take er, Option.bind_some, e_exp er', Option.bind_some, Option.bind_some, z1, Option.bind_some, z2, Option.bind_some, nI_1, (stop n n' (x + 1) K2 U2 _).1, (stop n n' (x + 1) K2 (va_up U2 2 (upd (U2 2) (5 + i) (nI (loR i)))) F).2]
      exact ⟨K2, _, _, c, rfl, rfl, er', (f1.d.trans f2.d).trans (FRD.put U2 _)⟩
end READ
