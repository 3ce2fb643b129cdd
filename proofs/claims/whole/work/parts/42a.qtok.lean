-- ===== the tokens of a query =====
theorem wd_names : ∀ i, i < 9 → WD (39 + i) (59 + i) := by unfold WD; decide +kernel
theorem wd_not : WD 37 76 := by unfold WD; decide +kernel
theorem wd_and : WD 52 77 := by unfold WD; decide +kernel
theorem wd_or : WD 53 78 := by unfold WD; decide +kernel
theorem wd_many : WD 35 75 := by unfold WD; decide +kernel
theorem wd_first : WD 36 74 := by unfold WD; decide +kernel
theorem sy_par : SY 38 40 := by unfold SY; decide +kernel
theorem sy_close : SY 51 41 := by unfold SY; decide +kernel
theorem sy_lt : SY 48 60 := by unfold SY; decide +kernel
theorem sy_gt : SY 49 62 := by unfold SY; decide +kernel
theorem sy_eq : SY 50 61 := by unfold SY; decide +kernel
/-- what may change while a query is read -/
def FRQ (U U' : VV) : Prop := (∀ j, j ≠ 0 → j ≠ 9 → U' j = U j) ∧ ∀ c, c ≠ 8 → c ≠ 9 → c ≠ 10 → c ≠ 11 → c ≠ 12 → c ≠ 14 → c ≠ 15 → U' 0 c = U 0 c
theorem FRQ.refl (U : VV) : FRQ U U := ⟨fun _ _ _ => rfl, fun _ _ _ _ _ _ _ _ => rfl⟩
theorem FRQ.trans {U U' U'' : VV} (h : FRQ U U') (g : FRQ U' U'') : FRQ U U'' := ⟨fun j h0 h9 => (g.1 j h0 h9).trans (h.1 j h0 h9), fun c a1 a2 a3 a4 a5 a6 a7 => (g.2 c a1 a2 a3 a4 a5 a6 a7).trans (h.2 c a1 a2 a3 a4 a5 a6 a7)⟩
theorem FRU.q {U U' : VV} (h : FRU U U') : FRQ U U' := ⟨fun j h0 _ => h.1 j h0, fun c a1 a2 a3 a4 a5 _ _ => h.2 c a1 a2 a3 a4 a5⟩
theorem FRU.n {U U' : VV} (h : FRU U U') : U' 0 14 = U 0 14 := h.2 14 (by decide) (by decide) (by decide) (by decide) (by decide)
/-- the codes that are there so far -/
def CDS (U : VV) (l : List Int32) : Prop := U 0 15 = nI l.length ∧ ∀ i, i < l.length → U 9 i = l.getD i 0
theorem CDS.fru {U U' : VV} {l : List Int32} (h : CDS U l) (f : FRU U U') : CDS U' l := ⟨(f.2 15 (by decide) (by decide) (by decide) (by decide) (by decide)).trans h.1, fun i hi => by rw [f.1 9 (by decide)]; exact h.2 i hi⟩
theorem GD.cg {K U U' : VV} {b : Nat → Int32} {L s e κ : Nat} (g : GD K U b L s e κ) (h8 : U' 8 = U 8) (h : ∀ c, c ≠ 14 → c ≠ 15 → U' 0 c = U 0 c) : GD K U' b L s e κ := by
  obtain ⟨t, c, r, h11⟩ := g
  exact ⟨t, c, UC.ofs (u7 := (h 7 (by decide) (by decide)).trans r.u7) (u8 := (h 8 (by decide) (by decide)).trans r.u8) (u9 := (h 9 (by decide) (by decide)).trans r.u9) (uk := (h 10 (by decide) (by decide)).trans r.uk) (uB := fun i hi => by rw [h8]; exact r.uB i hi), (h 11 (by decide) (by decide)).trans h11⟩
theorem ER.cg {K U U' : VV} {c : Int32} (h : ER K U c) (f : ∀ c, c ≠ 14 → c ≠ 15 → U' 0 c = U 0 c) : ER K U' c := by
  obtain ⟨a1, a2, a3, a4, a5, s, e, a6, a7, a8, a9⟩ := h
  exact ⟨a1, a2, a3, (f 11 (by decide) (by decide)).trans a4, a5.trans (f 12 (by decide) (by decide)).symm, s, e, (f 9 (by decide) (by decide)).trans a6, (f 8 (by decide) (by decide)).trans a7, a8, a9⟩
/-- a code more -/
def em (U : VV) (l : List Int32) (x : Int32) : VV := va_up (va_up U 9 (upd (U 9) l.length x)) 0 (upd (U 0) 15 (nI (l.length + 1)))
theorem em_0 (U : VV) (l : List Int32) (x : Int32) {c : Nat} (h : c ≠ 15) : em U l x 0 c = U 0 c := upd_ne (U 0) _ h
theorem em_j (U : VV) (l : List Int32) (x : Int32) {j : Nat} (h0 : j ≠ 0) (h9 : j ≠ 9) : em U l x j = U j := by
  unfold em
  rw [vaN _ _ h0, vaN _ _ h9]
theorem em_fr (U : VV) (l : List Int32) (x : Int32) : FRQ U (em U l x) := ⟨fun _ h0 h9 => em_j U l x h0 h9, fun _ _ _ _ _ _ _ h15 => em_0 U l x h15⟩
theorem em_cd {U : VV} {l : List Int32} (h : CDS U l) (x : Int32) : CDS (em U l x) (l ++ [x]) := by
  have hl : (l ++ [x]).length = l.length + 1 := by rw [List.length_append]; rfl
  refine ⟨?_, fun i hi => ?_⟩
  · rw [hl]
    rfl
  · rw [hl] at hi
    show upd (U 9) l.length x i = (l ++ [x]).getD i 0
    by_cases e : i = l.length
    · subst e
      rw [upd_self, List.getD_eq_getElem?_getD, List.getElem?_concat_length]
      rfl
    · rw [upd_ne _ _ e, h.2 i (by omega), List.getD_eq_getElem?_getD, List.getD_eq_getElem?_getD, List.getElem?_append_left (by omega)]
theorem r_emit {k : Nat} {U : VV} {l : List Int32} (h : CDS U l) (h11 : U 0 11 = 0) (hl : l.length < 200) (x : Int32) : M_X10_emit k U x = some (em U l x) := by
  have e : va_up U 9 (upd (U 9) l.length x) 0 15 = nI l.length := h.1
  simp only [M_X10_emit, M_X10_emit_0, lt_eq]
  rw [if_pos h11, h.1, if_pos (inb_nI hl (by decide)), nI_clamp (by omega), e, nI_1]
  rfl
theorem e_emit {k : Nat} {U : VV} (h : ¬ U 0 11 = 0) (x : Int32) : M_X10_emit k U x = some U := by
  simp only [M_X10_emit, M_X10_emit_0]
  exact if_neg h
section QTOK
variable {K U : VV} {b : Nat → Int32} {L s e κ k : Nat}
theorem GD.em (g : GD K U b L s e κ) (l : List Int32) (x : Int32) : GD K (em U l x) b L s e κ := g.cg (em_j U l x (by decide) (by decide)) (fun _ _ h15 => em_0 U l x h15)
theorem t_isE (hk : 20000 ≤ k) (g : GD K U b L s e κ) {w w' : Nat} (hw : WD w w') : ((κ = 1 ∧ MT b s e (txB w)) ∧ M_X7_is k K w = some 1 ∧ M_X10_isWord k U w' = some 1) ∨ (¬ (κ = 1 ∧ MT b s e (txB w)) ∧ M_X7_is k K w = some 0 ∧ M_X10_isWord k U w' = some 0) := by
  have hr := r_isW hk g.1 g.2.2.1 g.2.2.2 (w := w') (by rw [hw.1]; exact hw.2.2.1)
  rw [hw.1] at hr
  rcases t_is hk g hw with ⟨h0, h1, h2⟩ | ⟨h1, h2⟩
  · rcases hr with ⟨m, e2⟩ | ⟨m, e2⟩
    · exact Or.inl ⟨⟨m.2, m.1⟩, h1, h2⟩
    · rw [h2] at e2
      exact absurd e2 (by decide)
  · rcases hr with ⟨m, e2⟩ | ⟨m, e2⟩
    · rw [h2] at e2
      exact absurd e2 (by decide)
    · exact Or.inr ⟨fun h => m ⟨h.2, h.1⟩, h1, h2⟩
theorem t_syE (hk : 20000 ≤ k) (g : GD K U b L s e κ) {w : Nat} {x : Int32} (hw : SY w x) : ((κ = 3 ∧ b s = x) ∧ M_X7_is k K w = some 1 ∧ M_X10_isSymbol k U x = some 1) ∨ (¬ (κ = 3 ∧ b s = x) ∧ M_X7_is k K w = some 0 ∧ M_X10_isSymbol k U x = some 0) := by
  have hr := r_isS (k := k) g.1 g.2.2.1 g.2.2.2 x
  rcases t_sy hk g hw with ⟨h0, h1, h2⟩ | ⟨h1, h2⟩
  · rcases hr with ⟨m, e2⟩ | ⟨m, e2⟩
    · exact Or.inl ⟨m, h1, h2⟩
    · rw [h2] at e2
      exact absurd e2 (by decide)
  · rcases hr with ⟨m, e2⟩ | ⟨m, e2⟩
    · rw [h2] at e2
      exact absurd e2 (by decide)
    · exact Or.inr ⟨m, h1, h2⟩
-- the names of the properties
def chn (k : Nat) (S : VV) : List (Nat × Int32) → Option Int32
  | [] => some (-1)
  | x :: t => (M_X7_is k S x.1).bind fun q => if q = 0 then chn k S t else some x.2
def nml : Nat → Nat → List (Nat × Int32)
  | 0, _ => []
  | m + 1, i => (39 + i, nI i) :: nml m (i + 1)
theorem pn_chn (k : Nat) (S : VV) : M_X4_propertyNamed k S = chn k S (nml 9 0) := rfl
theorem e_chn {c : Int32} (h : ER K U c) : ∀ t : List (Nat × Int32), chn k K t = some (-1)
  | [] => rfl
  | x :: t => by
    show ((M_X7_is k K x.1).bind fun q => if q = 0 then chn k K t else some x.2) = some (-1)
    rw [e_is h, Option.bind_some, if_pos rfl, e_chn h t]
theorem nam (hk : 20000 ≤ k) (g : GD K U b L s e κ) : ∀ m i, i + m = 9 → ∀ n, m < n → (∃ p, p < 9 ∧ κ = 1 ∧ chn k K (nml m i) = some (nI p) ∧ M_X10_compileValue_30 k n (nI i) U = M_X10_compileValue_58 k (nI p) U) ∨ (chn k K (nml m i) = some (-1) ∧ M_X10_compileValue_30 k n (nI i) U = M_X10_compileValue_58 k (nI 9) U)
  | 0, i, hi, n, hn => by
    obtain ⟨f, rfl⟩ : ∃ f, n = f + 1 := ⟨n - 1, by omega⟩
    have hi : i = 9 := by omega
    subst hi
    right
    refine ⟨rfl, ?_⟩
    simp only [M_X10_compileValue_30]
    rw [if_pos (Int32.le_refl _)]
  | m + 1, i, hi, n, hn => by
    obtain ⟨f, rfl⟩ : ∃ f, n = f + 1 := ⟨n - 1, by omega⟩
    have h9 : i < 9 := by omega
    have ec : chn k K (nml (m + 1) i) = ((M_X7_is k K (39 + i)).bind fun q => if q = 0 then chn k K (nml m (i + 1)) else some (nI i)) := rfl
    have er : M_X10_compileValue_30 k (f + 1) (nI i) U = ((M_X10_isWord k U (59 + i)).bind fun q8 => if q8 = 0 then M_X10_compileValue_30 k f (nI (i + 1)) U else M_X10_compileValue_58 k (nI i) U) := by
      simp only [M_X10_compileValue_30, lt_eq]
      rw [if_neg (nI_ge h9 (by decide)), if_pos (inb_nI h9 (by decide)), nI_clamp (by omega), nI_1]
    rw [ec, er]
    rcases t_isE hk g (wd_names i h9) with ⟨h0, h1, h2⟩ | ⟨h0, h1, h2⟩
    · left
      refine ⟨i, h9, h0.1, ?_, ?_⟩
      · rw [h1, Option.bind_some, if_neg (show ¬ (1 : Int32) = 0 by decide)]
      · rw [h2, Option.bind_some, if_neg (show ¬ (1 : Int32) = 0 by decide)]
    · rw [h1, Option.bind_some, if_pos rfl, h2, Option.bind_some, if_pos rfl]
      exact nam hk g m (i + 1) (by omega) f (by omega)
/-- the code of a value -/
def VCode (x : Int32) : Prop := (∃ v, v < 10000 ∧ x = nI v) ∨ ∃ p, p < 9 ∧ x = -1 - nI p
theorem e_val {c : Int32} (h : ER K U c) (hk : 20000 ≤ k) : M_X4_takeValue k K = some (-1, K) ∧ M_X10_compileValue k U = some U := by
  constructor
  · simp only [M_X4_takeValue, M_X4_takeValue_0]
    rw [pn_chn, e_chn h, Option.bind_some, if_pos rfl, e_takeN h, Option.bind_some]
  · simp only [M_X10_compileValue, M_X10_compileValue_0, M_X10_compileValue_15]
    rw [if_neg h.un, e_readN h hk, Option.bind_some, e_emit h.un, Option.bind_some]
/-- a value is read -/
theorem s_value (hk : 20000 ≤ k) (g : GD K U b L s e κ) (hL : L ≤ 200) {l : List Int32} (cd : CDS U l) (hl : l.length ≤ s) :
    (∃ K' U' c x, M_X4_takeValue k K = some (x, K') ∧ M_X10_compileValue k U = some U' ∧ ER K' U' c ∧ FRQ U U') ∨
    (∃ K' U' x s' e' κ', M_X4_takeValue k K = some (x, K') ∧ M_X10_compileValue k U = some U' ∧ GD K' U' b L s' e' κ' ∧ s < s' ∧ CDS U' (l ++ [x]) ∧ VCode x ∧ U' 0 14 = U 0 14 ∧ FRQ U U') := by
  have hk3 := g.1.k3
  have hel := g.1.el
  simp only [M_X4_takeValue, M_X4_takeValue_0, M_X10_compileValue, M_X10_compileValue_0]
  rw [pn_chn, if_pos g.2.2.2, g.2.2.1.uk]
  have hn := nam hk g 9 0 rfl k (by omega)
  rw [show nI 0 = (0 : Int32) from rfl] at hn
  by_cases h2 : κ = 2
  · have t2 : nI κ = 2 := by rw [h2]; rfl
    have hc : chn k K (nml 9 0) = some (-1) := by
      rcases hn with ⟨p, -, h1, -⟩ | ⟨h1, -⟩
      · omega
      · exact h1
    simp only [M_X10_compileValue_15]
    rw [hc, Option.bind_some, if_pos rfl, if_pos t2]
    rcases t_numQ hk g (p := 0) (q := 9999) (a := 0) (B := 10000) rfl (by decide) (by decide) (by decide) with ⟨K', U', v, s', e', κ', a1, a2, -, hv, hs, g', f⟩ | ⟨K', U', c, a1, a2, er, f⟩
    · right
      have he' := g'.1.el
      have hse' := g'.1.se
      have cd' := cd.fru f
      rw [a1, Option.bind_some, a2, Option.bind_some]
      have em1 := r_emit (k := k) cd' g'.2.2.2 (by omega) (nI v)
      have em2 : M_X10_emit k (nI v, U').2 (nI v, U').1 = some (em U' l (nI v)) := em1
      rw [em2, Option.bind_some]
      exact ⟨K', em U' l (nI v), nI v, s', e', κ', rfl, rfl, g'.em l _, hs, em_cd cd' _, Or.inl ⟨v, hv, rfl⟩, (em_0 U' l _ (by decide)).trans f.n, f.q.trans (em_fr U' l _)⟩
    · left
      rw [a1, Option.bind_some, a2, Option.bind_some]
      have em1 : M_X10_emit k ((0 : Int32), U').2 ((0 : Int32), U').1 = some U' := e_emit er.un 0
      rw [em1, Option.bind_some]
      exact ⟨K', U', c, -1, rfl, rfl, er, f.q⟩
  · have t2 : ¬ nI κ = 2 := fun q => h2 ((nI_eq (by omega) (by decide)).mp (show nI κ = nI 2 from q))
    rw [if_neg t2]
    rcases hn with ⟨p, hp, h1, c1, r1⟩ | ⟨c1, r1⟩
    · right
      obtain ⟨K', U', s', e', κ', a1, -, a3, hs, g', f⟩ := t_ad hk (g.em l (-1 - nI p)) (by omega)
      have he := g.1.p (by omega)
      rw [c1, Option.bind_some, if_neg (m1_ne (by omega)), a1, Option.bind_some, r1]
      simp only [M_X10_compileValue_58, M_X10_compileValue_73]
      rw [if_neg (nI_ge hp (by decide)), chk1, Option.bind_some, r_emit cd g.2.2.2 (by omega), Option.bind_some, a3, Option.bind_some]
      exact ⟨K', U', -1 - nI p, s', e', κ', rfl, rfl, g', hs, (em_cd cd _).fru f, Or.inr ⟨p, hp, rfl⟩, f.n.trans (em_0 U l _ (by decide)), (em_fr U l _).trans f.q⟩
    · left
      obtain ⟨K', U', a1, a2, er, f⟩ := t_fail (k := k) g (c := 1) (by decide)
      have hc : M_X10_check k U 0 1 = some U' := by rw [chk0, a2]
      rw [c1, Option.bind_some, if_pos rfl, r1]
      simp only [M_X7_takeNumber, M_X7_takeNumber_0, M_X7_takeNumber_36, lt_eq, M_X10_compileValue_58, M_X10_compileValue_73]
      rw [g.2.1.k6, if_neg t2, a1, Option.bind_some, c_bad er.kn, Option.bind_some, if_pos rfl, Option.bind_some, if_pos (Int32.le_refl _), hc, Option.bind_some, e_emit er.un, Option.bind_some, e_adv er, Option.bind_some]
      exact ⟨K', U', 1, -1, rfl, rfl, er, f.q⟩
end QTOK
