-- ===== comparisons =====
/-- both sides read a part of a query: an error, or a set of requests and its codes -/
def QR (A : AF) (b : Nat → Int32) (L s o : Nat) (l : List Int32) (U : VV) (q : Option (Int64 × VV)) (r : Option VV) : Prop :=
  (∃ K' U' c x, q = some (x, K') ∧ r = some U' ∧ ER K' U' c ∧ FRQ U U') ∨
  (∃ K' U' s' e' κ' f l', q = some (lI (msk f A.n), K') ∧ r = some U' ∧ GD K' U' b L s' e' κ' ∧ CDS U' (l ++ l') ∧ l'.length + s ≤ s' ∧ U' 0 14 = nI o ∧ FRQ U U' ∧ EVL A f l')
theorem QR.fr {A : AF} {b : Nat → Int32} {L s o : Nat} {l : List Int32} {U U' : VV} {q : Option (Int64 × VV)} {r : Option VV} (f : FRQ U U') (h : QR A b L s o l U' q r) : QR A b L s o l U q r := by
  rcases h with ⟨K2, U2, c, x, h1, h2, h3, h4⟩ | ⟨K2, U2, s2, e2, κ2, g, l2, h1, h2, h3, h4, h5, h6, h7, h8⟩
  · exact Or.inl ⟨K2, U2, c, x, h1, h2, h3, f.trans h4⟩
  · exact Or.inr ⟨K2, U2, s2, e2, κ2, g, l2, h1, h2, h3, h4, h5, h6, f.trans h7, h8⟩
def cmp3 (x3 x4 : Int32) (cb : Int32 → Int32 → Bool) : Prop := ∀ (a c : Int32) (X Y : Option (Int64 × VV)), (if x3 = 0 then (if x4 = 0 then (if a = c then X else Y) else (if a ≤ c then Y else X)) else (if c ≤ a then Y else X)) = if cb a c = true then X else Y
theorem cmp3_L (x4 : Int32) : cmp3 1 x4 cbL := fun a c X Y => by
  rw [if_neg (show ¬ (1 : Int32) = 0 by decide)]
  unfold cbL
  by_cases h : c ≤ a
  · rw [if_pos h, decide_eq_false (Int32.not_lt.mpr h), if_neg (by decide)]
  · rw [if_neg h, decide_eq_true (Int32.not_le.mp h), if_pos rfl]
theorem cmp3_G : cmp3 0 1 cbG := fun a c X Y => by
  rw [if_pos rfl, if_neg (show ¬ (1 : Int32) = 0 by decide)]
  unfold cbG
  by_cases h : a ≤ c
  · rw [if_pos h, decide_eq_false (Int32.not_lt.mpr h), if_neg (by decide)]
  · rw [if_neg h, decide_eq_true (Int32.not_le.mp h), if_pos rfl]
theorem cmp3_E : cmp3 0 0 cbE := fun a c X Y => by
  rw [if_pos rfl, if_pos rfl]
  unfold cbE
  by_cases h : a = c
  · rw [if_pos h, decide_eq_true h, if_pos rfl]
  · rw [if_neg h, decide_eq_false h, if_neg (by decide)]
section QCMP
variable {K U F : VV} {A : AF} {fg : Nat → Nat} {ks : KL} {b : Nat → Int32} {L s e κ k : Nat}
theorem c_54 (R : RelC F A fg ks) (h : LI A) (hk : 20000 ≤ k) {x y x3 x4 : Int32} (hx : VCode x) (hy : VCode y) {cb : Int32 → Int32 → Bool} (hc : cmp3 x3 x4 cb) (k1 : K 0 1 = 0) : M_X4_comparison_54 k F k x x3 x4 y 0 0 K = some (lI (msk (fun r => cb (vl A r x) (vl A r y)) A.n), K) := by
  have hn := h.n60
  refine loop_st0 (fun n i => M_X4_comparison_54 k F n x x3 x4 y (lI (msk (fun r => cb (vl A r x) (vl A r y)) i)) (nI i) K) A.n _ (fun n i hi => ?_) (fun n => ?_) (by omega)
  · have hb := bit_msk (fun r => cb (vl A r x) (vl A r y)) (i := i) (by omega)
    simp only [M_X4_comparison_54, lt_eq]
    rw [R.s3, if_neg (nI_ge hi (by omega)), c_good k1, Option.bind_some, if_neg (show ¬ (1 : Int32) = 0 by decide), c_vl R h hk hi hx, Option.bind_some, c_vl R h hk hi hy, Option.bind_some, hc _ _ _ _, nI_1]
    by_cases hh : cb (vl A i x) (vl A i y) = true
    · rw [if_pos hh, hb hh]
    · rw [if_neg hh, msk_no (f := fun r => cb (vl A r x) (vl A r y)) (i := i) (by simpa using hh)]
  · simp only [M_X4_comparison_54]
    rw [R.s3, if_pos (nI_le (Nat.le_refl _) (by omega))]
theorem e_54 {c : Int32} (h : ER K U c) (hk : 20000 ≤ k) (x x3 x4 y : Int32) : M_X4_comparison_54 k F k x x3 x4 y 0 0 K = some (0, K) := by
  obtain ⟨f, hf⟩ : ∃ f, k = f + 1 := ⟨k - 1, by omega⟩
  have e1 : M_X4_comparison_54 k F (f + 1) x x3 x4 y 0 0 K = some (0, K) := by
    simp only [M_X4_comparison_54]
    by_cases h1 : F 0 3 ≤ 0
    · rw [if_pos h1]
    · rw [if_neg h1, c_bad h.kn, Option.bind_some, if_pos rfl]
  rw [← hf] at e1
  exact e1
/-- behind the sign -/
theorem s_cmp2 (R : RelC F A fg ks) (h : LI A) (hk : 20000 ≤ k) (g : GD K U b L s e κ) (hL : L ≤ 200) {l : List Int32} {x x3 x4 d : Int32} {cb : Int32 → Int32 → Bool} (cd : CDS U (l ++ [x])) (hl : l.length + 2 ≤ s) (hx : VCode x) (hc : cmp3 x3 x4 cb) (hd : ∀ a b' (p : Int32 → Option Int32) st, ev1 p d (b' :: a :: st) = some (b1 (cb a b') :: st)) {o s0 : Nat} (ho : U 0 14 = nI o) (h0 : s0 + 2 ≤ s) :
    QR A b L s0 o l U ((M_X4_takeValue k K).bind fun q22 => M_X4_comparison_54 k F k x x3 x4 q22.1 0 0 q22.2) ((M_X10_compileValue k U).bind fun q3 => (M_X10_emit k q3 d).bind fun q4 => some q4) := by
  have hl2 : (l ++ [x]).length = l.length + 1 := by rw [List.length_append]; rfl
  rcases s_value hk g hL cd (by omega) with ⟨K', U', c, y, a1, a2, er, f⟩ | ⟨K', U', y, s', e', κ', a1, a2, g', hs, cd', hy, h14, f⟩
  · left
    rw [a1, Option.bind_some, a2, Option.bind_some, e_emit er.un, Option.bind_some]
    exact ⟨K', U', c, 0, e_54 er hk _ _ _ _, rfl, er, f⟩
  · right
    have hl3 : (l ++ [x] ++ [y]).length = l.length + 2 := by rw [List.length_append, hl2]; rfl
    have he' := g'.1.el
    have hse' := g'.1.se
    have em1 := r_emit (k := k) cd' g'.2.2.2 (by omega) d
    rw [a1, Option.bind_some, a2, Option.bind_some, em1, Option.bind_some]
    refine ⟨K', em U' (l ++ [x] ++ [y]) d, s', e', κ', _, [x] ++ [y] ++ [d], c_54 R h hk hx hy hc g'.2.1.k1, rfl, g'.em _ _, ?_, ?_, (em_0 U' _ _ (by decide)).trans (h14.trans ho), f.trans (em_fr U' _ _), EVL.cmp hx hy hd⟩
    · have ea : l ++ [x] ++ [y] ++ [d] = l ++ ([x] ++ [y] ++ [d]) := by simp only [List.append_assoc]
      rw [← ea]
      exact em_cd cd' d
    · show 3 + s0 ≤ s'
      omega
theorem f121_a {k : Nat} {φ : VV → Option VV} {d : Int32} (hd : ¬ d = -22) (S : VV) : M_X10_compileFactor_121 k φ d S = M_X10_compileFactor_143 k φ d 1 S := if_neg hd
theorem f121_b (k : Nat) (φ : VV → Option VV) (S : VV) : M_X10_compileFactor_121 k φ (-22) S = ((M_X10_isSymbol k S 62).bind fun q6 => if q6 = 0 then M_X10_compileFactor_143 k φ (-22) 0 S else M_X10_compileFactor_143 k φ (-22) 1 S) := if_pos rfl
theorem f143 (k : Nat) (φ : VV → Option VV) (d y : Int32) (S : VV) : M_X10_compileFactor_143 k φ d y S = ((M_X10_check k S y 1).bind fun q1 => (M_X10_advance k q1).bind fun q2 => (M_X10_compileValue k q2).bind fun q3 => (M_X10_emit k q3 d).bind fun q4 => some q4) := rfl
def cmpR (k : Nat) (φ : VV → Option VV) (S : VV) : Option VV := (M_X10_compileValue k S).bind fun q16 => (M_X10_isSymbol k q16 (60 : Int32)).bind fun q17 => if q17 = 0 then ((M_X10_isSymbol k q16 (61 : Int32)).bind fun q19 => if q19 = 0 then (M_X10_compileFactor_121 k φ (-22 : Int32) q16) else (M_X10_compileFactor_121 k φ (-21 : Int32) q16)) else (M_X10_compileFactor_121 k φ (-20 : Int32) q16)
theorem s_cmp (R : RelC F A fg ks) (h : LI A) (hk : 20000 ≤ k) (g : GD K U b L s e κ) (hL : L ≤ 200) {l : List Int32} (cd : CDS U l) (hl : l.length ≤ s) {o : Nat} (ho : U 0 14 = nI o) (φ : VV → Option VV) : QR A b L s o l U (M_X4_comparison k K F) (cmpR k φ U) := by
  unfold cmpR
  simp only [M_X4_comparison, M_X4_comparison_0, M_X4_comparison_29]
  have hl2 : ∀ x : Int32, (l ++ [x]).length = l.length + 1 := fun x => by rw [List.length_append]; rfl
  rcases s_value hk g hL cd hl with ⟨K1, U1, c, x, a1, a2, er, f⟩ | ⟨K1, U1, x, s1, e1, κ1, a1, a2, g1, hs1, cd1, hx, h14, f⟩
  · left
    obtain ⟨w1, w2⟩ := e_val er hk
    rw [a1, Option.bind_some, a2, Option.bind_some]
    refine ⟨K1, U1, c, 0, ?_, ?_, er, f⟩
    · show ((M_X7_is k K1 48).bind _) = _
      rw [e_is er, Option.bind_some]
      show ((M_X7_is k K1 49).bind _) = _
      rw [e_is er, Option.bind_some, if_pos rfl, if_pos rfl]
      show ((M_X7_take k K1 50).bind _) = _
      rw [e_take er, Option.bind_some, w1, Option.bind_some]
      exact e_54 er hk _ _ _ _
    · rw [e_isS er, Option.bind_some, if_pos rfl, e_isS er, Option.bind_some, if_pos rfl, f121_b, e_isS er, Option.bind_some, if_pos rfl, f143, e_check er, Option.bind_some, e_adv er, Option.bind_some, w2, Option.bind_some, e_emit er.un, Option.bind_some]
  have hl1 := hl2 x
  -- the sign is read
  have go : ∀ (w : Nat) (d x3 x4 : Int32) (cb : Int32 → Int32 → Bool), κ1 ≠ 0 → M_X7_is k K1 w = some 1 → cmp3 x3 x4 cb → (∀ a b' (p : Int32 → Option Int32) st, ev1 p d (b' :: a :: st) = some (b1 (cb a b') :: st)) → ∃ K2 U2, M_X7_take k K1 w = some K2 ∧ M_X7_advance k K1 = some K2 ∧ M_X10_advance k U1 = some U2 ∧ QR A b L s o l U ((M_X4_takeValue k K2).bind fun q22 => M_X4_comparison_54 k F k x x3 x4 q22.1 0 0 q22.2) ((M_X10_compileValue k U2).bind fun q3 => (M_X10_emit k q3 d).bind fun q4 => some q4) := fun w d x3 x4 cb hκ hw hc hd => by
    obtain ⟨K2, U2, t1, t2, t3, t4, f2, s2, e2, κ2, hs2, g2⟩ := t_go hk g1 hκ hw
    exact ⟨K2, U2, t1, t2, t4, QR.fr (f.trans f2.q) (s_cmp2 R h hk g2 hL (cd1.fru f2) (by omega) hx hc hd (f2.n.trans (h14.trans ho)) (by omega))⟩
  rw [a1, Option.bind_some, a2, Option.bind_some]
  show QR A b L s o l U ((M_X7_is k K1 48).bind fun q17 => (M_X7_is k K1 49).bind fun q18 => if q17 = 0 then (if q18 = 0 then ((M_X7_take k K1 50).bind fun q21 => (M_X4_takeValue k q21).bind fun q22 => M_X4_comparison_54 k F k x q17 q18 q22.1 0 0 q22.2) else ((M_X7_advance k K1).bind fun q14 => (M_X4_takeValue k q14).bind fun q15 => M_X4_comparison_54 k F k x q17 q18 q15.1 0 0 q15.2)) else ((M_X7_advance k K1).bind fun q14 => (M_X4_takeValue k q14).bind fun q15 => M_X4_comparison_54 k F k x q17 q18 q15.1 0 0 q15.2)) _
  rcases t_syE hk g1 sy_lt with ⟨m1, c1, r1⟩ | ⟨m1, c1, r1⟩
  · have h2 : ∃ y, M_X7_is k K1 49 = some y := by
      rcases t_syE hk g1 sy_gt with ⟨-, h, -⟩ | ⟨-, h, -⟩
      · exact ⟨_, h⟩
      · exact ⟨_, h⟩
    obtain ⟨y, hy⟩ := h2
    obtain ⟨K2, U2, t1, t2, t4, q⟩ := go 48 (-20) 1 y cbL (by omega) c1 (cmp3_L y) ev_lt
    rw [c1, Option.bind_some, hy, Option.bind_some, if_neg (show ¬ (1 : Int32) = 0 by decide), t2, Option.bind_some, r1, Option.bind_some, if_neg (show ¬ (1 : Int32) = 0 by decide), f121_a (show ¬ (-20 : Int32) = -22 by decide), f143, chk1, Option.bind_some, t4, Option.bind_some]
    exact q
  rw [c1, Option.bind_some, r1, Option.bind_some, if_pos rfl]
  rcases t_syE hk g1 sy_gt with ⟨m2, c2, r2⟩ | ⟨m2, c2, r2⟩
  · have r3 : M_X10_isSymbol k U1 61 = some 0 := by
      rcases t_syE hk g1 sy_eq with ⟨m3, -, h⟩ | ⟨-, -, h⟩
      · exact absurd (m2.2.symm.trans m3.2) (by decide)
      · exact h
    obtain ⟨K2, U2, t1, t2, t4, q⟩ := go 49 (-22) 0 1 cbG (by omega) c2 cmp3_G ev_gt
    rw [c2, Option.bind_some, if_pos rfl, if_neg (show ¬ (1 : Int32) = 0 by decide), t2, Option.bind_some, r3, Option.bind_some, if_pos rfl, f121_b, r2, Option.bind_some, if_neg (show ¬ (1 : Int32) = 0 by decide), f143, chk1, Option.bind_some, t4, Option.bind_some]
    exact q
  rw [c2, Option.bind_some, if_pos rfl, if_pos rfl]
  rcases t_syE hk g1 sy_eq with ⟨m3, c3, r3⟩ | ⟨m3, c3, r3⟩
  · obtain ⟨K2, U2, t1, t2, t4, q⟩ := go 50 (-21) 0 0 cbE (by omega) c3 cmp3_E ev_eq
    rw [t1, Option.bind_some, r3, Option.bind_some, if_neg (show ¬ (1 : Int32) = 0 by decide), f121_a (show ¬ (-21 : Int32) = -22 by decide), f143, chk1, Option.bind_some, t4, Option.bind_some]
    exact q
  · left
    obtain ⟨K2, U2, y1, y2, er, f2⟩ := t_fail (k := k) g1 (c := 1) (by decide)
    obtain ⟨w1, w2⟩ := e_val er hk
    have hc : M_X10_check k U1 0 1 = some U2 := by rw [chk0, y2]
    have ht : M_X7_take k K1 50 = some K2 := by
      simp only [M_X7_take, M_X7_take_0]
      rw [c3, Option.bind_some, if_pos rfl, y1, Option.bind_some]
    refine ⟨K2, U2, 1, 0, ?_, ?_, er, f.trans f2.q⟩
    · rw [ht, Option.bind_some, w1, Option.bind_some]
      exact e_54 er hk _ _ _ _
    · rw [r3, Option.bind_some, if_pos rfl, f121_b, r2, Option.bind_some, if_pos rfl, f143, hc, Option.bind_some, e_adv er, Option.bind_some, w2, Option.bind_some, e_emit er.un, Option.bind_some]
end QCMP
