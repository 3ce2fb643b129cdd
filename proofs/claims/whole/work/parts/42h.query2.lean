-- ===== query =====
section QUERY
variable {S : VV × VV × VV × VV × VV × Int32} {T : VV} {V : Nat × Int32 × Int32 × (Nat → VV)} {N k : Nat}
theorem q_gix (G : GIx S T V N) {K' T' : VV} (k0 : K' 0 0 = 0) (t6 : T' 0 6 = 0) (k2 : K' 0 2 = T' 0 13) (fr : ∀ j, j ≠ 0 → j ≠ 9 → j ≠ 10 → T' j = T j) (fc : ∀ c, c = 0 ∨ c = 2 ∨ c = 3 ∨ c = 5 → T' 0 c = T 0 c) : GIx (S.1, S.2.1, S.2.2.1, K', S.2.2.2.2) T' V N := by
  obtain ⟨A, hA, J⟩ := G.nw
  exact GIx.ofs (nw := ⟨A, hA, J.frame (fc 3 (by simp)) (fr 1 (by decide) (by decide) (by decide))⟩) (ti := ⟨0, by decide, k0, t6, fun i hi => absurd hi (Nat.not_lt_zero i), k2⟩) (xi := G.xi.frame (fc 5 (by simp)) (fr 7 (by decide) (by decide) (by decide))) (si := G.si.frame (fc 2 (by simp)) (fr 4 (by decide) (by decide) (by decide))) (hi := G.hi.frame (fc 0 (by simp)) (fr 5 (by decide) (by decide) (by decide)))
/-- what stays of the reference while a query is read, held and ended -/
def KPT (T T' : VV) : Prop := (∀ j, j ≠ 0 → j ≠ 9 → j ≠ 10 → T' j = T j) ∧ (∀ c, c = 0 ∨ c = 2 ∨ c = 3 ∨ c = 5 → T' 0 c = T 0 c) ∧ T' 0 1 = 0
def fin6 (U : VV) (v : Int32) : VV := va_up U 0 (upd (upd (U 0) 6 0) 13 v)
theorem fin_err {U : VV} (h : ¬ U 0 11 = 0) : M_X10_finish_ k U = some (U 0 11, fin6 U (U 0 12)) := by
  show (if U 0 11 = 0 then _ else some (U 0 11, va_up (va_up U 0 (upd (U 0) 6 0)) 0 (upd (upd (U 0) 6 0) 13 (U 0 12)))) = _
  rw [if_neg h, va_up_up]
  rfl
theorem fin_ok {U : VV} (h : U 0 11 = 0) : M_X10_finish_ k U = some (0, fin6 U (-1)) := by
  show (if U 0 11 = 0 then some (U 0 11, va_up (va_up U 0 (upd (U 0) 6 0)) 0 (upd (upd (U 0) 6 0) 13 (-1))) else _) = _
  rw [if_pos h, va_up_up, h]
  rfl
theorem kpt_fin {U : VV} (h : KPT T U) (v : Int32) : KPT T (fin6 U v) := by
  obtain ⟨h1, h2, h3⟩ := h
  refine ⟨fun j h0 h9 h10 => (vaN _ _ h0).trans (h1 j h0 h9 h10), fun c hc => ?_, ?_⟩
  · show upd (upd (U 0) 6 0) 13 v c = T 0 c
    rw [upd_ne _ _ (by omega), upd_ne _ _ (by omega)]
    exact h2 c hc
  · show upd (upd (U 0) 6 0) 13 v 1 = 0
    rw [upd_ne _ _ (by decide), upd_ne _ _ (by decide)]
    exact h3
theorem kpt_q {U U' : VV} (h : KPT T U) (f : FRQ U U') : KPT T U' := by
  obtain ⟨h1, h2, h3⟩ := h
  refine ⟨fun j h0 h9 h10 => (f.1 j h0 h9).trans (h1 j h0 h9 h10), fun c hc => (f.2 c (by omega) (by omega) (by omega) (by omega) (by omega) (by omega) (by omega)).trans (h2 c hc), (f.2 1 (by decide) (by decide) (by decide) (by decide) (by decide) (by decide) (by decide)).trans h3⟩
theorem kpt_10 {U U' : VV} (h : KPT T U) (f : ∀ j, j ≠ 10 → U' j = U j) : KPT T U' := by
  obtain ⟨h1, h2, h3⟩ := h
  refine ⟨fun j h0 h9 h10 => (f j h10).trans (h1 j h0 h9 h10), fun c hc => by rw [f 0 (by decide)]; exact h2 c hc, by rw [f 0 (by decide)]; exact h3⟩
/-- the class behind the test -/
def endC (k : Nat) (S : VV × VV × VV × VV × VV × Int32) (x2 : Int32) (q3 : Int64 × VV) : Option (Int32 × Int32 × (VV × VV × VV × VV × VV × Int32)) := (M_X7_takeEnd k q3.2).bind fun q5 => (M_X7_isGood k q5).bind fun q7 => if q7 = 0 then (some ((0 : Int32), ((-1000000000 : Int32) - (q5 0 1)), (S.1, S.2.1, S.2.2.1, q5, S.2.2.2.2))) else (if x2 = 0 then (if (lg_cmp q3.1 (0 : Int64)) = 0 then (some ((0 : Int32), (-1 : Int32), (S.1, S.2.1, S.2.2.1, q5, S.2.2.2.2))) else ((M_J13_numberOfTrailingZeros_95d88 k q3.1).bind fun q11 => some ((0 : Int32), q11, (S.1, S.2.1, S.2.2.1, q5, S.2.2.2.2)))) else ((M_J13_bitCount_95d88 k q3.1).bind fun q12 => some ((0 : Int32), q12, (S.1, S.2.1, S.2.2.1, q5, S.2.2.2.2))))
theorem c69 (k : Nat) (x2 : Int32) (y1 : Nat) (S : VV × VV × VV × VV × VV × Int32) (K : VV) : M_X9_query_69 k x2 y1 (S.1, S.2.1, S.2.2.1, K, S.2.2.2.2) = ((M_X7_take k K y1).bind fun q1 => (M_X4_testT k q1 S.1 0).bind fun q3 => endC k S x2 q3) := rfl
def endR (k : Nat) (x2 : Int32) (q12 : VV) : Option (Int32 × VV) := if (q12 0 11) = 0 then (if (q12 0 10) = 0 then (M_X10_query_99 k x2 (1 : Int32) q12) else (M_X10_query_99 k x2 (0 : Int32) q12)) else (M_X10_query_99 k x2 (1 : Int32) q12)
theorem r67 (k : Nat) (x2 y1 : Int32) (U : VV) : M_X10_query_67 k x2 y1 U = ((M_X10_check k U y1 1).bind fun q10 => (M_X10_advance k q10).bind fun q11 => (M_X10_compileTestT k q11).bind fun q12 => endR k x2 q12) := rfl
theorem r99 (k : Nat) (x2 y1 : Int32) (U : VV) : M_X10_query_99 k x2 y1 U = ((M_X10_check k U y1 1).bind fun q7 => (M_X10_finish_ k q7).bind fun q8 => if q8.1 = 0 then (M_X10_query_124 k k x2 0 0 q8.2) else (some (((-1000000000 : Int32) - (q8.2 0 11)), q8.2))) := rfl
/-- an error ends it -/
theorem end_err (G : GIx S T V N) {K' U' : VV} {c : Int32} (er : ER K' U' c) (kp : KPT T U') (x2 x2' : Int32) (held : Int64) : VSV f2 [0, 2] (endC k S x2 (held, K')) (endR k x2' U') V N := by
  have hc : ¬ c = 0 := er.2.1
  have e1 : endC k S x2 (held, K') = some (0, -1000000000 - c, (S.1, S.2.1, S.2.2.1, K', S.2.2.2.2)) := by
    show ((M_X7_takeEnd k K').bind _) = _
    rw [e_end er, Option.bind_some]
    show ((M_X7_isGood k K').bind _) = _
    rw [c_bad er.kn, Option.bind_some, if_pos rfl, er.2.2.1]
  have e2 : endR k x2' U' = some (-1000000000 - c, fin6 U' (U' 0 12)) := by
    have h11 : fin6 U' (U' 0 12) 0 11 = c := er.2.2.2.1
    unfold endR
    rw [if_neg er.un, r99, chk1, Option.bind_some, fin_err er.un, Option.bind_some, er.2.2.2.1, if_neg hc]
    show some ((-1000000000 : Int32) - fin6 U' (U' 0 12) 0 11, fin6 U' (U' 0 12)) = _
    rw [h11]
  obtain ⟨p1, p2, p3⟩ := kpt_fin kp (U' 0 12)
  exact ⟨0, _, _, _, _, e1, e2, q_gix G er.1 rfl er.2.2.2.2.1 p1 p2, p3, by simp, fun _ => rfl⟩
/-- the end of a query without an error -/
theorem end_ok (G : GIx S T V N) (hN : N < 2 ^ 31) (hk : 20000 ≤ k) {A : AF} {fg mk : Nat → Nat} {ks ks' : KL} {tk : Nat} {tkt : Nat → Nat} (R : RelC S.1 A fg ks) (M : RelM T 1 A mk ks' tk tkt) (I : RST A fg mk ks ks' tk tkt) (htk : tk ≤ N) {K' U' : VV} {b : Nat → Int32} {L s e κ : Nat} {f : Nat → Bool} {l : List Int32} (g : GD K' U' b L s e κ) (cd : CDS U' l) (hl : l.length ≤ 200) (hf : EVL A f l) (kp : KPT T U') {x2 x2' : Int32} (hx : (x2 = 1 ∧ x2' = 0) ∨ (x2 = 0 ∧ x2' = 1)) : VSV f2 [0, 2] (endC k S x2 (lI (msk f A.n), K')) (endR k x2' U') V N := by
  have h := I.li
  have hn := h.n60
  have hk3 := g.1.k3
  have ec : endC k S x2 (lI (msk f A.n), K') = ((M_X7_takeEnd k K').bind fun q5 => (M_X7_isGood k q5).bind fun q7 => if q7 = 0 then (some ((0 : Int32), ((-1000000000 : Int32) - (q5 0 1)), (S.1, S.2.1, S.2.2.1, q5, S.2.2.2.2))) else (if x2 = 0 then (if (lg_cmp (lI (msk f A.n)) (0 : Int64)) = 0 then (some ((0 : Int32), (-1 : Int32), (S.1, S.2.1, S.2.2.1, q5, S.2.2.2.2))) else ((M_J13_numberOfTrailingZeros_95d88 k (lI (msk f A.n))).bind fun q11 => some ((0 : Int32), q11, (S.1, S.2.1, S.2.2.1, q5, S.2.2.2.2)))) else ((M_J13_bitCount_95d88 k (lI (msk f A.n))).bind fun q12 => some ((0 : Int32), q12, (S.1, S.2.1, S.2.2.1, q5, S.2.2.2.2))))) := rfl
  by_cases h0 : κ = 0
  rotate_left
  · -- a token too many
    have t0 : ¬ nI κ = 0 := fun q => h0 ((nI_eq (by omega) (by decide)).mp (show nI κ = nI 0 from q))
    obtain ⟨K2, U2, a1, a2, er, fr⟩ := t_fail (k := k) g (c := 1) (by decide)
    have e1 : M_X7_takeEnd k K' = some K2 := by
      simp only [M_X7_takeEnd, M_X7_takeEnd_0]
      rw [g.2.1.k6, if_neg t0, a1, Option.bind_some]
    have hc : M_X10_check k U' 0 1 = some U2 := by rw [chk0, a2]
    have kp2 := kpt_q kp fr.q
    have h11 : fin6 U2 (U2 0 12) 0 11 = 1 := er.2.2.2.1
    have e2 : endR k x2' U' = some (-1000000000 - 1, fin6 U2 (U2 0 12)) := by
      unfold endR
      rw [if_pos g.2.2.2, g.2.2.1.uk, if_neg t0, r99, hc, Option.bind_some, fin_err er.un, Option.bind_some, er.2.2.2.1, if_neg (show ¬ (1 : Int32) = 0 by decide)]
      show some ((-1000000000 : Int32) - fin6 U2 (U2 0 12) 0 11, fin6 U2 (U2 0 12)) = _
      rw [h11]
    obtain ⟨p1, p2, p3⟩ := kpt_fin kp2 (U2 0 12)
    refine ⟨0, -1000000000 - 1, _, (S.1, S.2.1, S.2.2.1, K2, S.2.2.2.2), _, ?_, e2, q_gix G er.1 rfl er.2.2.2.2.1 p1 p2, p3, by simp, fun _ => rfl⟩
    rw [ec, e1, Option.bind_some, c_bad er.kn, Option.bind_some, if_pos rfl, er.2.2.1]
  -- all is held
  have t0 : nI κ = 0 := by rw [h0]; rfl
  have e1 : M_X7_takeEnd k K' = some K' := by
    simp only [M_X7_takeEnd, M_X7_takeEnd_0]
    rw [g.2.1.k6, if_pos t0]
  have kp1 := kpt_fin kp (-1)
  have M1 : RelM (fin6 U' (-1)) 1 A mk ks' tk tkt := M.mv1 (kp1.2.1 3 (by simp)) (kp1.1 1 (by decide) (by decide) (by decide))
  have cd1 : CDS (fin6 U' (-1)) l := ⟨cd.1, cd.2⟩
  have mv : ∀ U2, (∀ j, j ≠ 10 → U2 j = fin6 U' (-1) j) → RelM U2 1 A mk ks' tk tkt := fun U2 ag => M1.mv1 (by rw [ag 0 (by decide)]) (ag 1 (by decide))
  have hr : ∀ U2, (∀ j, j ≠ 10 → U2 j = fin6 U' (-1) j) → M_X10_requests k U2 = some (nI A.n) := fun U2 ag => (mv U2 ag).requests k
  have hh : ∀ i, i < A.n → ∀ U2, (∀ j, j ≠ 10 → U2 j = fin6 U' (-1) j) → ∃ U3, M_X10_holdsFor k U2 (nI i) = some (b1 (f i), U3) ∧ ∀ j, j ≠ 10 → U3 j = fin6 U' (-1) j := fun i hi U2 ag => by
    have cd2 : CDS U2 l := ⟨by rw [ag 0 (by decide)]; exact cd1.1, fun i hi => by rw [ag 9 (by decide)]; exact cd1.2 i hi⟩
    obtain ⟨U3, e3, a3⟩ := r_holds (k := k) (r := i) (p := PO A i) (f := f i) hk cd2 hl (fun U4 a4 x v hv => r_prop (mv U4 (fun j hj => (a4 j hj).trans (ag j hj))) h I.sr I.tt (by omega) hk hi hv) (hf i hi [])
    exact ⟨U3, e3, fun j hj => (a3 j hj).trans (ag j hj)⟩
  have e2 : endR k x2' U' = M_X10_query_124 k k x2' 0 0 (fin6 U' (-1)) := by
    unfold endR
    rw [if_pos g.2.2.2, g.2.2.1.uk, if_pos t0, r99, chk1, Option.bind_some, fin_ok g.2.2.2, Option.bind_some, if_pos rfl]
  have e3 : endC k S x2 (lI (msk f A.n), K') = (if x2 = 0 then (if (lg_cmp (lI (msk f A.n)) (0 : Int64)) = 0 then (some ((0 : Int32), (-1 : Int32), (S.1, S.2.1, S.2.2.1, K', S.2.2.2.2))) else ((M_J13_numberOfTrailingZeros_95d88 k (lI (msk f A.n))).bind fun q11 => some ((0 : Int32), q11, (S.1, S.2.1, S.2.2.1, K', S.2.2.2.2)))) else ((M_J13_bitCount_95d88 k (lI (msk f A.n))).bind fun q12 => some ((0 : Int32), q12, (S.1, S.2.1, S.2.2.1, K', S.2.2.2.2)))) := by
    rw [ec, e1, Option.bind_some, c_good g.2.1.k1, Option.bind_some, if_neg (show ¬ (1 : Int32) = 0 by decide)]
  have done : ∀ (v : Int32) (U2 : VV), endC k S x2 (lI (msk f A.n), K') = some (0, v, (S.1, S.2.1, S.2.2.1, K', S.2.2.2.2)) → endR k x2' U' = some (v, U2) → (∀ j, j ≠ 10 → U2 j = fin6 U' (-1) j) → VSV f2 [0, 2] (endC k S x2 (lI (msk f A.n), K')) (endR k x2' U') V N := fun v U2 r1 r2 ag => by
    obtain ⟨p1, p2, p3⟩ := kpt_10 kp1 ag
    refine ⟨0, v, v, _, U2, r1, r2, q_gix G g.2.1.k0 ?_ ?_ p1 p2, p3, by simp, fun _ => rfl⟩
    · rw [ag 0 (by decide)]
      rfl
    · rw [g.2.1.k2, ag 0 (by decide)]
      rfl
  rcases hx with ⟨rfl, rfl⟩ | ⟨rfl, rfl⟩
  · obtain ⟨U2, r2, ag⟩ := r_many hn hr hh A.n 0 (fin6 U' (-1)) (Nat.zero_add _) (fun _ _ => rfl) k (by omega)
    rw [show pcn (msk f A.n) 0 = 0 from rfl, nI_0] at r2
    refine done _ U2 ?_ (e2.trans r2) ag
    rw [e3, if_neg (show ¬ (1 : Int32) = 0 by decide), c_many k hn, Option.bind_some]
  · obtain ⟨U2, v, r2, ag, hv⟩ := r_first hn hr hh A.n 0 (fin6 U' (-1)) (Nat.zero_add _) (fun _ _ => rfl) (fun j hj => absurd hj (Nat.not_lt_zero j)) k (by omega)
    rw [nI_0] at r2
    refine done v U2 ?_ (e2.trans r2) ag
    rw [e3, if_pos rfl]
    rcases hv with ⟨t, ht, ft, hlt, rfl⟩ | ⟨hno, rfl⟩
    · obtain ⟨c1, c2⟩ := c_first k hn ht ft hlt
      rw [if_neg (fun q => c1 ((lg_cmp_eq _ _).mp q)), c2, Option.bind_some]
    · rw [if_pos ((lg_cmp_eq _ _).mpr (c_first0 hno))]
theorem s_query (G : GIx S T V N) (hN : N < 2 ^ 31) (hk : 20000 ≤ k) (p : Int32) : VSV f2 [0, 2] (M_X9_query k S p) (M_X10_query k T p) V N := by
  obtain ⟨n, b1, b2, b3, b4, b5⟩ := G.ti
  obtain ⟨A, hA, J⟩ := G.nw
  have J' := J
  obtain ⟨fg, mk, ks, ks', tk, tkt, R, M, I, htk⟩ := J'
  have hn := I.li.n60
  have e6 : va_up T 0 (upd (T 0) 1 0) 0 6 = nI n := b3
  have eR : M_X10_query k T p = ((M_X10_inRange k p 0 (if (200 : Int32) < va_up T 0 (upd (T 0) 1 0) 0 6 then 200 else va_up T 0 (upd (T 0) 1 0) 0 6)).bind fun q16 => if q16 = 0 then ((M_X10_raise k (th T 0) 1).bind fun q24 => some (q24.1, q24.2)) else ((M_X10_startText k (va_up (th T 0) 0 (upd (th T 0 0) 15 0)) p).bind fun q19 => (M_X10_isWord k q19 74).bind fun q20 => if q20 = 0 then ((M_X10_isWord k q19 75).bind fun q22 => if q22 = 0 then (M_X10_query_67 k q20 0 q19) else (M_X10_query_67 k q20 1 q19)) else (M_X10_query_67 k q20 1 q19))) := rfl
  have eC : M_X9_query k S p = if p < 0 then some (2, 0, S) else (if (200 : Int32) < p then some (2, 0, S) else (if p ≤ S.2.2.2.1 0 0 then ((M_X7_begin k S.2.2.2.1 p).bind fun q16 => (M_X7_is k q16 35).bind fun q18 => if q18 = 0 then (M_X9_query_69 k q18 36 (S.1, S.2.1, S.2.2.1, q16, S.2.2.2.2)) else (M_X9_query_69 k q18 35 (S.1, S.2.1, S.2.2.1, q16, S.2.2.2.2))) else some (2, 0, S))) := rfl
  rw [eR, eC, e6, b2]
  rcases rng_min k b1 p with ⟨L, hL, hLn, rfl, e1⟩ | ⟨hp, e1⟩
  rotate_left
  · rw [e1, Option.bind_some, if_pos rfl]
    have no : VSV f2 [0, 2] (some ((2 : Int32), (0 : Int32), S)) (some ((0 : Int32), va_up (th T 0) 0 (upd (th T 0 0) 1 1))) V N := VSV.no G ((tf_th T 0).trans (tf_th _ 1)) rfl (by simp) (by decide)
    have er : ((M_X10_raise k (th T 0) 1).bind fun q24 => some (q24.1, q24.2)) = some ((0 : Int32), va_up (th T 0) 0 (upd (th T 0 0) 1 1)) := rfl
    rw [er]
    rcases hp with h | ⟨h0, h | ⟨h1, h⟩⟩
    · rw [if_pos h]; exact no
    · rw [if_neg h0, if_pos h]; exact no
    · rw [if_neg h0, if_neg h1, if_neg h]; exact no
  have g200 : ¬ (200 : Int32) < nI L := nI_nlt (a := 200) hL (by decide)
  rw [e1, Option.bind_some, if_neg (show ¬ (1 : Int32) = 0 by decide), if_neg (nI_pos (by omega)), if_neg g200, if_pos (nI_le hLn (by omega))]
  obtain ⟨s, e, κ, t⟩ := tok_next (S.2.2.2.1 1) (L := L) (e0 := 0) (by omega) (Nat.zero_le _)
  obtain ⟨K1, k1, kc⟩ := c_start (k := k) (K := S.2.2.2.1) hk (fun i _ => rfl) t
  obtain ⟨U1, u1, uc, u11, u14, uj, u0⟩ := r_startQ (k := k) (X := va_up (th T 0) 0 (upd (th T 0 0) 15 0)) hk (fun i hi => (b4 i (by omega)).symm) t
  have g : GD K1 U1 (S.2.2.2.1 1) L s e κ := ⟨t.tk, kc, uc, u11⟩
  have kp1 : KPT T U1 := by
    have z : ∀ c, c ≠ 1 → c ≠ 15 → c ≠ 7 → c ≠ 8 → c ≠ 9 → c ≠ 10 → c ≠ 11 → c ≠ 14 → U1 0 c = T 0 c := fun c h1 h15 h7 h8 h9 h10 h11 h14 => by
      rw [u0 c h7 h8 h9 h10 h11 h14]
      show upd (upd (T 0) 1 0) 15 0 c = T 0 c
      rw [upd_ne _ _ h15, upd_ne _ _ h1]
    refine ⟨fun j h0 _ _ => ?_, fun c hc => z c (by omega) (by omega) (by omega) (by omega) (by omega) (by omega) (by omega) (by omega), ?_⟩
    · rw [uj j h0, vaN _ _ h0]
      exact vaN _ _ h0
    · rw [u0 1 (by decide) (by decide) (by decide) (by decide) (by decide) (by decide)]
      rfl
  have cd1 : CDS U1 [] := ⟨(u0 15 (by decide) (by decide) (by decide) (by decide) (by decide) (by decide)).trans rfl, fun i hi => absurd hi (Nat.not_lt_zero i)⟩
  rw [k1, Option.bind_some, u1, Option.bind_some]
  -- behind 'many' or 'first'
  have go : ∀ (w : Nat) (x2 x2' : Int32), κ ≠ 0 → M_X7_is k K1 w = some 1 → ((x2 = 1 ∧ x2' = 0) ∨ (x2 = 0 ∧ x2' = 1)) → VSV f2 [0, 2] (M_X9_query_69 k x2 w (S.1, S.2.1, S.2.2.1, K1, S.2.2.2.2)) (M_X10_query_67 k x2' 1 U1) V N := fun w x2 x2' hκ hw hx => by
    obtain ⟨K2, U2, t1, -, -, t4, fr, s2, e2, κ2, hs2, g2⟩ := t_go hk g hκ hw
    rw [c69, t1, Option.bind_some, r67, chk1, Option.bind_some, t4, Option.bind_some]
    have kp2 := kpt_q kp1 fr.q
    rcases s_top (F := S.1) R I.li hk hL K2 U2 s2 e2 κ2 [] g2 (cd1.fru fr) (Nat.zero_le _) (fr.n.trans u14) with ⟨K3, U3, c, y, q1, q2, er, f3⟩ | ⟨K3, U3, s3, e3, κ3, f', l', q1, q2, g3, cd3, hl3, -, f3, hf⟩
    · have q1 : M_X4_testT k K2 S.1 0 = some (y, K3) := q1
      have q2 : M_X10_compileTestT k U2 = some U3 := q2
      rw [q1, Option.bind_some, q2, Option.bind_some]
      exact end_err G er (kpt_q kp2 f3) _ _ _
    · have q1 : M_X4_testT k K2 S.1 0 = some (lI (msk f' A.n), K3) := q1
      have q2 : M_X10_compileTestT k U2 = some U3 := q2
      have he3 := g3.1.el
      have hse3 := g3.1.se
      rw [q1, Option.bind_some, q2, Option.bind_some]
      exact end_ok G hN hk R M I htk g3 cd3 (by show l'.length ≤ 200; omega) hf (kpt_q kp2 f3) hx
  rcases t_isE hk g wd_many with ⟨m1, c1, r1⟩ | ⟨m1, c1, r1⟩
  · have r2 : M_X10_isWord k U1 74 = some 0 := by
      rcases t_isE hk g wd_first with ⟨m2, -, -⟩ | ⟨-, -, h⟩
      · have l1 : (txB 35).length = 4 := by decide +kernel
        have l2 : (txB 36).length = 5 := by decide +kernel
        have a1 := m1.2.1
        have a2 := m2.2.1
        omega
      · exact h
    rw [c1, Option.bind_some, if_neg (show ¬ (1 : Int32) = 0 by decide), r2, Option.bind_some, if_pos rfl, r1, Option.bind_some, if_neg (show ¬ (1 : Int32) = 0 by decide)]
    exact go 35 1 0 (by omega) c1 (Or.inl ⟨rfl, rfl⟩)
  rw [c1, Option.bind_some, if_pos rfl]
  rcases t_isE hk g wd_first with ⟨m2, c2, r2⟩ | ⟨m2, c2, r2⟩
  · rw [r2, Option.bind_some, if_neg (show ¬ (1 : Int32) = 0 by decide)]
    exact go 36 0 1 (by omega) c2 (Or.inr ⟨rfl, rfl⟩)
  · obtain ⟨K2, U2, a1, a2, er, fr⟩ := t_fail (k := k) g (c := 1) (by decide)
    obtain ⟨w1, w2⟩ := e_testT er hk S.1
    have hc : M_X10_check k U1 0 1 = some U2 := by rw [chk0, a2]
    have ht : M_X7_take k K1 36 = some K2 := by
      simp only [M_X7_take, M_X7_take_0]
      rw [c2, Option.bind_some, if_pos rfl, a1, Option.bind_some]
    rw [r2, Option.bind_some, if_pos rfl, r1, Option.bind_some, if_pos rfl, c69, ht, Option.bind_some, w1, Option.bind_some, r67, hc, Option.bind_some, e_adv er, Option.bind_some, w2, Option.bind_some]
    exact end_err G er (kpt_q kp1 fr.q) _ _ _
end QUERY
