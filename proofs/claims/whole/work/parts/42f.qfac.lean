-- ===== factors =====
def nst (U : VV) (v : Int32) : VV := va_up U 0 (upd (U 0) 14 v)
theorem nst_j (U : VV) (v : Int32) {j : Nat} (h : j ≠ 0) : nst U v j = U j := vaN _ _ h
theorem nst_0 (U : VV) (v : Int32) {c : Nat} (h : c ≠ 14) : nst U v 0 c = U 0 c := upd_ne (U 0) _ h
theorem nst_fr (U : VV) (v : Int32) : FRQ U (nst U v) := ⟨fun _ h0 _ => nst_j U v h0, fun _ _ _ _ _ _ h14 _ => nst_0 U v h14⟩
theorem GD.nst {K U : VV} {b : Nat → Int32} {L s e κ : Nat} (g : GD K U b L s e κ) (v : Int32) : GD K (nst U v) b L s e κ := g.cg (nst_j U v (by decide)) (fun _ h14 _ => nst_0 U v h14)
theorem ER.nst {K U : VV} {c : Int32} (h : ER K U c) (v : Int32) : ER K (nst U v) c := h.cg (fun _ h14 _ => nst_0 U v h14)
theorem CDS.nst {U : VV} {l : List Int32} (h : CDS U l) (v : Int32) : CDS (nst U v) l := ⟨h.1, h.2⟩
theorem r_enter {k o : Nat} {U : VV} (h14 : U 0 14 = nI o) (ho : o < 6) : M_X10_enter k U = M_X10_advance k (nst U (nI (o + 1))) := by
  have h0 : ¬ (6 : Int32) ≤ nI o := nI_ge (b := 6) ho (by decide)
  simp only [M_X10_enter, M_X10_enter_0, M_X10_enter_15, lt_eq]
  rw [h14, if_neg h0, chk1, Option.bind_some, h14, nI_1]
  exact bindS _
theorem r_enter6 {k o : Nat} {K' U U' : VV} (h14 : U 0 14 = nI o) (ho : 6 ≤ o) (h31 : o < 2 ^ 31) (hf : M_X10_flaw k U 3 = some U') (er : ER K' U' 3) : M_X10_enter k U = some (nst U' (U' 0 14 + 1)) := by
  have h0 : (6 : Int32) ≤ nI o := nI_le (a := 6) ho h31
  have hc : M_X10_check k U 0 3 = some U' := by rw [chk0, hf]
  simp only [M_X10_enter, M_X10_enter_0, M_X10_enter_15, lt_eq]
  rw [h14, if_pos h0, hc, Option.bind_some]
  show ((M_X10_advance k (nst U' (U' 0 14 + 1))).bind _) = _
  rw [e_adv (er.nst _), Option.bind_some]
theorem f68 (k : Nat) (φ : VV → Option VV) (S : VV) : M_X10_compileFactor_68 k φ S = ((M_X10_expect k S 41).bind fun q8 => some (nst q8 (q8 0 14 - 1))) := rfl
theorem f25 (k : Nat) (φ : VV → Option VV) (S : VV) : M_X10_compileFactor_25 k φ S = ((M_X10_emit k S (-23)).bind fun q10 => some (nst q10 (q10 0 14 - 1))) := rfl
theorem cf_eq (k : Nat) (φ : VV → Option VV) (S : VV) : M_X10_compileFactor k φ S = ((M_X10_isWord k S 76).bind fun q12 => if q12 = 0 then ((M_X10_isSymbol k S 40).bind fun q14 => if q14 = 0 then cmpR k φ S else ((M_X10_enter k S).bind fun q21 => if (q21 0 11) = 0 then ((M_X10_compileTest k φ q21).bind fun q23 => M_X10_compileFactor_68 k φ q23) else (M_X10_compileFactor_68 k φ q21))) else ((M_X10_enter k S).bind fun q24 => if (q24 0 11) = 0 then ((φ q24).bind fun q26 => M_X10_compileFactor_25 k φ q26) else (M_X10_compileFactor_25 k φ q24))) := rfl
theorem c26 (k : Nat) (φ : VV → VV → Int32 → Option (Int64 × VV)) (T : VV) (x2 x3 : Int32) (S : VV) : M_X4_factor_26 k φ T x2 x3 S = if x2 < (6 : Int32) then ((M_X7_advance k S).bind fun q2 => if x3 = 0 then ((M_X4_test k φ q2 T (x2 + 1)).bind fun q4 => (M_X7_take k q4.2 51).bind fun q5 => some (q4.1, q5)) else ((M_X4_allRequests k T).bind fun q6 => (φ q2 T (x2 + 1)).bind fun q7 => some ((q6 &&& (q7.1 ^^^ (-1 : Int64))), q7.2))) else ((M_X7_fail k S 3).bind fun q8 => some (0, q8)) := rfl
section QFAC
variable {F : VV} {A : AF} {fg : Nat → Nat} {ks : KL} {b : Nat → Int32} {L k o : Nat} {φ : VV → VV → Int32 → Option (Int64 × VV)} {ψ : VV → Option VV}
theorem n_back {U : VV} {o : Nat} (h : U 0 14 = nI (o + 1)) : nst U (U 0 14 - 1) 0 14 = nI o := by
  show upd (U 0) 14 (U 0 14 - 1) 14 = nI o
  rw [upd_self, h, nI_pred]
theorem s_factor (R : RelC F A fg ks) (h : LI A) (hk : 20000 ≤ k) (hL : L ≤ 200) (ho : o ≤ 6) (hΦ : o < 6 → PSP A b L (o + 1) (fun S => φ S F (nI (o + 1))) ψ) : PSP A b L o (fun S => M_X4_factor k φ S F (nI o)) (fun S => M_X10_compileFactor k ψ S) := fun K U s e κ l g cd hl h14 => by
  show QR A b L s o l U (M_X4_factor k φ K F (nI o)) (M_X10_compileFactor k ψ U)
  have he := g.1.el
  have hse := g.1.se
  have hn := h.n60
  -- the seventh
  have deep : ¬ o < 6 → ∀ x3, ∃ K' U', M_X4_factor_26 k φ F (nI o) x3 K = some (0, K') ∧ M_X10_enter k U = some (nst U' (U' 0 14 + 1)) ∧ ER K' U' 3 ∧ FRQ U U' := fun h6 x3 => by
    obtain ⟨K', U', a1, a2, er, f⟩ := t_fail (k := k) g (c := 3) (by decide)
    have hlt : ¬ nI o < (6 : Int32) := nI_nlt (b := 6) (by omega) (by omega)
    refine ⟨K', U', ?_, r_enter6 h14 (by omega) (by omega) a2 er, er, f.q⟩
    rw [c26, if_neg hlt, a1, Option.bind_some]
  -- one more
  have more1 : o < 6 → κ ≠ 0 → ∃ K2 U2 s2 e2 κ2, M_X7_advance k K = some K2 ∧ M_X10_enter k U = some U2 ∧ s < s2 ∧ GD K2 U2 b L s2 e2 κ2 ∧ CDS U2 l ∧ U2 0 14 = nI (o + 1) ∧ FRQ U U2 := fun h6 hκ => by
    obtain ⟨K2, U2, s2, e2, κ2, a1, -, a3, hs, g2, f⟩ := t_ad hk (g.nst (nI (o + 1))) hκ
    exact ⟨K2, U2, s2, e2, κ2, a1, (r_enter h14 h6).trans a3, hs, g2, (cd.nst _).fru f, f.n, (nst_fr U _).trans f.q⟩
  have eF : M_X4_factor k φ K F (nI o) = ((M_X7_is k K 37).bind fun q9 => if q9 = 0 then ((M_X7_is k K 38).bind fun q11 => if q11 = 0 then ((M_X4_comparison k K F).bind fun q13 => some (q13.1, q13.2)) else (M_X4_factor_26 k φ F (nI o) q9 K)) else (M_X4_factor_26 k φ F (nI o) q9 K)) := rfl
  rw [eF, cf_eq]
  rcases t_isE hk g wd_not with ⟨m, c1, r1⟩ | ⟨m, c1, r1⟩
  · rw [c1, Option.bind_some, if_neg (show ¬ (1 : Int32) = 0 by decide), r1, Option.bind_some, if_neg (show ¬ (1 : Int32) = 0 by decide)]
    by_cases h6 : o < 6
    · obtain ⟨K2, U2, s2, e2, κ2, a1, a2, hs, g2, cd2, h2, f⟩ := more1 h6 (by omega)
      have hlt : nI o < (6 : Int32) := nI_lt (b := 6) h6 (by decide)
      have ih : QR A b L s2 (o + 1) l U2 (φ K2 F (nI (o + 1))) (ψ U2) := hΦ h6 K2 U2 s2 e2 κ2 l g2 cd2 (by omega) h2
      rw [c26, if_pos hlt, a1, Option.bind_some, if_neg (show ¬ (1 : Int32) = 0 by decide), all_lI R.s3 hn, Option.bind_some, nI_1, a2, Option.bind_some, if_pos g2.2.2.2]
      rcases ih with ⟨K3, U3, c, y, q1, q2, er, f3⟩ | ⟨K3, U3, s3, e3, κ3, f', l', q1, q2, g3, cd3, hl3, h3, f3, hf⟩
      · left
        rw [q1, Option.bind_some, q2, Option.bind_some, f25, e_emit er.un, Option.bind_some]
        exact ⟨K3, _, c, _, rfl, rfl, er.nst _, (f.trans f3).trans (nst_fr U3 _)⟩
      · right
        have hll : (l ++ l').length = l.length + l'.length := List.length_append
        have he3 := g3.1.el
        have hse3 := g3.1.se
        have em1 := r_emit (k := k) cd3 g3.2.2.2 (by omega) (-23)
        have h14' : em U3 (l ++ l') (-23) 0 14 = nI (o + 1) := (em_0 U3 _ _ (by decide)).trans h3
        have hl4 : (l' ++ [(-23 : Int32)]).length = l'.length + 1 := by rw [List.length_append]; rfl
        have ea : l ++ l' ++ [(-23 : Int32)] = l ++ (l' ++ [-23]) := by simp only [List.append_assoc]
        have cd4 : CDS (nst (em U3 (l ++ l') (-23)) (em U3 (l ++ l') (-23) 0 14 - 1)) (l ++ (l' ++ [-23])) := by
          rw [← ea]
          exact (em_cd cd3 (-23)).nst _
        rw [q1, Option.bind_some, q2, Option.bind_some, f25, em1, Option.bind_some]
        refine ⟨K3, _, s3, e3, κ3, fun i => !f' i, l' ++ [-23], ?_, rfl, (g3.em _ _).nst _, cd4, by omega, n_back h14', ((f.trans f3).trans (em_fr U3 _ _)).trans (nst_fr _ _), hf.not⟩
        show some (lI (2 ^ A.n - 1) &&& (lI (msk f' A.n) ^^^ (-1 : Int64)), K3) = _
        rw [not_lI f' hn]
    · obtain ⟨K', U', a1, a2, er, f⟩ := deep h6 1
      have er2 := er.nst (U' 0 14 + 1)
      left
      rw [a1, a2, Option.bind_some, if_neg er2.un, f25, e_emit er2.un, Option.bind_some]
      exact ⟨K', _, 3, 0, rfl, rfl, er2.nst _, (f.trans (nst_fr U' _)).trans (nst_fr _ _)⟩
  rw [c1, Option.bind_some, if_pos rfl, r1, Option.bind_some, if_pos rfl]
  rcases t_syE hk g sy_par with ⟨m2, c2, r2⟩ | ⟨m2, c2, r2⟩
  · rw [c2, Option.bind_some, if_neg (show ¬ (1 : Int32) = 0 by decide), r2, Option.bind_some, if_neg (show ¬ (1 : Int32) = 0 by decide)]
    by_cases h6 : o < 6
    · obtain ⟨K2, U2, s2, e2, κ2, a1, a2, hs, g2, cd2, h2, f⟩ := more1 h6 (by omega)
      have hlt : nI o < (6 : Int32) := nI_lt (b := 6) h6 (by decide)
      have ih : QR A b L s2 (o + 1) l U2 (M_X4_test k φ K2 F (nI (o + 1))) (M_X10_compileTest k ψ U2) := s_test hk hL (hΦ h6) K2 U2 s2 e2 κ2 l g2 cd2 (by omega) h2
      rw [c26, if_pos hlt, a1, Option.bind_some, if_pos rfl, nI_1, a2, Option.bind_some, if_pos g2.2.2.2]
      rcases ih with ⟨K3, U3, c, y, q1, q2, er, f3⟩ | ⟨K3, U3, s3, e3, κ3, f', l', q1, q2, g3, cd3, hl3, h3, f3, hf⟩
      · left
        rw [q1, Option.bind_some, q2, Option.bind_some, f68, e_exp er, Option.bind_some]
        have ht : M_X7_take k (y, K3).2 51 = some K3 := e_take er 51
        rw [ht, Option.bind_some]
        exact ⟨K3, _, c, _, rfl, rfl, er.nst _, (f.trans f3).trans (nst_fr U3 _)⟩
      · obtain ⟨K4, U4, t1, t2, f4, nx⟩ := t_expect hk g3 sy_close
        have t1' : M_X7_take k (lI (msk f' A.n), K3).2 51 = some K4 := t1
        have h4 : U4 0 14 = nI (o + 1) := f4.n.trans h3
        rw [q1, Option.bind_some, q2, Option.bind_some, f68, t2, Option.bind_some, t1', Option.bind_some]
        rcases nx with ⟨s4, e4, κ4, hs4, g4⟩ | ⟨c, er⟩
        · right
          exact ⟨K4, _, s4, e4, κ4, f', l', rfl, rfl, g4.nst _, (cd3.fru f4).nst _, by omega, n_back h4, ((f.trans f3).trans f4.q).trans (nst_fr _ _), hf⟩
        · left
          exact ⟨K4, _, c, _, rfl, rfl, er.nst _, ((f.trans f3).trans f4.q).trans (nst_fr _ _)⟩
    · obtain ⟨K', U', a1, a2, er, f⟩ := deep h6 0
      have er2 := er.nst (U' 0 14 + 1)
      left
      rw [a1, a2, Option.bind_some, if_neg er2.un, f68, e_exp er2, Option.bind_some]
      exact ⟨K', _, 3, 0, rfl, rfl, er2.nst _, (f.trans (nst_fr U' _)).trans (nst_fr _ _)⟩
  rw [c2, Option.bind_some, if_pos rfl, r2, Option.bind_some, if_pos rfl]
  have eb : ∀ q : Option (Int64 × VV), (q.bind fun q13 => some (q13.1, q13.2)) = q := fun q => by cases q <;> rfl
  rw [eb]
  exact s_cmp R h hk g hL cd hl h14 ψ
theorem s_fac (R : RelC F A fg ks) (h : LI A) (hk : 20000 ≤ k) (hL : L ≤ 200) : ∀ d o, o ≤ 6 → 7 ≤ d + o → PSP A b L o (fun S => fac4 k d S F (nI o)) (fac10 k d)
  | 0, o, h6, hd => by omega
  | d + 1, o, h6, hd => s_factor (φ := fac4 k d) (ψ := fac10 k d) R h hk hL h6 (fun h6' => s_fac R h hk hL d (o + 1) (by omega) (by omega))
theorem s_top (R : RelC F A fg ks) (h : LI A) (hk : 20000 ≤ k) (hL : L ≤ 200) : PSP A b L 0 (fun S => M_X4_testT k S F 0) (fun S => M_X10_compileTestT k S) := s_test (φ := fac4 k 8) (ψ := fac10 k 8) hk hL (s_fac R h hk hL 8 0 (by decide) (by decide))
end QFAC
