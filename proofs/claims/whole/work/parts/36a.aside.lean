-- ===== what would be: draws and ticks aside =====
def VSV (f : Int32 → Int32) (cs : List Int32) (q : Option (Int32 × Int32 × (VV × VV × VV × VV × VV × Int32))) (r : Option (Int32 × VV)) (V : Nat × Int32 × Int32 × (Nat → VV)) (N : Nat) : Prop :=
  ∃ c v v' S' T', q = some (c, v, S') ∧ r = some (v', T') ∧ GIx S' T' V N ∧ T' 0 1 = f c ∧ c ∈ cs ∧ (c = 0 → v = v')
section OPS
variable {S : VV × VV × VV × VV × VV × Int32} {T : VV} {V : Nat × Int32 × Int32 × (Nat → VV)} {N k : Nat}
theorem VSV.no {f : Int32 → Int32} {cs : List Int32} {c x y : Int32} {T' : VV} (G : GIx S T V N) (ht : TF T T') (h1 : T' 0 1 = f c) (hc : c ∈ cs) (h0 : c ≠ 0) : VSV f cs (some (c, x, S)) (some (y, T')) V N := ⟨c, x, y, S, T', rfl, rfl, G.frame ht, h1, hc, fun e => absurd e h0⟩
theorem GIx.dr (G : GIx S T V N) (D : VV) : GIx (S.1, D, S.2.2) T V N := GIx.ofs (nw := G.nw) (ti := G.ti) (xi := G.xi) (si := G.si) (hi := G.hi)
theorem gs_1 {T : VV} (h : GS T 1) : T 0 3 = 1 := by
  have h1 : (T 0 3).toNatClampNeg = 1 := h.sel
  have h2 : (T 0 3).toInt.toNat = 1 := h1
  refine Int32.toInt_inj.mp ?_
  have : (1 : Int32).toInt = 1 := by decide
  omega
theorem gs_3 {T : VV} (h : T 0 3 = 3) : GS T 3 := ⟨by unfold gsel; rw [h]; decide, rfl⟩
theorem aside {F : VV} {A : AF} (J : JR F T 1 A N) (hk : 20000 ≤ k) : ∃ T2, M_X10_goAside k T = some T2 ∧ (∀ F', AgF F' F → JR F' T2 3 A N) ∧ (∀ j, j ≠ 0 → j ≠ 3 → T2 j = T j) ∧ ∀ c, c ≠ 3 → T2 0 c = T 0 c := by
  have hcp : M_X10_copy k 1692 1692 (T 1) (T 3) 0 0 = some (cpRow (T 1) (T 3) 0 0) := m_copy hk (a := 0) (b := 0) (by omega) (by omega) (by decide) (by decide) (T 1) (T 3)
  refine ⟨va_up (va_up T 3 (cpRow (T 1) (T 3) 0 0)) 0 (upd (T 0) 3 3), ?_, fun F' hF => ?_, fun j h0 h3 => ?_, fun c hc => ?_⟩
  · simp only [M_X10_goAside, M_X10_goAside_0, lt_eq]
    rw [hcp, Option.bind_some]
    rfl
  · refine J.cong hF (gs_3 rfl) (fun j hj => ?_)
    show cpRow (T 1) (T 3) 0 0 j = T 1 j
    have := cpRow_in (T 1) (T 3) 0 0 hj
    rw [Nat.mul_zero, Nat.zero_add] at this
    exact this
  · rw [vaN _ _ h0, vaN _ _ h3]
  · exact upd_ne _ _ hc
/-- behind what was tried aside, all is as it was -/
theorem back (G : GIx S T V N) {T0 T2 U : VV} (h0 : T0 = th T 0) (f2 : ∀ j, j ≠ 0 → j ≠ 3 → T2 j = T0 j) (s2 : ∀ c, c ≠ 3 → T2 0 c = T0 0 c) (fU : ∀ j, j ≠ 0 → j ≠ 3 → j ≠ 6 → U j = T2 j) (sU : ∀ c, c ≠ 4 → U 0 c = T2 0 c) : TF T (va_up U 0 (upd (U 0) 3 1)) ∧ va_up U 0 (upd (U 0) 3 1) 0 1 = 0 := by
  subst h0
  obtain ⟨A, hA, J⟩ := G.nw
  have g1 := gs_1 J.gs
  have r : ∀ j, j ≠ 0 → j ≠ 3 → j ≠ 6 → va_up U 0 (upd (U 0) 3 1) j = T j := fun j a b c => by rw [vaN _ _ a, fU j a b c, f2 j a b, show th T 0 j = T j from vaN _ _ a]
  have s : ∀ c, c ≠ 3 → c ≠ 4 → c ≠ 1 → va_up U 0 (upd (U 0) 3 1) 0 c = T 0 c := fun c h3 h4 h1 => by
    show upd (U 0) 3 1 c = T 0 c
    rw [upd_ne _ _ h3, sU c h4, s2 c h3]
    exact upd_ne _ _ h1
  refine ⟨⟨r 1 (by decide) (by decide) (by decide), r 4 (by decide) (by decide) (by decide), r 5 (by decide) (by decide) (by decide), r 7 (by decide) (by decide) (by decide), r 8 (by decide) (by decide) (by decide), s 0 (by decide) (by decide) (by decide), s 2 (by decide) (by decide) (by decide), ?_, s 5 (by decide) (by decide) (by decide), s 6 (by decide) (by decide) (by decide), s 13 (by decide) (by decide) (by decide)⟩, ?_⟩
  · rw [g1]; rfl
  · show upd (U 0) 3 1 1 = 0
    rw [upd_ne _ _ (by decide), sU 1 (by decide), s2 1 (by decide)]
    rfl
theorem s_drawn (G : GIx S T V N) (hk : 20000 ≤ k) (p q : Int32) : VSV id [0, 1, 2] (M_X9_drawn k S p q) (M_X10_drawn k T p q) V N := by
  obtain ⟨A, hA, J⟩ := G.nw
  have J0 : JR S.1 (th T 0) 1 A N := J.frame rfl rfl
  have w := J.aw
  have hm := w.m12
  have bad : ∀ y : Int32, y ≠ 0 → y ∈ ([0, 1, 2] : List Int32) → VSV id [0, 1, 2] (some (y, 0, S)) (M_X10_drawn_22 k p q y T) V N := fun y hy hm => by
    simp only [M_X10_drawn_22, lt_eq]
    have c1 : ¬ va_up T 0 (upd (T 0) 1 y) 0 1 = 0 := hy
    rw [if_neg c1]
    exact VSV.no G (tf_th T y) rfl hm hy
  simp only [M_X9_drawn, M_X9_drawn_0, M_X9_needSeed, M_X9_needSeed_0, M_X10_drawn, M_X10_drawn_0, lt_eq]
  rw [need_t2 J k p, is_t2 J k p]
  rcases rng2 k p (n := A.m) (by omega) with ⟨t, ht, rfl, e1, e2⟩ | ⟨e1, e2⟩
  · rw [e1, e2, Option.bind_some, Option.bind_some, if_pos rfl, if_neg (show ¬ (1 : Int32) = 0 by decide)]
    by_cases hq : 0 ≤ q
    · rw [if_pos hq, if_neg (Int32.not_lt.mpr hq), Option.bind_some, if_pos rfl]
      obtain ⟨x, hx, rfl⟩ := nI_of (Int32.not_lt.mpr hq)
      obtain ⟨D, eD, hD⟩ := co_copy k S.2.1 S.1
      obtain ⟨T2, eT, hJ, fT, sT⟩ := aside J0 hk
      obtain ⟨D', U, a1, a2, J2, fr⟩ := jr_draw (hJ D hD) hk hx
      have hb := back (U := U) G rfl fT sT (fun j h0 h3 _ => fr j h3) (fun c _ => by rw [fr 0 (by decide)])
      simp only [M_X10_drawn_22, M_X10_comeBack, M_X10_comeBack_0, lt_eq]
      have c0 : va_up T 0 (upd (T 0) 1 0) 0 1 = 0 := rfl
      rw [eD, Option.bind_some, a1, Option.bind_some, (J2.ten k ht).1, Option.bind_some, c0, if_pos rfl, eT, Option.bind_some, a2, Option.bind_some, (J2.ten k ht).2.2.2.1, Option.bind_some, Option.bind_some]
      exact ⟨0, _, _, (S.1, D', S.2.2), _, rfl, rfl, (G.frame hb.1).dr D', hb.2, by simp, fun _ => rfl⟩
    · rw [if_neg hq, if_pos (Int32.not_le.mp hq), Option.bind_some, if_neg (show ¬ (2 : Int32) = 0 by decide)]
      exact bad 2 (by decide) (by simp)
  · rw [e1, e2, Option.bind_some, Option.bind_some, if_neg (show ¬ (1 : Int32) = 0 by decide), if_pos rfl]
    exact bad 1 (by decide) (by simp)
theorem s_bestSeed (G : GIx S T V N) (hk : 20000 ≤ k) : ∃ v S' T', M_X9_bestSeed k S = some (v, S') ∧ M_X10_bestSeed k T = some (v, T') ∧ GIx S' T' V N := by
  obtain ⟨A, hA, J⟩ := G.nw
  have J0 : JR S.1 (th T 0) 1 A N := J.frame rfl rfl
  obtain ⟨D, eD, hD⟩ := co_copy k S.2.1 S.1
  obtain ⟨T2, eT, hJ, fT, sT⟩ := aside J0 hk
  have key : ∀ m i (D U : VV) (B : AF) (b l : Int32), i + m = 100 → JR D U 3 B N → (∀ j, j ≠ 3 → U j = T2 j) → ∀ fuel, m < fuel → ∃ v D' U', M_X9_bestSeed_18 k fuel b l (nI i) (S.1, D, S.2.2) = some (v, (S.1, D', S.2.2)) ∧ M_X10_bestSeed_16 k fuel b l (nI i) U = some (v, va_up U' 0 (upd (U' 0) 3 1)) ∧ ∀ j, j ≠ 3 → U' j = T2 j := by
    intro m
    induction m with
    | zero =>
      intro i D U B b l hi JB hf fuel hfu
      obtain ⟨f, rfl⟩ : ∃ f, fuel = f + 1 := ⟨fuel - 1, by omega⟩
      have hi : i = 100 := by omega
      subst hi
      refine ⟨b, D, U, ?_, ?_, hf⟩
      · simp only [M_X9_bestSeed_18]
        exact if_pos (Int32.le_refl _)
      · simp only [M_X10_bestSeed_16, M_X10_comeBack, M_X10_comeBack_0, lt_eq]
        exact if_pos (Int32.le_refl _)
    | succ m ih =>
      intro i D U B b l hi JB hf fuel hfu
      obtain ⟨f, rfl⟩ : ∃ f, fuel = f + 1 := ⟨fuel - 1, by omega⟩
      have h0 : ¬ (100 : Int32) ≤ nI i := nI_ge (b := 100) (by omega) (by decide)
      obtain ⟨D1, U1, a1, a2, J1, fr⟩ := jr_draw JB hk (x := i) (by omega)
      simp only [M_X9_bestSeed_18, M_X10_bestSeed_16, lt_eq]
      rw [if_neg h0, if_neg h0, a1, Option.bind_some, a2, Option.bind_some, (J1.grt hk).1, (J1.grt hk).2, Option.bind_some, Option.bind_some, nI_1]
      by_cases hl : l ≤ nI (mxT (shV (B.wS (drT B.W B.Z i B.sh B.m).2)) (B.wS (drT B.W B.Z i B.sh B.m).2).m)
      · rw [if_pos hl, if_pos hl, if_neg (Int32.not_lt.mpr hl)]
        exact ih (i + 1) D1 U1 _ b l (by omega) J1 (fun j hj => (fr j hj).trans (hf j hj)) f (by omega)
      · rw [if_neg hl, if_neg hl, if_pos (Int32.not_le.mp hl)]
        exact ih (i + 1) D1 U1 _ (nI i) _ (by omega) J1 (fun j hj => (fr j hj).trans (hf j hj)) f (by omega)
  obtain ⟨v, D', U', r1, r2, r3⟩ := key 100 0 D T2 A 0 12 (by omega) (hJ D hD) (fun _ _ => rfl) k (by omega)
  have hb := back (U := U') G rfl fT sT (fun j _ h3 _ => r3 j h3) (fun c _ => by rw [r3 0 (by decide)])
  refine ⟨v, (S.1, D', S.2.2), _, ?_, ?_, (G.frame hb.1).dr D'⟩
  · simp only [M_X9_bestSeed, M_X9_bestSeed_0, lt_eq]
    rw [eD, Option.bind_some]
    rw [nI_0] at r1
    exact r1
  · simp only [M_X10_bestSeed, M_X10_bestSeed_0, lt_eq]
    rw [eT, Option.bind_some]
    rw [nI_0] at r2
    exact r2
theorem JR.done {F U : VV} {g : Nat} {A : AF} (J : JR F U g A N) (hk : 20000 ≤ k) : M_X0_done k F = some (nI (doneN A)) ∧ M_X10_inState k U 2 (-1) = some (nI (doneN A)) := by
  obtain ⟨fg, mk, ks, ks', tk, tkt, R, M, I, hN⟩ := J
  have w := I.li.toAW
  refine ⟨by rw [cq_done R w hk, doneN_I], ?_⟩
  rw [rq_inState M w hk, ← doneN_I]
  congr 1
  refine sumI_ext (fun r _ => ?_)
  rw [show ((-1 : Int32) == -1) = true from rfl, Bool.true_or, Bool.and_true]
theorem s_doneBehind (G : GIx S T V N) (hN : N + 500000 < 2 ^ 31) (hk : 20000 ≤ k) (p : Int32) : VSV f2 [0, 2] (M_X9_doneBehind k S p) (M_X10_doneBehind k T p) V N := by
  obtain ⟨A, hA, J⟩ := G.nw
  have J0 : JR S.1 (th T 0) 1 A N := J.frame rfl rfl
  simp only [M_X9_doneBehind, M_X9_doneBehind_0, M_X10_doneBehind, M_X10_doneBehind_0, lt_eq]
  rcases rng3 k p (n := 201) (by decide) with ⟨n, hn, rfl, g1, g2, e2⟩ | ⟨e1, e2⟩
  · have e2 : M_X10_inRange k (nI n) 0 200 = some 1 := e2
    have g3 : nI n ≤ (200 : Int32) := nI_le (b := 200) (by omega) (by decide)
    obtain ⟨D, eD, hD⟩ := co_copy k S.2.1 S.1
    obtain ⟨T2, eT, hJ, fT, sT⟩ := aside J0 hk
    rw [if_neg g1, if_pos g3, e2, Option.bind_some, if_neg (show ¬ (1 : Int32) = 0 by decide), eD, Option.bind_some, eT, Option.bind_some]
    have key : ∀ m i (D U : VV) (B : AF), i + m = n → B.t = A.t + i → JR D U 3 B (N + 2000 * i) → (∀ j, j ≠ 3 → j ≠ 6 → U j = T2 j) → ∀ fuel, m < fuel → ∃ v D' U', M_X9_doneBehind_34 k fuel (nI n) (nI i) (S.1, D, S.2.2) = some (0, v, (S.1, D', S.2.2)) ∧ M_X10_doneBehind_28 k fuel (nI n) (nI i) U = some (v, va_up U' 0 (upd (U' 0) 3 1)) ∧ ∀ j, j ≠ 3 → j ≠ 6 → U' j = T2 j := by
      intro m
      induction m with
      | zero =>
        intro i D U B hi hB JB hf fuel hfu
        obtain ⟨f, rfl⟩ : ∃ f, fuel = f + 1 := ⟨fuel - 1, by omega⟩
        have hi : i = n := by omega
        subst hi
        refine ⟨nI (doneN B), D, U, ?_, ?_, hf⟩
        · simp only [M_X9_doneBehind_34]
          rw [if_pos (nI_le (Nat.le_refl _) (by omega)), (JB.done hk).1, Option.bind_some]
        · simp only [M_X10_doneBehind_28, M_X10_comeBack, M_X10_comeBack_0, lt_eq]
          rw [if_pos (nI_le (Nat.le_refl _) (by omega)), (JB.done hk).2, Option.bind_some, Option.bind_some]
      | succ m ih =>
        intro i D U B hi hB JB hf fuel hfu
        obtain ⟨f, rfl⟩ : ∃ f, fuel = f + 1 := ⟨fuel - 1, by omega⟩
        obtain ⟨D1, U1, B1, t1, t2, JB1, tB, _, fr⟩ := jr_tick JB (by omega) (by omega) hk
        simp only [M_X9_doneBehind_34, M_X10_doneBehind_28, lt_eq]
        rw [if_neg (nI_ge (by omega) (by omega)), if_neg (nI_ge (by omega) (by omega)), t1, Option.bind_some, t2, Option.bind_some, nI_1]
        exact ih (i + 1) D1 U1 B1 (by omega) (by omega) (JB1.mono (by omega)) (fun j h3 h6 => (fr j h3 h6).trans (hf j h3 h6)) f (by omega)
    obtain ⟨v, D', U', r1, r2, r3⟩ := key n 0 D T2 A (by omega) rfl (hJ D hD) (fun _ _ _ => rfl) k (by omega)
    have hb := back (U := U') G rfl fT sT (fun j _ h3 h6 => r3 j h3 h6) (fun c _ => by rw [r3 0 (by decide) (by decide)])
    rw [nI_0] at r1 r2
    exact ⟨0, v, v, (S.1, D', S.2.2), _, r1, r2, (G.frame hb.1).dr D', hb.2, by simp, fun _ => rfl⟩
  · have e2 : M_X10_inRange k p 0 200 = some 0 := e2
    have hno : ∀ X : Option (Int32 × Int32 × (VV × VV × VV × VV × VV × Int32)), (if p < 0 then some ((2 : Int32), (0 : Int32), S) else if p ≤ (200 : Int32) then X else some (2, 0, S)) = some (2, 0, S) := fun X => by
      rcases e1 with h | ⟨h1, h2⟩
      · rw [if_pos h]
      · rw [if_neg h1, if_neg (fun h => h2 (by
          have a : (200 : Int32).toInt = 200 := by decide
          have b := nI_toInt (n := 201) (by decide)
          rw [Int32.le_iff_toInt_le] at h
          rw [Int32.lt_iff_toInt_lt]
          omega))]
    rw [hno, e2, Option.bind_some, if_pos rfl]
    exact VSV.no (T' := th (th T 0) 1) G ((tf_th T 0).trans (tf_th _ 1)) rfl (by simp) (by decide)
end OPS
