-- ===== operations on both sides =====
def OPV (f : Int32 → Int32) (cs : List Int32) (q : Option (Int32 × Int32 × (VV × VV × VV × VV × VV × Int32) × (Nat × Int32 × Int32 × (Nat → VV)))) (r : Option (Int32 × VV)) (N : Nat) : Prop :=
  ∃ c v v' S' V' T', q = some (c, v, S', V') ∧ r = some (v', T') ∧ GIx S' T' V' N ∧ T' 0 1 = f c ∧ c ∈ cs ∧ (c = 0 → v = v')
def f2 (c : Int32) : Int32 := if c = 2 then 1 else c
section OPS
variable {S : VV × VV × VV × VV × VV × Int32} {T : VV} {V : Nat × Int32 × Int32 × (Nat → VV)} {N k : Nat}
theorem rec_all (G : GIx S T V N) {A : AF} (hA : A.t ≤ 9999) (J : JR S.1 T 1 A N) (hk : 20000 ≤ k) : ∃ V' T1, Hkeep k V S.1 = some V' ∧ M_X10_record k (th T 0) = some T1 ∧ JR S.1 T1 1 A N ∧
    ∀ F' T2 A' N', (∀ j, j ≠ 1 → j ≠ 6 → T2 j = T1 j) → A'.t ≤ 9999 → JR F' T2 1 A' N' → N ≤ N' → GIx (F', S.2) T2 V' N' ∧ T2 0 1 = 0 := by
  have J0 : JR S.1 (th T 0) 1 A N := J.frame rfl rfl
  obtain ⟨V', T1, e1, e2, H1, f1, f2⟩ := gi_record (G.hi.frame (T' := th T 0) rfl rfl) J0 hA hk
  refine ⟨V', T1, e1, e2, J0.frame (f2 3 (by decide)) (f1 1 (by decide) (by decide)), fun F' T2 A' N' hf hA' J' hN => ?_⟩
  have z0 : T2 0 = T1 0 := hf 0 (by decide) (by decide)
  have r : ∀ j, j ≠ 0 → j ≠ 1 → j ≠ 5 → j ≠ 6 → T2 j = T j := fun j h0 h1 h5 h6 => by rw [hf j h1 h6, f1 j h0 h5, show th T 0 j = T j from vaN _ _ h0]
  have s : ∀ c, c ≠ 0 → c ≠ 1 → T2 0 c = T 0 c := fun c h0 h1 => by
    rw [z0, f2 c h0]
    exact upd_ne _ _ h1
  refine ⟨GIx.ofs (nw := ⟨A', hA', J'⟩) (ti := G.ti.frame (s 6 (by decide) (by decide)) (r 8 (by decide) (by decide) (by decide) (by decide)) (s 13 (by decide) (by decide))) (xi := G.xi.frame (s 5 (by decide) (by decide)) (r 7 (by decide) (by decide) (by decide) (by decide))) (si := (G.si.frame (s 2 (by decide) (by decide)) (r 4 (by decide) (by decide) (by decide) (by decide))).mono hN) (hi := (H1.frame (by rw [z0]) (hf 5 (by decide) (by decide))).mono hN), ?_⟩
  rw [z0, f2 1 (by decide)]
  rfl
/-- a call that is refused by an exception -/
theorem OPV.no {f : Int32 → Int32} {cs : List Int32} {c x y : Int32} {T' : VV} (G : GIx S T V N) (ht : TF T T') (h1 : T' 0 1 = f c) (hc : c ∈ cs) (h0 : c ≠ 0) : OPV f cs (some (c, x, S, V)) (some (y, T')) N := ⟨c, x, y, S, V, T', rfl, rfl, G.frame ht, h1, hc, fun e => absurd e h0⟩
theorem OPV.same {f : Int32 → Int32} {cs : List Int32} {v : Int32} {T' : VV} (G : GIx S T V N) (ht : TF T T') (h1 : T' 0 1 = f 0) (hc : 0 ∈ cs) : OPV f cs (some (0, v, S, V)) (some (v, T')) N := ⟨0, v, v, S, V, T', rfl, rfl, G.frame ht, h1, hc, fun _ => rfl⟩
theorem OPV.mono {f : Int32 → Int32} {cs : List Int32} {q : Option (Int32 × Int32 × (VV × VV × VV × VV × VV × Int32) × (Nat × Int32 × Int32 × (Nat → VV)))} {r : Option (Int32 × VV)} {N N' : Nat} (h : OPV f cs q r N) (hN : N ≤ N') : OPV f cs q r N' := by
  obtain ⟨c, v, v', S', V', T', h1, h2, h3, h4⟩ := h
  exact ⟨c, v, v', S', V', T', h1, h2, h3.mono hN, h4⟩
theorem is_t2 {A : AF} {F : VV} (J : JR F T 1 A N) (k : Nat) (p : Int32) : M_X10_isTenant k T p = inE k p A.m := by
  obtain ⟨fg, mk, ks, ks', tk, tkt, R, M, I, hN⟩ := J
  exact is_t M k p
theorem is_w2 {A : AF} {F : VV} (J : JR F T 1 A N) (k : Nat) (p : Int32) : M_X10_isWorker k T p = inE k p A.W := by
  obtain ⟨fg, mk, ks, ks', tk, tkt, R, M, I, hN⟩ := J
  exact is_w M k p
theorem need_t2 {A : AF} {U : VV} (J : JR S.1 U 1 A N) (k : Nat) (p : Int32) : M_X9_needTenant k S p = needE p A.m := by
  obtain ⟨fg, mk, ks, ks', tk, tkt, R, M, I, hN⟩ := J
  exact need_t R I.li.toAW k p
theorem need_w2 {A : AF} {U : VV} (J : JR S.1 U 1 A N) (k : Nat) (p : Int32) : M_X9_needWorker k S p = needE p A.W := by
  obtain ⟨fg, mk, ks, ks', tk, tkt, R, M, I, hN⟩ := J
  exact need_w R I.li.toAW k p
theorem JR.aw {F U : VV} {g : Nat} {A : AF} (J : JR F U g A N) : AW A := by
  obtain ⟨fg, mk, ks, ks', tk, tkt, R, M, I, hN⟩ := J
  exact I.li.toAW
theorem JR.reqs {F U : VV} {g : Nat} {A : AF} (J : JR F U g A N) (k : Nat) : F 0 3 = nI A.n ∧ M_X10_requests k U = some (nI A.n) := by
  obtain ⟨fg, mk, ks, ks', tk, tkt, R, M, I, hN⟩ := J
  exact ⟨R.s3, M.requests k⟩
theorem JR.time {F U : VV} {g : Nat} {A : AF} (J : JR F U g A N) : F 0 4 = nI A.t ∧ U g 4 = nI A.t := by
  obtain ⟨fg, mk, ks, ks', tk, tkt, R, M, I, hN⟩ := J
  exact ⟨R.s4, M.s4⟩
theorem JR.kills {F U : VV} {g : Nat} {A : AF} (J : JR F U g A N) : F 6 0 = U g 11 := by
  obtain ⟨fg, mk, ks, ks', tk, tkt, R, M, I, hN⟩ := J
  rw [R.k0, M.s11, I.pm.length_eq]
/-- one of 1 to n -/
theorem rngB (k : Nat) (p : Int32) {n : Nat} (hn : n < 2 ^ 30) : (∃ j, 1 ≤ j ∧ j ≤ n ∧ p = nI j ∧ ¬ p < 1 ∧ p ≤ nI n ∧ M_X10_inRange k p 1 (nI n) = some 1) ∨ ((p < 1 ∨ (¬ p < 1 ∧ ¬ p ≤ nI n)) ∧ M_X10_inRange k p 1 (nI n) = some 0) := by
  simp only [M_X10_inRange, M_X10_inRange_0]
  by_cases hp : p < 1
  · right; rw [if_pos hp]; exact ⟨Or.inl hp, rfl⟩
  · rw [if_neg hp]
    have h0 : ¬ p < 0 := fun h => hp (by
      rw [Int32.lt_iff_toInt_lt] at h ⊢
      have a : (0 : Int32).toInt = 0 := by decide
      have b : (1 : Int32).toInt = 1 := by decide
      omega)
    obtain ⟨j, hj, rfl⟩ := nI_of h0
    have hj1 : 1 ≤ j := by
      by_cases e : j = 0
      · subst e; exact absurd (by decide : nI 0 < 1) hp
      · omega
    by_cases hl : j ≤ n
    · left
      refine ⟨j, hj1, hl, rfl, hp, nI_le hl (by omega), ?_⟩
      rw [if_neg (nI_nlt hl (by omega))]
    · right
      refine ⟨Or.inr ⟨hp, nI_ge (by omega) hj⟩, ?_⟩
      rw [if_pos (nI_lt (by omega) hj)]
theorem o_submit (G : GIx S T V N) (hk : 20000 ≤ k) (p q r : Int32) : OPV id [0, 1, 2] (M_X9_submit k S V p q r) (M_X10_submit k T p q r) (N + 1) := by
  obtain ⟨A, hA, J⟩ := G.nw
  have w := J.aw
  have hm := w.m12
  have hn := w.n60
  simp only [M_X9_submit, M_X9_submit_0, M_X10_submit, M_X10_submit_0]
  rw [need_t2 J k p, is_t2 J k p]
  rcases rng2 k p (n := A.m) (by omega) with ⟨t, ht, rfl, e1, e2⟩ | ⟨e1, e2⟩
  · rw [e1, e2, Option.bind_some, Option.bind_some, if_pos rfl, if_neg (show ¬ (1 : Int32) = 0 by decide)]
    rcases rngB k q (n := 20) (by decide) with ⟨c, hc1, hc20, rfl, g1, g2, e4⟩ | ⟨e3, e4⟩
    · have g2 : nI c ≤ (20 : Int32) := g2
      have e4 : M_X10_inRange k (nI c) 1 20 = some 1 := e4
      rw [if_neg g1, if_pos g2, e4, Option.bind_some, if_neg (show ¬ (1 : Int32) = 0 by decide)]
      obtain ⟨V', T1, e5, e6, J1, fin⟩ := rec_all G hA J hk
      have J0 : JR S.1 (th T 0) 1 A N := J.frame rfl rfl
      simp only [M_X10_submit_28, lt_eq]
      have c1 : va_up T 0 (upd (T 0) 1 0) 0 1 = 0 := rfl
      rw [c1, if_pos rfl, (J.reqs k).1, (J0.reqs k).2, Option.bind_some]
      by_cases hl : A.n < 60
      · have hlt : nI A.n < (60 : Int32) := nI_lt (b := 60) hl (by decide)
        have hne : ¬ nI A.n = (60 : Int32) := fun e => by
          have := (nI_eq (a := A.n) (b := 60) (by omega) (by decide)).mp e
          omega
        rw [if_pos hlt, if_neg hne, e5, Option.bind_some, e6, Option.bind_some, (J1.reqs k).2, Option.bind_some]
        by_cases hq : A.qe t = -1
        · obtain ⟨F', S1, S', A', a1, a2, a3, a4, J2, sn, f⟩ := jr_addOpen J1 ht hl hq (nI c) r hk
          obtain ⟨G', th'⟩ := fin F' S' A' (N + 1) (fun j h1 _ => f j h1) (by rw [sn.t]; exact hA) J2 (by omega)
          rw [a1, Option.bind_some, a2, Option.bind_some, a3, Option.bind_some, if_neg (show ¬ (1 : Int32) = 0 by decide), a4, Option.bind_some]
          exact ⟨0, nI A.n, nI A.n, (F', S.2), V', S', rfl, rfl, G', th', by simp, fun _ => rfl⟩
        · obtain ⟨F', S1, S', A', a1, a2, a3, a4, J2, sn, f⟩ := jr_addShut (k := k) J1 ht hl hq (nI c) r
          obtain ⟨G', th'⟩ := fin F' S' A' (N + 1) (fun j h1 _ => f j h1) (by rw [sn.t]; exact hA) (J2.mono (by omega)) (by omega)
          rw [a1, Option.bind_some, a2, Option.bind_some, a3, Option.bind_some, if_pos rfl, a4, Option.bind_some]
          exact ⟨0, nI A.n, nI A.n, (F', S.2), V', S', rfl, rfl, G', th', by simp, fun _ => rfl⟩
      · have h60 : A.n = 60 := by omega
        rw [h60, if_neg (by decide), if_pos (by rfl)]
        exact (OPV.same G (tf_th T 0) rfl (by simp)).mono (by omega)
    · have e4 : M_X10_inRange k q 1 20 = some 0 := e4
      have hno : ∀ X : Option (Int32 × Int32 × (VV × VV × VV × VV × VV × Int32) × (Nat × Int32 × Int32 × (Nat → VV))), (if q < (1 : Int32) then some ((2 : Int32), (0 : Int32), S, V) else if q ≤ (20 : Int32) then X else some (2, 0, S, V)) = some (2, 0, S, V) := fun X => by
        rcases e3 with h | ⟨h1, h2⟩
        · rw [if_pos h]
        · have h2 : ¬ q ≤ (20 : Int32) := h2
          rw [if_neg h1, if_neg h2]
      rw [hno, e4, Option.bind_some, if_pos rfl]
      simp only [M_X10_submit_28, lt_eq]
      have c1 : ¬ va_up T 0 (upd (T 0) 1 2) 0 1 = 0 := by
        show ¬ (2 : Int32) = 0
        decide
      rw [if_neg c1]
      exact (OPV.no G (tf_th T 2) rfl (by simp) (by decide)).mono (by omega)
  · rw [e1, e2, Option.bind_some, Option.bind_some, if_neg (show ¬ (1 : Int32) = 0 by decide), if_pos rfl]
    simp only [M_X10_submit_28, lt_eq]
    have c1 : ¬ va_up T 0 (upd (T 0) 1 1) 0 1 = 0 := by
      show ¬ (1 : Int32) = 0
      decide
    rw [if_neg c1]
    exact (OPV.no G (tf_th T 1) rfl (by simp) (by decide)).mono (by omega)
theorem o_pass (G : GIx S T V N) (hN : N + 300000 < 2 ^ 31) (hk : 20000 ≤ k) (p : Int32) : OPV f2 [0, 2] (M_X9_pass k S V p) (M_X10_pass k T p) (N + 200000) := by
  obtain ⟨A, hA, J⟩ := G.nw
  have J0 : JR S.1 (th T 0) 1 A N := J.frame rfl rfl
  have c4 : Int32.toNatClampNeg 4 = 4 := by decide
  have c11 : Int32.toNatClampNeg 11 = 11 := by decide
  simp only [M_X9_pass, M_X9_pass_0, M_X10_pass, M_X10_pass_0, lt_eq]
  rcases rngB k p (n := 100) (by decide) with ⟨n, hn1, hn100, rfl, g1, g2, e4⟩ | ⟨e3, e4⟩
  · have g2 : nI n ≤ (100 : Int32) := g2
    have e4 : M_X10_inRange k (nI n) 1 100 = some 1 := e4
    rw [if_neg g1, if_pos g2, e4, Option.bind_some, if_neg (show ¬ (1 : Int32) = 0 by decide), ifin (i := 4) (x := 4) rfl (by decide), c4, J.time.1]
    have t4 : va_up T 0 (upd (T 0) 1 0) 1 4 = nI A.t := J0.time.2
    rw [t4, nI_add]
    by_cases ht : A.t + n ≤ 9999
    · have hle : nI (A.t + n) ≤ (9999 : Int32) := nI_le (b := 9999) ht (by decide)
      obtain ⟨V', T1, e5, e6, J1, fin⟩ := rec_all G hA J hk
      rw [if_pos hle, if_pos hle, e5, Option.bind_some, e6, Option.bind_some, ifin (i := 11) (x := 11) rfl (by decide), c11]
      have key : ∀ m i (F U : VV) (B : AF), i + m = n → B.t = A.t + i → JR F U 1 B (N + 2000 * i) → (∀ j, j ≠ 1 → j ≠ 6 → U j = T1 j) → ∀ fuel, m < fuel → ∀ a, ∃ v F' U' B', B'.t = A.t + n ∧ JR F' U' 1 B' (N + 2000 * n) ∧ (∀ j, j ≠ 1 → j ≠ 6 → U' j = T1 j) ∧ M_X9_pass_64 k fuel (nI n) a (nI i) (F, S.2) V' = some (0, v, (F', S.2), V') ∧ M_X10_pass_52 k fuel (nI n) a (nI i) U = some (v, U') := by
        intro m
        induction m with
        | zero =>
          intro i F U B hi hB JB hf fuel hfu a
          obtain ⟨f, rfl⟩ : ∃ f, fuel = f + 1 := ⟨fuel - 1, by omega⟩
          have hin : i = n := by omega
          subst hin
          refine ⟨F 6 0 - a, F, U, B, hB, JB, hf, ?_, ?_⟩
          · simp only [M_X9_pass_64]
            rw [if_pos (nI_le (Nat.le_refl _) (by omega))]
            rfl
          · simp only [M_X10_pass_52]
            rw [if_pos (nI_le (Nat.le_refl _) (by omega)), ifin (i := 11) (x := 11) rfl (by decide), c11, JB.kills]
        | succ m ih =>
          intro i F U B hi hB JB hf fuel hfu a
          obtain ⟨f, rfl⟩ : ∃ f, fuel = f + 1 := ⟨fuel - 1, by omega⟩
          obtain ⟨F1, U1, B1, t1, t2, JB1, tB, _, fr⟩ := jr_tick JB (by omega) (by omega) hk
          obtain ⟨v, F', U', B', r1, r2, r3, r4, r5⟩ := ih (i + 1) F1 U1 B1 (by omega) (by omega) (JB1.mono (by omega)) (fun j h1 h6 => (fr j h1 h6).trans (hf j h1 h6)) f (by omega) a
          refine ⟨v, F', U', B', r1, r2, r3, ?_, ?_⟩
          · simp only [M_X9_pass_64, lt_eq]
            rw [if_neg (nI_ge (by omega) (by omega)), t1, Option.bind_some, nI_1]
            exact r4
          · simp only [M_X10_pass_52]
            rw [if_neg (nI_ge (by omega) (by omega)), t2, Option.bind_some, nI_1]
            exact r5
      obtain ⟨v, F', U', B', r1, r2, r3, r4, r5⟩ := key n 0 S.1 T1 A (by omega) rfl J1 (fun _ _ _ => rfl) k (by omega) (S.1 6 0)
      obtain ⟨G', th'⟩ := fin F' U' B' (N + 200000) r3 (by omega) (r2.mono (by omega)) (by omega)
      have e9 : T1 1 11 = S.1 6 0 := J1.kills.symm
      rw [e9]
      rw [nI_0] at r4 r5
      refine ⟨0, v, v, (F', S.2), V', U', r4, r5, G', th', by simp, fun _ => rfl⟩
    · have hle : ¬ nI (A.t + n) ≤ (9999 : Int32) := nI_ge (a := 9999) (by omega) (by omega)
      rw [if_neg hle, if_neg hle]
      exact (OPV.same G (tf_th T 0) rfl (by simp)).mono (by omega)
  · have e4 : M_X10_inRange k p 1 100 = some 0 := e4
    have hno : ∀ X : Option (Int32 × Int32 × (VV × VV × VV × VV × VV × Int32) × (Nat × Int32 × Int32 × (Nat → VV))), (if p < (1 : Int32) then some ((2 : Int32), (0 : Int32), S, V) else if p ≤ (100 : Int32) then X else some (2, 0, S, V)) = some (2, 0, S, V) := fun X => by
      rcases e3 with h | ⟨h1, h2⟩
      · rw [if_pos h]
      · have h2 : ¬ p ≤ (100 : Int32) := h2
        rw [if_neg h1, if_neg h2]
    rw [hno, e4, Option.bind_some, if_pos rfl]
    exact (OPV.no (T' := th (th T 0) 1) G ((tf_th T 0).trans (tf_th _ 1)) rfl (by simp) (by decide)).mono (by omega)
end OPS
