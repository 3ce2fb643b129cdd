-- ===== further methods that answer a value and change nothing =====
section VALS
variable {S : VV × VV × VV × VV × VV × Int32} {T : VV} {V : Nat × Int32 × Int32 × (Nat → VV)} {N k : Nat} {A : AF} {fg mk : Nat → Nat} {ks : KL} {tk : Nat} {tkt : Nat → Nat} {g : Nat}
theorem rng3 (k : Nat) (p : Int32) {n : Nat} (hn : n < 2 ^ 30) : (∃ j, j < n ∧ p = nI j ∧ ¬ p < 0 ∧ p < nI n ∧ M_X10_inRange k p 0 (nI n - 1) = some 1) ∨ ((p < 0 ∨ (¬ p < 0 ∧ ¬ p < nI n)) ∧ M_X10_inRange k p 0 (nI n - 1) = some 0) := by
  rcases rng2 k p hn with ⟨j, hj, e, e1, e2⟩ | ⟨e1, e2⟩
  · left
    refine ⟨j, hj, e, by rw [e]; exact nI_pos (by omega), by rw [e]; exact nI_lt hj (by omega), ?_⟩
    subst e
    simp only [M_X10_inRange, M_X10_inRange_0]
    rw [if_neg (nI_pos (by omega)), show (1 : Int32) = nI 1 from rfl, nI_sub (by omega), if_neg (nI_nlt (by omega) (by omega))]
  · right
    unfold needE at e1
    unfold inE at e2
    refine ⟨?_, ?_⟩
    · by_cases hp : p < 0
      · exact Or.inl hp
      · rw [if_neg hp] at e1
        refine Or.inr ⟨hp, fun hl => ?_⟩
        rw [if_pos hl] at e1
        exact absurd e1 (by decide)
    · simp only [M_X10_inRange, M_X10_inRange_0] at e2 ⊢
      by_cases hp : p < 0
      · rw [if_pos hp]
      · rw [if_neg hp] at e2 ⊢
        by_cases hl : nI n - 1 < p
        · rw [if_pos hl]
        · rw [if_neg hl] at e2
          exact absurd e2 (by decide)
theorem v_request (G : GIx S T V N) (p q : Int32) : VAL (M_X9_request k S p q) (M_X10_request k T p q) T := by
  obtain ⟨A, hA, fg, mk, ks, ks', tk, tkt, R, M, I, hN⟩ := G.nw
  have M := M.th 0
  have w := I.li.toAW
  have hn := w.n60
  simp only [M_X9_request, M_X9_request_0, M_X10_request, M_X10_request_0, lt_eq]
  rw [R.s3, is_r M k p]
  unfold inE
  rcases rng3 k p (n := A.n) (by omega) with ⟨j, hj, rfl, g1, g2, e2⟩ | ⟨e1, e2⟩
  · rw [if_neg g1, if_pos g2, e2, Option.bind_some, if_pos (show (1 : Int32) = 0 ∨ (1 : Int32) = 1 from Or.inr rfl), Option.bind_some, if_neg (show ¬ (1 : Int32) = 0 by decide)]
    rcases rng3 k q (n := 8) (by decide) with ⟨c, hc, rfl, g3, g4, e4⟩ | ⟨e3, e4⟩
    · have g4 : nI c < (8 : Int32) := g4
      have e4 : M_X10_inRange k (nI c) 0 7 = some 1 := e4
      rw [if_neg g3, if_pos g4, e4, Option.bind_some, if_neg (show ¬ (1 : Int32) = 0 by decide), R.q w k hj c rfl hc, Option.bind_some, M.q w k hj c rfl hc, Option.bind_some]
      exact VAL.ok rfl
    · have e4 : M_X10_inRange k q 0 7 = some 0 := e4
      have hno : (if q < 0 then some ((1 : Int32), (0 : Int32)) else if q < 8 then (M_X6_at k 60 8 480 (S.1 4) (nI j) q).bind fun q5 => some (0, q5) else some (1, 0)) = some (1, 0) := by
        rcases e3 with h | ⟨h1, h2⟩
        · rw [if_pos h]
        · have h2 : ¬ q < (8 : Int32) := h2
          rw [if_neg h1, if_neg h2]
      rw [hno, e4, Option.bind_some, if_pos rfl]
      exact VAL.no
  · rw [e2, Option.bind_some, if_pos (show (0 : Int32) = 0 ∨ (0 : Int32) = 1 from Or.inl rfl), Option.bind_some, if_pos rfl]
    have hno : ∀ X : Option (Int32 × Int32), (if p < 0 then some ((1 : Int32), (0 : Int32)) else if p < nI A.n then X else some (1, 0)) = some (1, 0) := fun X => by
      rcases e1 with h | ⟨h1, h2⟩
      · rw [if_pos h]
      · rw [if_neg h1, if_neg h2]
    rw [hno]
    exact VAL.no
theorem v_queued (G : GIx S T V N) (hN : N < 2 ^ 31) (hk : 20000 ≤ k) (p q : Int32) : VAL (M_X9_queued k S p q) (M_X10_queued k T p q) T := by
  obtain ⟨A, hA, fg, mk, ks, ks', tk, tkt, R, M, I, hN2⟩ := G.nw
  have M := M.th 0
  have h := I.li
  have w := h.toAW
  have hW := w.w12
  simp only [M_X9_queued, M_X9_queued_0, M_X10_queued, M_X10_queued_0, M_X10_queued_24, lt_eq]
  rw [need_w R w k p, is_w M k p]
  rcases rng2 k p (n := A.W) (by omega) with ⟨j, hj, rfl, e1, e2⟩ | ⟨e1, e2⟩
  · rw [e1, e2, Option.bind_some, Option.bind_some, if_pos rfl, if_neg (show ¬ (1 : Int32) = 0 by decide), cq_waiting R w h.toAL hk, Option.bind_some, rq_inPlace M h I.tt (by omega) hk (inQ_iff h hj), Option.bind_some]
    by_cases hn : atQ (posQ A (nI j)) q = -1
    · rw [if_pos hn, if_pos hn]; exact VAL.no
    · rw [if_neg hn, if_neg hn]; exact VAL.ok rfl
  · rw [e1, e2, Option.bind_some, Option.bind_some, if_neg (show ¬ (1 : Int32) = 0 by decide), if_pos rfl]
    exact VAL.no
theorem v_parked (G : GIx S T V N) (hN : N < 2 ^ 31) (hk : 20000 ≤ k) (q : Int32) : VAL (M_X9_parked k S q) (M_X10_parked k T q) T := by
  obtain ⟨A, hA, fg, mk, ks, ks', tk, tkt, R, M, I, hN2⟩ := G.nw
  have M := M.th 0
  have h := I.li
  have w := h.toAW
  simp only [M_X9_parked, M_X9_parked_0, M_X10_parked, M_X10_parked_0, lt_eq]
  rw [cq_waiting R w h.toAL hk, Option.bind_some, rq_inPlace M h I.tt (by omega) hk (inP_iff h), Option.bind_some]
  by_cases hn : atQ (posQ A (-1)) q = -1
  · rw [if_pos hn, if_pos hn]; exact VAL.no
  · rw [if_neg hn, if_neg hn]; exact VAL.ok rfl
theorem v_killsOf (G : GIx S T V N) (hk : 20000 ≤ k) (p q : Int32) : VAL (M_X9_killsOf k S p q) (M_X10_killsOf k T p q) T := by
  obtain ⟨A, hA, fg, mk, ks, ks', tk, tkt, R, M, I, hN⟩ := G.nw
  have M := M.th 0
  have h := I.li
  have w := h.toAW
  have hm := w.m12
  have hW := w.w12
  have hl := I.ac.le h
  have hlen : ks'.length = ks.length := I.pm.length_eq
  simp only [M_X9_killsOf, M_X9_killsOf_0, M_X10_killsOf, M_X10_killsOf_0, lt_eq]
  rw [need_t R w k p, is_t M k p, need_w R w k q, is_w M k q]
  rcases rng2 k p (n := A.m) (by omega) with ⟨t, ht, rfl, e1, e2⟩ | ⟨e1, e2⟩
  · rw [e1, e2, Option.bind_some, Option.bind_some, if_pos rfl, if_neg (show ¬ (1 : Int32) = 0 by decide)]
    rcases rng2 k q (n := A.W) (by omega) with ⟨j, hj, rfl, e3, e4⟩ | ⟨e3, e4⟩
    · rw [e3, e4, Option.bind_some, Option.bind_some, if_pos rfl, if_neg (show ¬ (1 : Int32) = 0 by decide), TK_atI k (by omega) (by omega), Option.bind_some, rq_kills M (by rw [hlen]; exact hl) hk, Option.bind_some, kp_pair (ks_KB I).2 (by omega) (by omega)]
      refine VAL.ok ?_
      show S.1 9 (t * 12 + j) = _
      rw [R.kp t j (by omega) (by omega)]
      unfold cntK
      rw [I.pm.countP_eq]
    · rw [e3, e4, Option.bind_some, Option.bind_some, if_neg (show ¬ (1 : Int32) = 0 by decide), if_pos rfl]
      exact VAL.no
  · rw [e1, e2, Option.bind_some, Option.bind_some, if_neg (show ¬ (1 : Int32) = 0 by decide), if_pos rfl]
    exact VAL.no
theorem v_overlap (G : GIx S T V N) (p q : Int32) : VAL (M_X9_overlap k S p q) (M_X10_overlap k T p q) T := by
  obtain ⟨A, hA, fg, mk, ks, ks', tk, tkt, R, M, I, hN⟩ := G.nw
  have M := M.th 0
  have w := I.li.toAW
  have hm := w.m12
  simp only [M_X9_overlap, M_X9_overlap_0, M_X10_overlap, M_X10_overlap_0, lt_eq]
  rw [need_t R w k p, is_t M k p, need_t R w k q, is_t M k q]
  rcases rng2 k p (n := A.m) (by omega) with ⟨t, ht, rfl, e1, e2⟩ | ⟨e1, e2⟩
  · rw [e1, e2, Option.bind_some, Option.bind_some, if_pos rfl, if_neg (show ¬ (1 : Int32) = 0 by decide)]
    rcases rng2 k q (n := A.m) (by omega) with ⟨j, hj, rfl, e3, e4⟩ | ⟨e3, e4⟩
    · rw [e3, e4, Option.bind_some, Option.bind_some, if_pos rfl, if_neg (show ¬ (1 : Int32) = 0 by decide), cq_shared R w k ht hj, Option.bind_some, rq_shared M w k ht hj, Option.bind_some]
      exact VAL.ok rfl
    · rw [e3, e4, Option.bind_some, Option.bind_some, if_neg (show ¬ (1 : Int32) = 0 by decide), if_pos rfl]
      exact VAL.no
  · rw [e1, e2, Option.bind_some, Option.bind_some, if_neg (show ¬ (1 : Int32) = 0 by decide), if_pos rfl]
    exact VAL.no
theorem v_covered (G : GIx S T V N) (hk : 20000 ≤ k) (p : Int32) : VAL (M_X9_covered k S p) (M_X10_covered k T p) T := by
  obtain ⟨A, hA, fg, mk, ks, ks', tk, tkt, R, M, I, hN⟩ := G.nw
  have M := M.th 0
  have w := I.li.toAW
  have hm := w.m12
  simp only [M_X9_covered, M_X9_covered_0, M_X10_covered, M_X10_covered_0, lt_eq]
  rw [need_t R w k p, is_t M k p]
  rcases rng2 k p (n := A.m) (by omega) with ⟨t, ht, rfl, e1, e2⟩ | ⟨e1, e2⟩
  · rw [e1, e2, Option.bind_some, Option.bind_some, if_pos rfl, if_neg (show ¬ (1 : Int32) = 0 by decide), R.shard w k ht, Option.bind_some, cq_covered R w I.pc hk ht, rq_covered M w hk ht]
    exact VAL.ok rfl
  · rw [e1, e2, Option.bind_some, Option.bind_some, if_neg (show ¬ (1 : Int32) = 0 by decide), if_pos rfl]
    exact VAL.no
theorem v_bestShard (G : GIx S T V N) (hk : 20000 ≤ k) (p : Int32) : VAL (M_X9_bestShard k S p) (M_X10_bestShard k T p) T := by
  obtain ⟨A, hA, fg, mk, ks, ks', tk, tkt, R, M, I, hN⟩ := G.nw
  have M := M.th 0
  have w := I.li.toAW
  have hm := w.m12
  simp only [M_X9_bestShard, M_X9_bestShard_0, M_X10_bestShard, M_X10_bestShard_0, lt_eq]
  rw [need_t R w k p, is_t M k p]
  rcases rng2 k p (n := A.m) (by omega) with ⟨t, ht, rfl, e1, e2⟩ | ⟨e1, e2⟩
  · rw [e1, e2, Option.bind_some, Option.bind_some, if_pos rfl, if_neg (show ¬ (1 : Int32) = 0 by decide), cq_best R w hk ht, Option.bind_some, rq_best M w I.z4 hk ht]
    exact VAL.ok rfl
  · rw [e1, e2, Option.bind_some, Option.bind_some, if_neg (show ¬ (1 : Int32) = 0 by decide), if_pos rfl]
    exact VAL.no
-- the ones that never throw
theorem n_errorPosition (G : GIx S T V N) : ∃ v, M_X9_errorPosition k S = some v ∧ M_X10_errorPosition k T = some (v, th T 0) := by
  obtain ⟨b, b1, b2, b3, b4, b5⟩ := G.ti
  exact ⟨S.2.2.2.1 0 2, rfl, by rw [b5]; rfl⟩
theorem n_killingPairs (G : GIx S T V N) (hk : 20000 ≤ k) : ∃ v, M_X9_killingPairs k S = some v ∧ M_X10_killingPairs k T = some (v, th T 0) := by
  obtain ⟨A, hA, fg, mk, ks, ks', tk, tkt, R, M, I, hN⟩ := G.nw
  have M := M.th 0
  have h := I.li
  have hl := I.ac.le h
  have hlen : ks'.length = ks.length := I.pm.length_eq
  refine ⟨nI (kpairs ks 12 12), ?_, ?_⟩
  · simp only [M_X9_killingPairs, M_X9_killingPairs_0]
    rw [cq_pairs R hl hk, Option.bind_some]
  · simp only [M_X10_killingPairs, M_X10_killingPairs_0, lt_eq]
    have e : kpairs ks' A.m A.W = kpairs ks 12 12 := by
      rw [kpairs_12 h.m12 h.w12 (fun z hz => (I.ko.le z hz).2)]
      unfold kpairs
      refine sumN_ext (fun t _ => sumN_ext (fun j _ => ?_))
      unfold cntK
      rw [I.pm.countP_eq]
    rw [← e]
    exact rq_pairs M h.toAW (by rw [hlen]; exact hl) (ks_KB I).2 hk
theorem n_greatest (G : GIx S T V N) (hk : 20000 ≤ k) : ∃ v, M_X9_greatestOverlap k S = some v ∧ M_X10_greatestOverlap k T = some (v, th T 0) := by
  obtain ⟨A, hA, fg, mk, ks, ks', tk, tkt, R, M, I, hN⟩ := G.nw
  have M := M.th 0
  refine ⟨nI (mxT (shV A) A.m), ?_, ?_⟩
  · simp only [M_X9_greatestOverlap, M_X9_greatestOverlap_0]
    rw [cq_greatest R I.li.toAW hk, Option.bind_some]
  · simp only [M_X10_greatestOverlap, M_X10_greatestOverlap_0, lt_eq]
    rw [rq_greatest M I.li.toAW hk, Option.bind_some]
theorem n_mean (G : GIx S T V N) (hk : 20000 ≤ k) : ∃ v, okD v = true ∧ M_X9_meanOverlap k S = some v ∧ M_X10_meanOverlap k T = some (v, th T 0) := by
  obtain ⟨A, hA, fg, mk, ks, ks', tk, tkt, R, M, I, hN⟩ := G.nw
  have M := M.th 0
  have w := I.li.toAW
  refine ⟨meanV A, mean_ok w I.pc I.z4, cq_mean R w I.pc I.z4 hk, ?_⟩
  simp only [M_X10_meanOverlap, M_X10_meanOverlap_0, lt_eq]
  rw [M.tenants k, Option.bind_some, Option.bind_some, pairs_tri w.m12]
  exact rq_mean M w I.pc I.z4 hk
theorem n_served (G : GIx S T V N) (hk : 20000 ≤ k) : ∃ v, okF v = true ∧ M_X9_served k S = some v ∧ M_X10_served k T = some (v, th T 0) := by
  obtain ⟨A, hA, fg, mk, ks, ks', tk, tkt, R, M, I, hN⟩ := G.nw
  have w := I.li.toAW
  exact ⟨servV A, serv_ok w, cq_served R w hk, rq_served (M.th 0) w hk⟩
theorem n_undoCount (G : GIx S T V N) : ∃ v, M_X9_undoCount k S V = some v ∧ M_X10_undoCount k T = some (v, th T 0) := by
  obtain ⟨cnt, nxt, a1, a2, a3, a4⟩ := G.hi
  exact ⟨nI cnt, by rw [← a1]; rfl, by rw [← a3]; rfl⟩
theorem n_formattedByte (G : GIx S T V N) (p : Int32) : ∃ v, M_X9_formattedByte k S p = some v ∧ M_X10_formattedByte k T p = some (v, th T 0) := by
  obtain ⟨n, n1, n2, n3, n4⟩ := G.xi
  have e5 : va_up T 0 (upd (T 0) 1 0) 0 5 = nI n := n3
  simp only [M_X9_formattedByte, M_X9_formattedByte_0, M_X10_formattedByte, M_X10_formattedByte_0, lt_eq]
  rw [n2, e5]
  rcases rng3 k p (n := n) (by omega) with ⟨j, hj, rfl, g1, g2, e2⟩ | ⟨e1, e2⟩
  · refine ⟨T 7 j, ?_, ?_⟩
    · rw [if_neg g1, if_neg (nI_ge hj (by omega)), R_atI k (by omega) (by decide), Option.bind_some, n4 j hj]
    · rw [e2, Option.bind_some, if_neg (show ¬ (1 : Int32) = 0 by decide), if_pos (inb_nI (by omega) (by decide)), nI_clamp (by omega)]
      rfl
  · refine ⟨-1, ?_, ?_⟩
    · rcases e1 with h | ⟨h1, h2⟩
      · rw [if_pos h]
      · rw [if_neg h1, if_pos (Int32.not_lt.mp h2)]
    · rw [e2, Option.bind_some, if_pos rfl]
end VALS
