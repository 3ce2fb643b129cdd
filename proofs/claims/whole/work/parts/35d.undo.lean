-- ===== undo and snapshots on both sides =====
section OPS
variable {S : VV × VV × VV × VV × VV × Int32} {T : VV} {V : Nat × Int32 × Int32 × (Nat → VV)} {N k : Nat}
theorem tf_row (T : VV) (j : Nat) (X : Nat → Int32) (h : j ≠ 0) : va_up T j X 0 = T 0 := if_neg (fun e => h e.symm)
theorem n_undo (G : GIx S T V N) (hk : 20000 ≤ k) : ∃ v S' V' T', M_X9_undo k S V = some (v, S', V') ∧ M_X10_undo k T = some (v, T') ∧ GIx S' T' V' N := by
  obtain ⟨A, hA, J⟩ := G.nw
  obtain ⟨cnt, nxt, a1, a2, a3, a4, a5, a6, a7, a8⟩ := G.hi
  simp only [M_X9_undo, M_X9_undo_0, M_X10_undo, M_X10_undo_0, lt_eq]
  have e0 : va_up T 0 (upd (T 0) 1 0) 0 0 = nI cnt := a3
  rw [e0]
  unfold HtakeBack
  rw [a1]
  by_cases h0 : cnt = 0
  · subst h0
    rw [if_pos (by decide), Option.bind_some, if_pos rfl, if_pos (by rfl)]
    exact ⟨-1, S, V, _, rfl, rfl, G.frame (tf_th T 0)⟩
  · have hn0 : ¬ nI cnt = 0 := nI_ne0 (by omega) (by omega)
    have hl : Hlast V = nI (hix nxt 0) := by
      unfold Hlast
      rw [a2, show (10 : Int32) = nI 10 from rfl, nI_add, show (1 : Int32) = nI 1 from rfl, nI_sub (by omega), nI_mod (by omega) (by decide)]
      rfl
    obtain ⟨b1, B, hB, JB⟩ := a8 0 (by omega)
    have hx := hix_lt nxt 0
    obtain ⟨X, eX, hX⟩ := co_copy k S.1 (V.2.2.2 (hix nxt 0))
    rw [if_neg (nI_nle (by omega) (by omega)), hl, if_neg (nI_pos (by omega)), if_neg (show ¬ (10 : Int32) ≤ nI (hix nxt 0) from nI_ge (b := 10) hx (by decide)), nI_clamp (by omega), if_pos b1, eX, Option.bind_some, Option.bind_some, if_neg (show ¬ (1 : Int32) = 0 by decide), if_neg hn0]
    have hc1 : nI cnt - 1 = nI (cnt - 1) := by rw [show (1 : Int32) = nI 1 from rfl, nI_sub (by omega)]
    have hcp : M_X10_copy k 16920 1692 (T 5) (T 1) (nI (cnt - 1)) 0 = some (cpRow (T 5) (T 1) (cnt - 1) 0) := m_copy hk (a := cnt - 1) (b := 0) (by omega) (by omega) (by decide) (by decide) (T 5) (T 1)
    refine ⟨nI (cnt - 1), _, _, va_up (va_up T 0 (upd (upd (T 0) 1 0) 0 (nI (cnt - 1)))) 1 (cpRow (T 5) (T 1) (cnt - 1) 0), by rw [hc1], ?_, ?_⟩
    · rw [hc1, va_up_up]
      show ((M_X10_copy k 16920 1692 (T 5) (T 1) (nI (cnt - 1)) 0).bind _) = _
      rw [hcp, Option.bind_some]
      rfl
    · refine GIx.ofs (nw := ⟨B, hB, ?_⟩) (ti := G.ti.frame rfl rfl rfl) (xi := G.xi.frame rfl rfl) (si := G.si.frame rfl rfl) (hi := ?_)
      · refine JB.cong hX (gs_frame J.gs rfl) (fun j hj => ?_)
        show cpRow (T 5) (T 1) (cnt - 1) 0 j = T 5 (1692 * (cnt - 1 - 0) + j)
        have := cpRow_in (T 5) (T 1) (cnt - 1) 0 hj
        rw [Nat.mul_zero, Nat.zero_add] at this
        exact this
      · refine ⟨cnt - 1, hix nxt 0, rfl, rfl, rfl, by omega, by omega, Nat.le_of_lt b1, a7, fun j hj => ?_⟩
        have e : hix (hix nxt 0) j = hix nxt (j + 1) := by unfold hix; omega
        obtain ⟨c1, C, hC, JC⟩ := a8 (j + 1) (by omega)
        show hix (hix nxt 0) j < V.1 ∧ _
        rw [e]
        refine ⟨c1, C, hC, ?_⟩
        rw [show cnt - 1 - (j + 1) = cnt - 1 - 1 - j by omega] at JC
        exact JC
theorem n_save (G : GIx S T V N) (hk : 20000 ≤ k) : ∃ S' T', M_X9_saveSnapshot k S = some S' ∧ M_X10_saveSnapshot k T = some T' ∧ GIx S' T' V N := by
  obtain ⟨A, hA, J⟩ := G.nw
  obtain ⟨X, eX, hX⟩ := co_copy k S.2.2.1 S.1
  have hcp : M_X10_copy k 1692 1692 (T 1) (T 4) 0 0 = some (cpRow (T 1) (T 4) 0 0) := m_copy hk (a := 0) (b := 0) (by omega) (by omega) (by decide) (by decide) (T 1) (T 4)
  refine ⟨(S.1, S.2.1, X, S.2.2.2.1, S.2.2.2.2.1, 1), va_up (va_up T 0 (upd (upd (T 0) 1 0) 2 1)) 4 (cpRow (T 1) (T 4) 0 0), ?_, ?_, ?_⟩
  · simp only [M_X9_saveSnapshot, M_X9_saveSnapshot_0, lt_eq]
    rw [eX, Option.bind_some]
  · simp only [M_X10_saveSnapshot, M_X10_saveSnapshot_0, lt_eq]
    show ((M_X10_copy k 1692 1692 (T 1) (T 4) 0 0).bind _) = _
    rw [hcp, Option.bind_some]
    congr 1
    funext j
    by_cases h0 : j = 0
    · subst h0; rfl
    · by_cases h4 : j = 4
      · subst h4; rfl
      · rw [vaN _ _ h0, vaN _ _ h4, vaN _ _ h0, vaN _ _ h4, vaN _ _ h0]
  · refine GIx.ofs (nw := ⟨A, hA, J.frame rfl rfl⟩) (ti := G.ti.frame rfl rfl rfl) (xi := G.xi.frame rfl rfl) (si := Or.inr ⟨rfl, rfl, A, hA, ?_⟩) (hi := G.hi.frame rfl rfl)
    refine J.cong hX (rowS_gs _) (fun j hj => ?_)
    show cpRow (T 1) (T 4) 0 0 j = T 1 j
    have := cpRow_in (T 1) (T 4) 0 0 hj
    rw [Nat.mul_zero, Nat.zero_add] at this
    exact this
theorem hi_clear {N : Nat} {V : Nat × Int32 × Int32 × (Nat → VV)} {T T' : VV} (h : HIx N V T) (h0 : T' 0 0 = 0) : HIx N (V.1, 0, V.2.2) T' := by
  obtain ⟨cnt, nxt, a1, a2, a3, a4, a5, a6, a7, a8⟩ := h
  exact ⟨0, nxt, rfl, a2, h0, by decide, a5, a6, a7, fun j hj => absurd hj (Nat.not_lt_zero j)⟩
theorem n_restore (G : GIx S T V N) (hk : 20000 ≤ k) : ∃ v S' V' T', M_X9_restoreSnapshot k S V = some (v, S', V') ∧ M_X10_restoreSnapshot k T = some (v, T') ∧ GIx S' T' V' N := by
  obtain ⟨A, hA, J⟩ := G.nw
  simp only [M_X9_restoreSnapshot, M_X9_restoreSnapshot_0, M_X10_restoreSnapshot, M_X10_restoreSnapshot_0, M_X2_clear, M_X2_clear_0, lt_eq]
  have e2 : va_up T 0 (upd (T 0) 1 0) 0 2 = T 0 2 := rfl
  rw [e2]
  rcases G.si with ⟨h1, h2⟩ | ⟨h1, h2, B, hB, JB⟩
  · rw [if_pos h1, if_pos h2]
    exact ⟨0, S, V, _, rfl, rfl, G.frame (tf_th T 0)⟩
  · have g1 : ¬ S.2.2.2.2.2 = 0 := by rw [h1]; decide
    have g2 : ¬ T 0 2 = 0 := by rw [h2]; decide
    obtain ⟨X, eX, hX⟩ := co_copy k S.1 S.2.2.1
    have hcp : M_X10_copy k 1692 1692 (T 4) (T 1) 0 0 = some (cpRow (T 4) (T 1) 0 0) := m_copy hk (a := 0) (b := 0) (by omega) (by omega) (by decide) (by decide) (T 4) (T 1)
    rw [if_neg g1, if_neg g2, eX, Option.bind_some, Option.bind_some]
    refine ⟨1, (X, S.2), (V.1, 0, V.2.2), va_up (va_up T 0 (upd (upd (T 0) 1 0) 0 0)) 1 (cpRow (T 4) (T 1) 0 0), rfl, ?_, ?_⟩
    · show ((M_X10_copy k 1692 1692 (T 4) (T 1) 0 0).bind _) = _
      rw [hcp, Option.bind_some]
      congr 2
      funext j
      by_cases h0 : j = 0
      · subst h0; rfl
      · by_cases h4 : j = 1
        · subst h4; rfl
        · rw [vaN _ _ h0, vaN _ _ h4, vaN _ _ h0, vaN _ _ h4, vaN _ _ h0]
    · refine GIx.ofs (nw := ⟨B, hB, ?_⟩) (ti := G.ti.frame rfl rfl rfl) (xi := G.xi.frame rfl rfl) (si := Or.inr ⟨h1, h2, B, hB, JB⟩) (hi := hi_clear G.hi rfl)
      refine JB.cong hX (gs_frame J.gs rfl) (fun j hj => ?_)
      show cpRow (T 4) (T 1) 0 0 j = T 4 j
      have := cpRow_in (T 4) (T 1) 0 0 hj
      rw [Nat.mul_zero, Nat.zero_add] at this
      exact this
end OPS
