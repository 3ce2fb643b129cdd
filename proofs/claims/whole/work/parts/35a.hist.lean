-- ===== the whole state of both sides =====
def TF (T T' : VV) : Prop := (T' 1 = T 1) ∧ (T' 4 = T 4) ∧ (T' 5 = T 5) ∧ (T' 7 = T 7) ∧ (T' 8 = T 8) ∧ (T' 0 0 = T 0 0) ∧ (T' 0 2 = T 0 2) ∧ (T' 0 3 = T 0 3) ∧ (T' 0 5 = T 0 5) ∧ (T' 0 6 = T 0 6) ∧ (T' 0 13 = T 0 13)
theorem TF.r1 {T T' : VV} (R__ : TF T T') : T' 1 = T 1 := R__.1
theorem TF.r4 {T T' : VV} (R__ : TF T T') : T' 4 = T 4 := R__.2.1
theorem TF.r5 {T T' : VV} (R__ : TF T T') : T' 5 = T 5 := R__.2.2.1
theorem TF.r7 {T T' : VV} (R__ : TF T T') : T' 7 = T 7 := R__.2.2.2.1
theorem TF.r8 {T T' : VV} (R__ : TF T T') : T' 8 = T 8 := R__.2.2.2.2.1
theorem TF.s0 {T T' : VV} (R__ : TF T T') : T' 0 0 = T 0 0 := R__.2.2.2.2.2.1
theorem TF.s2 {T T' : VV} (R__ : TF T T') : T' 0 2 = T 0 2 := R__.2.2.2.2.2.2.1
theorem TF.s3 {T T' : VV} (R__ : TF T T') : T' 0 3 = T 0 3 := R__.2.2.2.2.2.2.2.1
theorem TF.s5 {T T' : VV} (R__ : TF T T') : T' 0 5 = T 0 5 := R__.2.2.2.2.2.2.2.2.1
theorem TF.s6 {T T' : VV} (R__ : TF T T') : T' 0 6 = T 0 6 := R__.2.2.2.2.2.2.2.2.2.1
theorem TF.s13 {T T' : VV} (R__ : TF T T') : T' 0 13 = T 0 13 := R__.2.2.2.2.2.2.2.2.2.2
theorem TF.ofs {T T' : VV} (r1 : T' 1 = T 1) (r4 : T' 4 = T 4) (r5 : T' 5 = T 5) (r7 : T' 7 = T 7) (r8 : T' 8 = T 8) (s0 : T' 0 0 = T 0 0) (s2 : T' 0 2 = T 0 2) (s3 : T' 0 3 = T 0 3) (s5 : T' 0 5 = T 0 5) (s6 : T' 0 6 = T 0 6) (s13 : T' 0 13 = T 0 13) : TF T T' := ⟨r1, r4, r5, r7, r8, s0, s2, s3, s5, s6, s13⟩
theorem TF.refl (T : VV) : TF T T := ⟨rfl, rfl, rfl, rfl, rfl, rfl, rfl, rfl, rfl, rfl, rfl⟩
theorem TF.trans {T T' T'' : VV} (h : TF T T') (g : TF T' T'') : TF T T'' := ⟨g.r1.trans h.r1, g.r4.trans h.r4, g.r5.trans h.r5, g.r7.trans h.r7, g.r8.trans h.r8, g.s0.trans h.s0, g.s2.trans h.s2, g.s3.trans h.s3, g.s5.trans h.s5, g.s6.trans h.s6, g.s13.trans h.s13⟩
def hix (nxt j : Nat) : Nat := (nxt + 9 - j) % 10
def HIx (N : Nat) (V : Nat × Int32 × Int32 × (Nat → VV)) (T : VV) : Prop := ∃ cnt nxt, V.2.1 = nI cnt ∧ V.2.2.1 = nI nxt ∧ T 0 0 = nI cnt ∧ cnt ≤ 10 ∧ nxt ≤ 9 ∧ nxt ≤ V.1 ∧ V.1 ≤ 10 ∧ ∀ j, j < cnt → hix nxt j < V.1 ∧ ∃ A, A.t ≤ 9999 ∧ JR (V.2.2.2 (hix nxt j)) (rowS (fun c => T 5 (1692 * (cnt - 1 - j) + c))) 1 A N
def SIx (N : Nat) (P : VV) (hs : Int32) (T : VV) : Prop := (hs = 0 ∧ T 0 2 = 0) ∨ (hs = 1 ∧ T 0 2 = 1 ∧ ∃ A, A.t ≤ 9999 ∧ JR P (rowS (T 4)) 1 A N)
def TIx (K T : VV) : Prop := ∃ b, b ≤ 700 ∧ K 0 0 = nI b ∧ T 0 6 = nI b ∧ (∀ i, i < b → K 1 i = T 8 i) ∧ K 0 2 = T 0 13
def XIx (X T : VV) : Prop := ∃ n, n ≤ 428 ∧ X 0 0 = nI n ∧ T 0 5 = nI n ∧ ∀ i, i < n → X 1 i = T 7 i
def GIx (S : VV × VV × VV × VV × VV × Int32) (T : VV) (V : Nat × Int32 × Int32 × (Nat → VV)) (N : Nat) : Prop := (∃ A, A.t ≤ 9999 ∧ JR S.1 T 1 A N) ∧ (TIx S.2.2.2.1 T) ∧ (XIx S.2.2.2.2.1 T) ∧ (SIx N S.2.2.1 S.2.2.2.2.2 T) ∧ (HIx N V T)
theorem GIx.nw {S : VV × VV × VV × VV × VV × Int32} {T : VV} {V : Nat × Int32 × Int32 × (Nat → VV)} {N : Nat} (R__ : GIx S T V N) : ∃ A, A.t ≤ 9999 ∧ JR S.1 T 1 A N := R__.1
theorem GIx.ti {S : VV × VV × VV × VV × VV × Int32} {T : VV} {V : Nat × Int32 × Int32 × (Nat → VV)} {N : Nat} (R__ : GIx S T V N) : TIx S.2.2.2.1 T := R__.2.1
theorem GIx.xi {S : VV × VV × VV × VV × VV × Int32} {T : VV} {V : Nat × Int32 × Int32 × (Nat → VV)} {N : Nat} (R__ : GIx S T V N) : XIx S.2.2.2.2.1 T := R__.2.2.1
theorem GIx.si {S : VV × VV × VV × VV × VV × Int32} {T : VV} {V : Nat × Int32 × Int32 × (Nat → VV)} {N : Nat} (R__ : GIx S T V N) : SIx N S.2.2.1 S.2.2.2.2.2 T := R__.2.2.2.1
theorem GIx.hi {S : VV × VV × VV × VV × VV × Int32} {T : VV} {V : Nat × Int32 × Int32 × (Nat → VV)} {N : Nat} (R__ : GIx S T V N) : HIx N V T := R__.2.2.2.2
theorem GIx.ofs {S : VV × VV × VV × VV × VV × Int32} {T : VV} {V : Nat × Int32 × Int32 × (Nat → VV)} {N : Nat} (nw : ∃ A, A.t ≤ 9999 ∧ JR S.1 T 1 A N) (ti : TIx S.2.2.2.1 T) (xi : XIx S.2.2.2.2.1 T) (si : SIx N S.2.2.1 S.2.2.2.2.2 T) (hi : HIx N V T) : GIx S T V N := ⟨nw, ti, xi, si, hi⟩
theorem gs_of {T : VV} (h : T 0 3 = 1) : GS T 1 := ⟨by unfold gsel; rw [h]; decide, rfl⟩
theorem JR.gs {F S : VV} {g : Nat} {A : AF} {N : Nat} (J : JR F S g A N) : GS S g := by
  obtain ⟨fg, mk, ks, ks', tk, tkt, R, M, I, hN⟩ := J
  exact M.gs
theorem AgF.refl (F : VV) : AgF F F := fun _ _ _ => rfl
theorem HIx.frame {N : Nat} {V : Nat × Int32 × Int32 × (Nat → VV)} {T T' : VV} (h : HIx N V T) (h0 : T' 0 0 = T 0 0) (h5 : T' 5 = T 5) : HIx N V T' := by
  obtain ⟨cnt, nxt, a1, a2, a3, a4, a5, a6, a7, a8⟩ := h
  exact ⟨cnt, nxt, a1, a2, h0.trans a3, a4, a5, a6, a7, fun j hj => by rw [h5]; exact a8 j hj⟩
theorem SIx.frame {N : Nat} {P : VV} {hs : Int32} {T T' : VV} (h : SIx N P hs T) (h2 : T' 0 2 = T 0 2) (h4 : T' 4 = T 4) : SIx N P hs T' := by
  unfold SIx at h ⊢
  rw [h2, h4]
  exact h
theorem TIx.frame {K T T' : VV} (h : TIx K T) (h6 : T' 0 6 = T 0 6) (h8 : T' 8 = T 8) (h13 : T' 0 13 = T 0 13) : TIx K T' := by
  unfold TIx at h ⊢
  rw [h6, h8, h13]
  exact h
theorem XIx.frame {X T T' : VV} (h : XIx X T) (h5 : T' 0 5 = T 0 5) (h7 : T' 7 = T 7) : XIx X T' := by
  unfold XIx at h ⊢
  rw [h5, h7]
  exact h
theorem gs_frame {T T' : VV} (h : GS T 1) (h3 : T' 0 3 = T 0 3) : GS T' 1 := ⟨by
  have := h.sel
  unfold gsel at this ⊢
  rw [h3]
  exact this, rfl⟩
theorem JR.frame {F T T' : VV} {A : AF} {N : Nat} (J : JR F T 1 A N) (h3 : T' 0 3 = T 0 3) (h1 : T' 1 = T 1) : JR F T' 1 A N := J.cong (AgF.refl F) (gs_frame J.gs h3) (fun j _ => by rw [h1])
theorem GIx.frame {S : VV × VV × VV × VV × VV × Int32} {T T' : VV} {V : Nat × Int32 × Int32 × (Nat → VV)} {N : Nat} (G : GIx S T V N) (f : TF T T') : GIx S T' V N := by
  obtain ⟨A, hA, J⟩ := G.nw
  exact GIx.ofs (nw := ⟨A, hA, J.frame f.s3 f.r1⟩) (ti := G.ti.frame f.s6 f.r8 f.s13) (xi := G.xi.frame f.s5 f.r7) (si := G.si.frame f.s2 f.r4) (hi := G.hi.frame f.s0 f.r5)
theorem HIx.mono {N N' : Nat} {V : Nat × Int32 × Int32 × (Nat → VV)} {T : VV} (h : HIx N V T) (hN : N ≤ N') : HIx N' V T := by
  obtain ⟨cnt, nxt, a1, a2, a3, a4, a5, a6, a7, a8⟩ := h
  refine ⟨cnt, nxt, a1, a2, a3, a4, a5, a6, a7, fun j hj => ⟨(a8 j hj).1, ?_⟩⟩
  obtain ⟨A, hA, J⟩ := (a8 j hj).2
  exact ⟨A, hA, J.mono hN⟩
theorem SIx.mono {N N' : Nat} {P : VV} {hs : Int32} {T : VV} (h : SIx N P hs T) (hN : N ≤ N') : SIx N' P hs T := by
  rcases h with h | ⟨h1, h2, A, hA, J⟩
  · exact Or.inl h
  · exact Or.inr ⟨h1, h2, A, hA, J.mono hN⟩
theorem GIx.mono {S : VV × VV × VV × VV × VV × Int32} {T : VV} {V : Nat × Int32 × Int32 × (Nat → VV)} {N N' : Nat} (G : GIx S T V N) (hN : N ≤ N') : GIx S T V N' := by
  obtain ⟨A, hA, J⟩ := G.nw
  exact GIx.ofs (nw := ⟨A, hA, J.mono hN⟩) (ti := G.ti) (xi := G.xi) (si := G.si.mono hN) (hi := G.hi.mono hN)
-- the reference's record
def shF (O : Nat → Int32) : Nat → Nat → Int32
  | 0 => O
  | i + 1 => cpRow (shF O i) (shF O i) (i + 1) i
theorem shF_row (O : Nat → Int32) : ∀ i r c, c < 1692 → shF O i (1692 * r + c) = if r < i then O (1692 * (r + 1) + c) else O (1692 * r + c)
  | 0, r, c, hc => by rw [if_neg (by omega)]; rfl
  | i + 1, r, c, hc => by
    show cpRow (shF O i) (shF O i) (i + 1) i (1692 * r + c) = _
    by_cases e : r = i
    · subst e
      rw [cpRow_in _ _ _ _ hc, shF_row O r (r + 1) c hc, if_neg (by omega), if_pos (by omega)]
    · rw [cpRow_out _ _ _ _ (by omega), shF_row O i r c hc]
      by_cases h : r < i
      · rw [if_pos h, if_pos (by omega)]
      · rw [if_neg h, if_neg (by omega)]
theorem ro_rec48 {k : Nat} (hk : 20000 ≤ k) {S : VV} {c : Nat} (hc : S 0 0 = nI c) (h9 : c ≤ 9) : M_X10_record_48 k S = some (va_up (va_up S 5 (cpRow (S 1) (S 5) 0 c)) 0 (upd (S 0) 0 (nI (c + 1)))) := by
  simp only [M_X10_record_48, lt_eq]
  rw [hc, show (0 : Int32) = nI 0 from rfl, m_copy hk (by omega) (by omega) (by decide) (by decide), Option.bind_some]
  have h2 : va_up S 5 (cpRow (S 1) (S 5) 0 c) 0 0 = nI c := hc
  rw [h2, nI_1]
  rfl
theorem ro_record {k : Nat} (hk : 20000 ≤ k) {T : VV} {cnt : Nat} (hc : T 0 0 = nI cnt) (h10 : cnt ≤ 10) : ∃ T' cnt', M_X10_record k T = some T' ∧ cnt' = min (cnt + 1) 10 ∧ T' 0 0 = nI cnt' ∧ (∀ j, j ≠ 0 → j ≠ 5 → T' j = T j) ∧ (∀ c, c ≠ 0 → T' 0 c = T 0 c) ∧ (∀ c, c < 1692 → T' 5 (1692 * (cnt' - 1) + c) = T 1 c) ∧ ∀ j c, j + 1 < cnt' → c < 1692 → T' 5 (1692 * (cnt' - 1 - (j + 1)) + c) = T 5 (1692 * (cnt - 1 - j) + c) := by
  simp only [M_X10_record, M_X10_record_0]
  rw [hc]
  by_cases h : cnt = 10
  · subst h
    rw [if_pos (by rfl)]
    have key := loop_st0 (fun n i => M_X10_record_11 k n (nI (i + 1)) (va_up T 5 (shF (T 5) i))) 9 (M_X10_record_48 k (va_up (va_up T 5 (shF (T 5) 9)) 0 (upd (T 0) 0 (nI 9)))) (fun n i hi => by
      have h0 : ¬ (10 : Int32) ≤ nI (i + 1) := nI_ge (a := i + 1) (b := 10) (by omega) (by decide)
      simp only [M_X10_record_11, lt_eq]
      rw [if_neg h0, show (1 : Int32) = nI 1 from rfl, nI_sub (by omega), show i + 1 - 1 = i by omega, m_copy_same hk (by omega) (by omega) (by omega) (by decide), Option.bind_some, va_up_up, nI_add]
      rfl) (fun n => by
      simp only [M_X10_record_11, lt_eq]
      rw [show nI (9 + 1) = (10 : Int32) from rfl, if_pos (Int32.le_refl _)]
      have h2 : va_up T 5 (shF (T 5) 9) 0 0 = nI 10 := hc
      rw [h2]
      rfl) (fuel := k) (by omega)
    rw [show va_up T 5 (shF (T 5) 0) = T from va_same T 5] at key
    have key : M_X10_record_11 k k 1 T = _ := key
    refine ⟨_, 10, key.trans (ro_rec48 hk (c := 9) rfl (by decide)), rfl, rfl, ?_, ?_, ?_, ?_⟩
    · intro j h0 h5
      rw [vaN _ _ h0, vaN _ _ h5, vaN _ _ h0, vaN _ _ h5]
    · intro c h0
      show upd (upd (T 0) 0 (nI 9)) 0 (nI 10) c = T 0 c
      rw [upd_ne _ _ h0, upd_ne _ _ h0]
    · intro c hc
      show cpRow (T 1) (shF (T 5) 9) 0 9 (1692 * 9 + c) = T 1 c
      rw [cpRow_in _ _ _ _ hc, Nat.mul_zero, Nat.zero_add]
    · intro j c hj hc
      show cpRow (T 1) (shF (T 5) 9) 0 9 (1692 * (10 - 1 - (j + 1)) + c) = T 5 (1692 * (10 - 1 - j) + c)
      rw [cpRow_out _ _ _ _ (by omega), shF_row _ _ _ _ hc, if_pos (by omega), show 10 - 1 - (j + 1) + 1 = 10 - 1 - j by omega]
  · have hne : ¬ nI cnt = 10 := fun e => h ((nI_eq (by omega) (by decide)).mp (show nI cnt = nI 10 from e))
    rw [if_neg hne]
    refine ⟨_, cnt + 1, ro_rec48 hk hc (by omega), by omega, rfl, ?_, ?_, ?_, ?_⟩
    · intro j h0 h5
      rw [vaN _ _ h0, vaN _ _ h5]
    · intro c h0
      exact upd_ne _ _ h0
    · intro c hc
      show cpRow (T 1) (T 5) 0 cnt (1692 * (cnt + 1 - 1) + c) = T 1 c
      rw [show cnt + 1 - 1 = cnt by omega, cpRow_in _ _ _ _ hc, Nat.mul_zero, Nat.zero_add]
    · intro j c hj hc
      show cpRow (T 1) (T 5) 0 cnt (1692 * (cnt + 1 - 1 - (j + 1)) + c) = T 5 (1692 * (cnt - 1 - j) + c)
      rw [show cnt + 1 - 1 - (j + 1) = cnt - 1 - j by omega, cpRow_out _ _ _ _ (by omega)]
theorem hix_lt (nxt j : Nat) : hix nxt j < 10 := Nat.mod_lt _ (by decide)
theorem mod10 {a : Nat} (ha : a < 2 ^ 31) : nI a - nI a / (10 : Int32) * (10 : Int32) = nI (a % 10) := nI_mod ha (by decide)
theorem gi_record {k N : Nat} {V : Nat × Int32 × Int32 × (Nat → VV)} {F T : VV} {A : AF} (h : HIx N V T) (J : JR F T 1 A N) (hA : A.t ≤ 9999) (hk : 20000 ≤ k) : ∃ V' T', Hkeep k V F = some V' ∧ M_X10_record k T = some T' ∧ HIx N V' T' ∧ (∀ j, j ≠ 0 → j ≠ 5 → T' j = T j) ∧ ∀ c, c ≠ 0 → T' 0 c = T 0 c := by
  obtain ⟨cnt, nxt, a1, a2, a3, a4, a5, a6, a7, a8⟩ := h
  obtain ⟨T', cnt', e1, ec, c0, f1, f2, r0, r1⟩ := ro_record hk a3 a4
  have hmx : (if (10 : Int32) < V.2.1 + 1 then (10 : Int32) else V.2.1 + 1) = nI cnt' := by
    rw [a1, nI_1]
    by_cases h : 10 < cnt + 1
    · have hl : (10 : Int32) < nI (cnt + 1) := nI_lt (a := 10) h (by omega)
      rw [if_pos hl, ec, Nat.min_eq_right (by omega)]; rfl
    · have hl : ¬ (10 : Int32) < nI (cnt + 1) := nI_nlt (b := cnt + 1) (a := 10) (by omega) (by decide)
      rw [if_neg hl, ec, Nat.min_eq_left (by omega)]
  have hnx : V.2.2.1 + 1 - (V.2.2.1 + 1) / 10 * 10 = nI ((nxt + 1) % 10) := by
    rw [a2, nI_1, mod10 (by omega)]
  have build : ∀ (h' : Nat) (X : VV), AgF X F → nxt < h' → V.1 ≤ h' → h' ≤ 10 → ((nxt + 1) % 10 ≤ h') → HIx N (h', nI cnt', nI ((nxt + 1) % 10), va_up V.2.2.2 nxt X) T' := by
    intro h' X hX hn hV h10 hm
    refine ⟨cnt', (nxt + 1) % 10, rfl, rfl, c0, by omega, by omega, hm, h10, fun j hj => ?_⟩
    by_cases ej : j = 0
    · subst ej
      have e : hix ((nxt + 1) % 10) 0 = nxt := by unfold hix; omega
      rw [e]
      refine ⟨hn, A, hA, ?_⟩
      show JR (va_up V.2.2.2 nxt X nxt) _ 1 A N
      rw [va_up_self]
      exact J.cong hX (rowS_gs _) (fun c hc => r0 c hc)
    · obtain ⟨i, rfl⟩ : ∃ i, j = i + 1 := ⟨j - 1, by omega⟩
      have e : hix ((nxt + 1) % 10) (i + 1) = hix nxt i := by unfold hix; omega
      have hne : hix nxt i ≠ nxt := by unfold hix; omega
      rw [e]
      obtain ⟨b1, B, hB, JB⟩ := a8 i (by omega)
      refine ⟨by show hix nxt i < h'; omega, B, hB, ?_⟩
      show JR (va_up V.2.2.2 nxt X (hix nxt i)) _ 1 B N
      rw [va_up_ne _ _ hne]
      exact JB.cong (AgF.refl _) (rowS_gs _) (fun c hc => r1 i c hj hc)
  have hcl : V.2.2.1.toNatClampNeg = nxt := by rw [a2, nI_clamp (by omega)]
  have g0 : ¬ V.2.2.1 < 0 := by rw [a2]; exact nI_pos (by omega)
  have g1 : ¬ (10 : Int32) ≤ V.2.2.1 := by rw [a2]; exact nI_ge (b := 10) (by omega) (by decide)
  unfold Hkeep
  rw [if_neg g0, if_neg g1, hcl, hmx, hnx]
  by_cases hlt : nxt < V.1
  · obtain ⟨X, eX, hX⟩ := co_copy k (V.2.2.2 nxt) F
    rw [if_pos hlt, eX, Option.bind_some]
    exact ⟨_, T', rfl, e1, build V.1 X hX hlt (Nat.le_refl _) a7 (by omega), f1, f2⟩
  · have he : nxt = V.1 := by omega
    obtain ⟨X, eX, hX⟩ := co_copy k (fun _ _ => 0) F
    rw [if_neg hlt, if_pos he, eX, Option.bind_some]
    have := build (V.1 + 1) X hX (by omega) (by omega) (by omega) (by omega)
    rw [he] at this
    exact ⟨_, T', by rw [he], e1, this, f1, f2⟩
