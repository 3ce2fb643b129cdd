-- ===== further operations on both sides =====
section OPS
variable {S : VV × VV × VV × VV × VV × Int32} {T : VV} {V : Nat × Int32 × Int32 × (Nat → VV)} {N k : Nat}
theorem JR.up {F U : VV} {g : Nat} {A : AF} (J : JR F U g A N) (hk : 20000 ≤ k) {j : Nat} (hj : j < A.W) : M_X0_isUp k F (nI j) = some (b1 (A.up j)) ∧ M_X10_isUp k U (nI j) = some (b1 (A.up j)) := by
  obtain ⟨fg, mk, ks, ks', tk, tkt, R, M, I, hN⟩ := J
  exact ⟨R.isUp I.li.toAW k hj, M.isUp I.li.toAW k hj⟩
theorem JR.ups {F U : VV} {g : Nat} {A : AF} (J : JR F U g A N) (hk : 20000 ≤ k) : F 0 5 = nI (msk A.up A.W) ∧ M_X10_upWorkers k U = some (nI (msk A.up A.W)) := by
  obtain ⟨fg, mk, ks, ks', tk, tkt, R, M, I, hN⟩ := J
  exact ⟨R.s5, rq_upWorkers M I.li.toAW hk⟩
theorem JR.ten {F U : VV} {g : Nat} {A : AF} (J : JR F U g A N) (k : Nat) {t : Nat} (ht : t < A.m) : M_X0_shardOf k F (nI t) = some (nI (A.sh t)) ∧ M_X0_isQuarantined k F (nI t) = some (b1 (A.qe t != -1)) ∧ M_X6_at k 12 3 36 (F 3) (nI t) 1 = some (A.qe t) ∧ M_X10_ofTenant k U (nI t) 0 = some (nI (A.sh t)) ∧ M_X10_ofTenant k U (nI t) 1 = some (A.qe t) ∧ M_X10_isOpen k U (nI t) = some (b1 (A.qe t == -1)) := by
  obtain ⟨fg, mk, ks, ks', tk, tkt, R, M, I, hN⟩ := J
  have w := I.li.toAW
  exact ⟨R.shard w k ht, R.quar w k ht, R.qend w k ht (x := 1) rfl, (M.ofT w k ht).1, (M.ofT w k ht).2.1, M.isOpen w k ht⟩
theorem JR.size {F U : VV} {g : Nat} {A : AF} (J : JR F U g A N) : F 0 0 = nI A.W ∧ F 0 1 = nI A.Z ∧ U g 1 = nI A.Z ∧ (∀ k, M_X10_workers k U = some (nI A.W)) ∧ ∀ k, M_X0_allWorkers k F = some (nI (2 ^ A.W - 1)) := by
  obtain ⟨fg, mk, ks, ks', tk, tkt, R, M, I, hN⟩ := J
  exact ⟨R.s0, R.s1, M.s1, fun k => M.workers k, fun k => cq_allWorkers R I.li.toAW k⟩
theorem JR.grt {F U : VV} {g : Nat} {A : AF} (J : JR F U g A N) (hk : 20000 ≤ k) : M_X0_greatestShared k F = some (nI (mxT (shV A) A.m)) ∧ M_X10_greatestNow k U = some (nI (mxT (shV A) A.m)) := by
  obtain ⟨fg, mk, ks, ks', tk, tkt, R, M, I, hN⟩ := J
  exact ⟨cq_greatest R I.li.toAW hk, rq_greatest M I.li.toAW hk⟩
theorem JR.sets {F U : VV} {g : Nat} {A : AF} (J : JR F U g A N) (k : Nat) {i : Nat} (hi : i < 5) : M_X5_at k 5 (F 1) (nI i) = some (nI (A.st i)) ∧ M_X10_told k U (nI i) = some (nI (A.st i)) := by
  obtain ⟨fg, mk, ks, ks', tk, tkt, R, M, I, hN⟩ := J
  exact ⟨R.set k i rfl hi, M.told k i rfl hi⟩
theorem o_kill (G : GIx S T V N) (hN : N + 1000 < 2 ^ 31) (hk : 20000 ≤ k) (p : Int32) : OPV id [0, 1] (M_X9_kill k S V p) (M_X10_kill k T p) (N + 60) := by
  obtain ⟨A, hA, J⟩ := G.nw
  have J0 : JR S.1 (th T 0) 1 A N := J.frame rfl rfl
  have w := J.aw
  have hW := w.w12
  simp only [M_X9_kill, M_X9_kill_0, M_X10_kill, M_X10_kill_0, lt_eq]
  rw [need_w2 J k p, is_w2 J0 k p]
  rcases rng2 k p (n := A.W) (by omega) with ⟨j, hj, rfl, e1, e2⟩ | ⟨e1, e2⟩
  · rw [e1, e2, Option.bind_some, Option.bind_some, if_pos rfl, if_neg (show ¬ (1 : Int32) = 0 by decide), (J.up hk hj).1, (J0.up hk hj).2, Option.bind_some, Option.bind_some, ite_b1, ite_b1]
    by_cases hu : A.up j = true
    · rw [if_pos hu, if_pos hu]
      obtain ⟨V', T1, e5, e6, J1, fin⟩ := rec_all G hA J hk
      obtain ⟨F1, F', S1, S', A', a1, a2, a3, a4, J2, tA, fr⟩ := jr_kill J1 hN hk hj
      obtain ⟨G', th'⟩ := fin F' S' A' (N + 60) (fun i h1 _ => fr i h1) (by rw [tA]; exact hA) J2 (by omega)
      have b := bc_msk k A'.up J2.aw.w12
      rw [e5, Option.bind_some, e6, Option.bind_some, a1, Option.bind_some, a2, Option.bind_some, a3, Option.bind_some, a4, Option.bind_some, (J2.ups hk).1, (J2.ups hk).2, Option.bind_some, b, Option.bind_some, Option.bind_some]
      exact ⟨0, _, _, (F', S.2), V', S', rfl, rfl, G', th', by simp, fun _ => rfl⟩
    · rw [if_neg hu, if_neg hu]
      exact (OPV.same G (tf_th T 0) rfl (by simp)).mono (by omega)
  · rw [e1, e2, Option.bind_some, Option.bind_some, if_neg (show ¬ (1 : Int32) = 0 by decide), if_pos rfl]
    exact (OPV.no (T' := th (th T 0) 1) G ((tf_th T 0).trans (tf_th _ 1)) rfl (by simp) (by decide)).mono (by omega)
theorem shr_0 {s w : Nat} (hs : s < 2 ^ 31) (hw : w < 32) : (nI s >>> (nI w &&& 31) = 0) ↔ s < 2 ^ w := by
  rw [sh31 hw, shr_nI hs hw, Nat.shiftRight_eq_div_pow]
  have hd : s / 2 ^ w ≤ s := Nat.div_le_self _ _
  constructor
  · intro e
    by_cases h : s < 2 ^ w
    · exact h
    · have h1 : 1 ≤ s / 2 ^ w := (Nat.one_le_div_iff (Nat.two_pow_pos w)).mpr (by omega)
      exact absurd e (nI_ne0 (by omega) (by omega))
  · intro h
    rw [Nat.div_eq_of_lt h]
    rfl
theorem o_move (G : GIx S T V N) (hk : 20000 ≤ k) (p q : Int32) : OPV id [0, 1, 2] (M_X9_move k S V p q) (M_X10_move k T p q) N := by
  obtain ⟨A, hA, J⟩ := G.nw
  have J0 : JR S.1 (th T 0) 1 A N := J.frame rfl rfl
  have w := J.aw
  have hm := w.m12
  have hW := w.w12
  have hZ := w.zw
  have h4 := w.pw
  have hp2 := Nat.two_pow_pos A.W
  have c1 : Int32.toNatClampNeg 1 = 1 := by decide
  have bad : ∀ y : Int32, y ≠ 0 → y ∈ ([0, 1, 2] : List Int32) → OPV id [0, 1, 2] (some (y, 0, S, V)) (M_X10_move_31 k p q y T) N := fun y hy hm => by
    simp only [M_X10_move_31, lt_eq]
    have c1 : ¬ va_up T 0 (upd (T 0) 1 y) 0 1 = 0 := hy
    rw [if_neg c1]
    exact OPV.no G (tf_th T y) rfl hm hy
  simp only [M_X9_move, M_X9_move_0, M_X10_move, M_X10_move_0, lt_eq]
  rw [need_t2 J k p, is_t2 J k p]
  rcases rng2 k p (n := A.m) (by omega) with ⟨t, ht, rfl, e1, e2⟩ | ⟨e1, e2⟩
  · rw [e1, e2, Option.bind_some, Option.bind_some, if_pos rfl, if_neg (show ¬ (1 : Int32) = 0 by decide)]
    by_cases hq : q < 0
    · rw [if_pos hq, if_pos hq]
      exact bad 2 (by decide) (by simp)
    · rw [if_neg hq, if_neg hq, J.size.2.2.2.2 k, Option.bind_some, J.size.2.2.2.1 k, Option.bind_some]
      obtain ⟨s, hs, rfl⟩ := nI_of hq
      by_cases hsw : s < 2 ^ A.W
      · rw [if_pos (nI_le (by omega) (by omega)), if_pos ((shr_0 hs (by omega)).mpr hsw), bc k (by omega), Option.bind_some, J.size.2.1]
        simp only [M_X10_move_31, lt_eq]
        have c0 : va_up T 0 (upd (T 0) 1 0) 0 1 = 0 := rfl
        have z0 : va_up T 0 (upd (T 0) 1 0) 1 1 = nI A.Z := J0.size.2.2.1
        rw [c0, if_pos rfl, bc k (by omega), Option.bind_some, ifin (i := 1) (x := 1) rfl (by decide), c1, z0]
        have hpc := pcn_le s 12
        by_cases hc : pcn s 12 = A.Z
        · have hI : nI (pcn s 12) = nI A.Z := by rw [hc]
          obtain ⟨V', T1, e5, e6, J1, fin⟩ := rec_all G hA J hk
          have J2 := jr_move J1 ht hsw hc
          obtain ⟨G', th'⟩ := fin _ (va_up T1 1 _) _ N (fun j h1 _ => vaN _ _ h1) (by exact hA) J2 (Nat.le_refl _)
          rw [if_pos hI, if_pos hI, e5, Option.bind_some, e6, Option.bind_some, (J.ten k ht).1, Option.bind_some, (J1.ten k ht).2.2.2.1, Option.bind_some, TT_putI k (r := t) (c := 0) (x := 0) (by omega) (by decide) rfl, Option.bind_some, tenAt k t 0 (x := 0) rfl, Option.bind_some, ifin rfl (by omega), nI_clamp (by omega)]
          exact ⟨0, _, _, _, V', _, rfl, rfl, G', th', by simp, fun _ => rfl⟩
        · have hI : ¬ nI (pcn s 12) = nI A.Z := fun e => hc ((nI_eq (by omega) (by omega)).mp e)
          rw [if_neg hI, if_neg hI]
          exact OPV.same G (tf_th T 0) rfl (by simp)
      · rw [if_neg (nI_ge (by omega) hs), if_neg (fun e => hsw ((shr_0 hs (by omega)).mp e))]
        exact bad 2 (by decide) (by simp)
  · rw [e1, e2, Option.bind_some, Option.bind_some, if_neg (show ¬ (1 : Int32) = 0 by decide), if_pos rfl]
    exact bad 1 (by decide) (by simp)
theorem o_draw (G : GIx S T V N) (hk : 20000 ≤ k) (p : Int32) : OPV f2 [0, 2] (M_X9_draw k S V p) (M_X10_draw k T p) N := by
  obtain ⟨A, hA, J⟩ := G.nw
  simp only [M_X9_draw, M_X9_draw_0, M_X9_needSeed, M_X9_needSeed_0, M_X10_draw, M_X10_draw_0, lt_eq]
  by_cases hp : 0 ≤ p
  · rw [if_pos hp, if_pos hp, Option.bind_some, if_pos rfl]
    obtain ⟨x, hx, rfl⟩ := nI_of (Int32.not_lt.mpr hp)
    obtain ⟨V', T1, e5, e6, J1, fin⟩ := rec_all G hA J hk
    obtain ⟨F', S', a1, a2, J2, fr⟩ := jr_draw J1 hk hx
    obtain ⟨G', th'⟩ := fin F' S' _ N (fun j h1 _ => fr j h1) (by exact hA) J2 (Nat.le_refl _)
    rw [e5, Option.bind_some, e6, Option.bind_some, a1, Option.bind_some, a2, Option.bind_some, (J2.grt hk).1, (J2.grt hk).2, Option.bind_some, Option.bind_some]
    exact ⟨0, _, _, (F', S.2), V', S', rfl, rfl, G', th', by simp, fun _ => rfl⟩
  · rw [if_neg hp, if_neg hp, Option.bind_some, if_neg (show ¬ (2 : Int32) = 0 by decide)]
    exact OPV.no (T' := th (th T 0) 1) G ((tf_th T 0).trans (tf_th _ 1)) rfl (by simp) (by decide)
theorem o_release (G : GIx S T V N) (hk : 20000 ≤ k) (p : Int32) : OPV id [0, 1] (M_X9_release k S V p) (M_X10_release k T p) N := by
  obtain ⟨A, hA, J⟩ := G.nw
  have J0 : JR S.1 (th T 0) 1 A N := J.frame rfl rfl
  have w := J.aw
  have hm := w.m12
  have c4 : Int32.toNatClampNeg 4 = 4 := by decide
  simp only [M_X9_release, M_X9_release_0, M_X10_release, M_X10_release_0, lt_eq]
  rw [need_t2 J k p, is_t2 J0 k p]
  rcases rng2 k p (n := A.m) (by omega) with ⟨t, ht, rfl, e1, e2⟩ | ⟨e1, e2⟩
  · rw [e1, e2, Option.bind_some, Option.bind_some, if_pos rfl, if_neg (show ¬ (1 : Int32) = 0 by decide), (J.ten k ht).2.1, (J0.ten k ht).2.2.2.2.2, Option.bind_some, Option.bind_some, ite_b1, ite_b1]
    by_cases hq : A.qe t = -1
    · have h1 : ¬ (A.qe t != -1) = true := by rw [hq]; decide
      have h2 : (A.qe t == -1) = true := by rw [hq]; decide
      rw [if_neg h1, if_pos h2]
      exact OPV.same G (tf_th T 0) rfl (by simp)
    · have h1 : (A.qe t != -1) = true := bne_iff_ne.mpr hq
      have h2 : ¬ (A.qe t == -1) = true := fun e => hq (beq_iff_eq.mp e)
      rw [if_pos h1, if_neg h2]
      obtain ⟨V', T1, e5, e6, J1, fin⟩ := rec_all G hA J hk
      have J2 := jr_release J1 ht
      obtain ⟨G', th'⟩ := fin _ (va_up T1 1 _) _ N (fun j h1 _ => vaN _ _ h1) (by exact hA) J2 (Nat.le_refl _)
      rw [e5, Option.bind_some, e6, Option.bind_some, (J.ten k ht).2.2.1, Option.bind_some, (J1.ten k ht).2.2.2.2.1, Option.bind_some, TT_putI k (r := t) (c := 1) (x := 1) (by omega) (by decide) rfl, Option.bind_some, ifin (i := 4) (x := 4) rfl (by decide), c4, tenAt k t 1 (x := 1) rfl, Option.bind_some, ifin rfl (by omega), nI_clamp (by omega), J.time.1, J1.time.2]
      exact ⟨0, _, _, _, V', _, rfl, rfl, G', th', by simp, fun _ => rfl⟩
  · rw [e1, e2, Option.bind_some, Option.bind_some, if_neg (show ¬ (1 : Int32) = 0 by decide), if_pos rfl]
    exact OPV.no (T' := th (th T 0) 1) G ((tf_th T 0).trans (tf_th _ 1)) rfl (by simp) (by decide)
def loS (j : Nat) : Nat := if j = 1 then 0 else 1
def hiS (j : Nat) : Nat := if j = 0 then 50 else if j = 1 then 5 else if j = 2 then 9 else if j = 3 then 99 else 999
theorem set_lims (k : Nat) {j : Nat} (hj : j < 5) : M_X9_leastSetting k (nI j) = some (nI (loS j)) ∧ M_X9_greatestSetting k (nI j) = some (nI (hiS j)) ∧ M_X10_leastOf k (nI j) = some (nI (loS j)) ∧ M_X10_mostOf k (nI j) = some (nI (hiS j)) := by
  rcases (show j = 0 ∨ j = 1 ∨ j = 2 ∨ j = 3 ∨ j = 4 by omega) with rfl | rfl | rfl | rfl | rfl <;> exact ⟨rfl, rfl, rfl, rfl⟩
theorem rngL (k : Nat) (p : Int32) {a n : Nat} (ha : a < 2 ^ 30) (hn : n < 2 ^ 30) : (∃ j, a ≤ j ∧ j ≤ n ∧ p = nI j ∧ ¬ p < nI a ∧ p ≤ nI n ∧ M_X10_inRange k p (nI a) (nI n) = some 1) ∨ ((p < nI a ∨ (¬ p < nI a ∧ ¬ p ≤ nI n)) ∧ M_X10_inRange k p (nI a) (nI n) = some 0) := by
  simp only [M_X10_inRange, M_X10_inRange_0]
  by_cases hp : p < nI a
  · right; rw [if_pos hp]; exact ⟨Or.inl hp, rfl⟩
  · rw [if_neg hp]
    have h0 : ¬ p < 0 := fun h => hp (by
      rw [Int32.lt_iff_toInt_lt] at h ⊢
      have e0 : (0 : Int32).toInt = 0 := by decide
      have e1 := nI_toInt (n := a) (by omega)
      omega)
    obtain ⟨j, hj, rfl⟩ := nI_of h0
    have haj : a ≤ j := by
      by_cases h : j < a
      · exact absurd (nI_lt h (by omega)) hp
      · omega
    by_cases hl : j ≤ n
    · left
      refine ⟨j, haj, hl, rfl, hp, nI_le hl (by omega), ?_⟩
      rw [if_neg (nI_nlt hl (by omega))]
    · right
      refine ⟨Or.inr ⟨hp, nI_ge (by omega) hj⟩, ?_⟩
      rw [if_pos (nI_lt (by omega) hj)]
theorem o_set (G : GIx S T V N) (hk : 20000 ≤ k) (p q : Int32) : OPV id [0, 1, 2] (M_X9_set k S V p q) (M_X10_set k T p q) N := by
  obtain ⟨A, hA, J⟩ := G.nw
  have bad : ∀ y : Int32, y ≠ 0 → y ∈ ([0, 1, 2] : List Int32) → OPV id [0, 1, 2] (some (y, 0, S, V)) (M_X10_set_34 k p q y T) N := fun y hy hm => by
    simp only [M_X10_set_34, lt_eq]
    have c1 : ¬ va_up T 0 (upd (T 0) 1 y) 0 1 = 0 := hy
    rw [if_neg c1]
    exact OPV.no G (tf_th T y) rfl hm hy
  simp only [M_X9_set, M_X9_set_0, M_X9_needSetting, M_X9_needSetting_0, M_X10_set, M_X10_set_0, lt_eq]
  rcases rng3 k p (n := 5) (by decide) with ⟨j, hj, rfl, g1, g2, e2⟩ | ⟨e1, e2⟩
  · have e2 : M_X10_inRange k (nI j) 0 4 = some 1 := e2
    have g3 : nI j ≤ (4 : Int32) := nI_le (b := 4) (by omega) (by decide)
    obtain ⟨l1, l2, l3, l4⟩ := set_lims k hj
    have hlo : loS j < 2 := by unfold loS; split <;> omega
    have hhi : hiS j < 1000 := by unfold hiS; (repeat' split) <;> omega
    rw [if_neg g1, if_pos g3, Option.bind_some, if_pos rfl, e2, Option.bind_some, if_neg (show ¬ (1 : Int32) = 0 by decide), l1, Option.bind_some, l3, Option.bind_some, l4, Option.bind_some]
    rcases rngL k q (a := loS j) (n := hiS j) (by omega) (by omega) with ⟨v, hv1, hv2, rfl, g4, g5, e4⟩ | ⟨e3, e4⟩
    · rw [if_neg g4, l2, Option.bind_some, if_pos g5, e4, Option.bind_some, if_neg (show ¬ (1 : Int32) = 0 by decide)]
      obtain ⟨V', T1, e5, e6, J1, fin⟩ := rec_all G hA J hk
      have J2 := jr_set J1 hj (v := v) (by omega) (fun e => by
        subst e
        have : hiS 1 = 5 := rfl
        omega)
      obtain ⟨G', th'⟩ := fin _ (va_up T1 1 _) _ N (fun j h1 _ => vaN _ _ h1) (by exact hA) J2 (Nat.le_refl _)
      simp only [M_X10_set_34, lt_eq]
      have c0 : va_up T 0 (upd (T 0) 1 0) 0 1 = 0 := rfl
      have e7 : (5 : Int32) + nI j = nI (5 + j) := by rw [show (5 : Int32) = nI 5 from rfl, nI_add]
      rw [c0, if_pos rfl, e5, Option.bind_some, e6, Option.bind_some, (J.sets k hj).1, Option.bind_some, (J1.sets k hj).2, Option.bind_some, R_putI k hj (by decide), Option.bind_some, e7, ifin rfl (by omega), nI_clamp (by omega)]
      exact ⟨0, _, _, _, V', _, rfl, rfl, G', th', by simp, fun _ => rfl⟩
    · have hno : ∀ X : Option (Int32 × Int32 × (VV × VV × VV × VV × VV × Int32) × (Nat × Int32 × Int32 × (Nat → VV))), (if q < nI (loS j) then some ((2 : Int32), (0 : Int32), S, V) else (M_X9_greatestSetting k (nI j)).bind fun q5 => if q ≤ q5 then X else some (2, 0, S, V)) = some (2, 0, S, V) := fun X => by
        rcases e3 with h | ⟨h1, h2⟩
        · rw [if_pos h]
        · rw [if_neg h1, l2, Option.bind_some, if_neg h2]
      rw [hno, e4, Option.bind_some, if_pos rfl]
      exact bad 2 (by decide) (by simp)
  · have e2 : M_X10_inRange k p 0 4 = some 0 := e2
    have hno : (if p < 0 then some (1 : Int32) else if p ≤ (4 : Int32) then some 0 else some 1) = some 1 := by
      rcases e1 with h | ⟨h1, h2⟩
      · rw [if_pos h]
      · rw [if_neg h1, if_neg (fun h => h2 (by
          have a : (4 : Int32).toInt = 4 := by decide
          have b := nI_toInt (n := 5) (by decide)
          rw [Int32.le_iff_toInt_le] at h
          rw [Int32.lt_iff_toInt_lt]
          omega))]
    rw [hno, Option.bind_some, if_neg (show ¬ (1 : Int32) = 0 by decide), e2, Option.bind_some, if_pos rfl]
    exact bad 1 (by decide) (by simp)
end OPS
