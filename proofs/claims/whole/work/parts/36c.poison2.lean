-- ===== two hundred ticks with a poisoned request =====
theorem msk_or2 (f h : Nat → Bool) (n : Nat) : msk f n ||| msk h n = msk (fun i => f i || h i) n := by
  apply Nat.eq_of_testBit_eq
  intro i
  rw [Nat.testBit_or, msk_bit, msk_bit, msk_bit]
  cases decide (i < n) <;> simp
theorem nI_nn {n : Nat} (h : n < 2 ^ 31) : (0 : Int32) ≤ nI n := by
  rw [← nI_0]
  exact nI_le (Nat.zero_le n) h
def stH (U : VV) (v : Int32) : VV := va_up U 0 (upd (U 0) 4 v)
theorem stH_self (U : VV) : stH U (U 0 4) = U := by
  funext j
  unfold stH
  by_cases h : j = 0
  · subst h
    rw [vaS]
    funext c
    by_cases hc : c = 4
    · subst hc; exact upd_self _ _ _
    · exact upd_ne _ _ hc
  · exact vaN _ _ h
theorem stH_st (U : VV) (a b : Int32) : va_up (stH U a) 0 (upd (stH U a 0) 4 b) = stH U b := by
  funext j
  unfold stH
  by_cases h : j = 0
  · subst h
    rw [vaS, vaS, vaS]
    funext c
    by_cases hc : c = 4
    · subst hc; rw [upd_self, upd_self]
    · rw [upd_ne _ _ hc, upd_ne _ _ hc, upd_ne _ _ hc]
  · rw [vaN _ _ h, vaN _ _ h, vaN _ _ h]
theorem stH_4 (U : VV) (a : Int32) : stH U a 0 4 = a := rfl
theorem JR.putH {D U : VV} {B : AF} {N : Nat} (J : JR D U 3 B N) (v : Int32) : JR D (stH U v) 3 B N := J.cong (AgF.refl D) ⟨by
  have := J.gs.sel
  unfold gsel at this ⊢
  exact this, rfl⟩ (fun _ _ => rfl)
section OPS
variable {S : VV × VV × VV × VV × VV × Int32} {T : VV} {V : Nat × Int32 × Int32 × (Nat → VV)} {N k : Nat}
theorem JR.cuts {D U : VV} {g : Nat} {B : AF} (J : JR D U g B N) (hk : 20000 ≤ k) : M_X0_cutOffMask k D = some (nI (msk (cut B) B.m)) ∧ ∀ o, o < B.m → M_X10_isCutOff k U (nI o) = some (b1 (cut B o)) := by
  obtain ⟨fg, mk, ks, ks', tk, tkt, R, M, I, hN⟩ := J
  exact ⟨cq_cutMask R I.li.toAW hk, fun o ho => rq_isCutOff M I.li.toAW hk ho⟩
theorem JR.tens {D U : VV} {g : Nat} {B : AF} (J : JR D U g B N) (k : Nat) : M_X10_tenants k U = some (nI B.m) := by
  obtain ⟨fg, mk, ks, ks', tk, tkt, R, M, I, hN⟩ := J
  exact M.tenants k
theorem JR.nkills {D U : VV} {g : Nat} {B : AF} (J : JR D U g B N) : ∃ n, n ≤ 360 ∧ D 6 0 = nI n ∧ U g 11 = nI n := by
  obtain ⟨fg, mk, ks, ks', tk, tkt, R, M, I, hN⟩ := J
  exact ⟨ks.length, I.ac.le I.li, R.k0, by rw [M.s11, I.pm.length_eq]⟩
/-- who is cut off behind a tick, noted by the reference -/
theorem poison_in {D U : VV} {B : AF} (J : JR D U 3 B N) (hk : 20000 ≤ k) (κ : Int32 → Int32 → VV → Option (Int32 × VV)) {t i : Nat} (ht : t < B.m) (hi : i < 300) (H : Nat → Bool) (h4 : U 0 4 = nI (msk (fun o => H o && !(o == t)) B.m)) : M_X10_poison_89 k κ k (nI t) (nI i) 0 U = κ (nI t) (nI (i + 1)) (stH U (nI (msk (fun o => (H o || cut B o) && !(o == t)) B.m))) := by
  have hm := J.aw.m12
  have key := loop_st0 (fun n o => M_X10_poison_89 k κ n (nI t) (nI i) (nI o) (stH U (nI (msk (fun x => (H x && !(x == t)) || (decide (x < o) && (cut B x && !(x == t)))) B.m)))) B.m (κ (nI t) (nI (i + 1)) (stH U (nI (msk (fun o => (H o || cut B o) && !(o == t)) B.m)))) (fun n o ho => by
    have Jo := J.putH (nI (msk (fun x => (H x && !(x == t)) || (decide (x < o) && (cut B x && !(x == t)))) B.m))
    have same : (cut B o && !(o == t)) = false → msk (fun x => (H x && !(x == t)) || (decide (x < o) && (cut B x && !(x == t)))) B.m = msk (fun x => (H x && !(x == t)) || (decide (x < o + 1) && (cut B x && !(x == t)))) B.m := fun hc => msk_ext (fun x hx => by
      by_cases e : x = o
      · subst e; rw [hc]; simp
      · have : decide (x < o) = decide (x < o + 1) := by
          by_cases h : x < o
          · rw [decide_eq_true h, decide_eq_true (by omega)]
          · rw [decide_eq_false h, decide_eq_false (by omega)]
        rw [this])
    have more : (cut B o && !(o == t)) = true → msk (fun x => (H x && !(x == t)) || (decide (x < o) && (cut B x && !(x == t)))) B.m ||| 2 ^ o = msk (fun x => (H x && !(x == t)) || (decide (x < o + 1) && (cut B x && !(x == t)))) B.m := fun hc => by
      rw [msk_set ho]
      refine msk_ext (fun x hx => ?_)
      by_cases e : x = o
      · subst e; rw [hc]; simp
      · have : decide (x < o) = decide (x < o + 1) := by
          by_cases h : x < o
          · rw [decide_eq_true h, decide_eq_true (by omega)]
          · rw [decide_eq_false h, decide_eq_false (by omega)]
        rw [this, show (x == o) = false from beq_false_of_ne e, Bool.false_or]
    simp only [M_X10_poison_89, lt_eq]
    rw [Jo.tens k, Option.bind_some, if_neg (nI_ge ho (by omega)), stH_4, Int32.or_zero, nI_1]
    by_cases e : o = t
    · rw [if_pos (by rw [e]), stH_st, same (by rw [e]; simp)]
    · have hne : ¬ nI o = nI t := fun h => e ((nI_eq (by omega) (by omega)).mp h)
      rw [if_neg hne, (Jo.cuts hk).2 o ho, Option.bind_some, ite_b1, bit_nI (by omega), or_nI]
      by_cases hc : cut B o = true
      · rw [if_pos hc, stH_st, more (by rw [hc, show (o == t) = false from beq_false_of_ne e]; rfl)]
      · have hc2 : cut B o = false := by simpa using hc
        rw [if_neg hc, stH_st, same (by rw [hc2]; rfl)]) (fun n => by
    have Jo := J.putH (nI (msk (fun x => (H x && !(x == t)) || (decide (x < B.m) && (cut B x && !(x == t)))) B.m))
    simp only [M_X10_poison_89]
    rw [Jo.tens k, Option.bind_some, if_pos (nI_le (Nat.le_refl _) (by omega)), nI_1]
    congr 3
    refine msk_ext (fun x hx => ?_)
    rw [decide_eq_true hx, Bool.true_and]
    cases H x <;> cases cut B x <;> cases (x == t) <;> rfl) (fuel := k) (by omega)
  have e0 : stH U (nI (msk (fun x => (H x && !(x == t)) || (decide (x < 0) && (cut B x && !(x == t)))) B.m)) = U := by
    have : msk (fun x => (H x && !(x == t)) || (decide (x < 0) && (cut B x && !(x == t)))) B.m = msk (fun o => H o && !(o == t)) B.m := msk_ext (fun x hx => by simp)
    rw [this, ← h4]
    exact stH_self U
  rw [e0] at key
  exact key
theorem poison_run (hk : 20000 ≤ k) (hN : N + 500000 < 2 ^ 31) {t m t0 : Nat} (ht : t < m) (hm : m ≤ 12) (ht0 : t0 ≤ 9999) (T2 : VV) : ∀ r i (D U : VV) (B : AF) (H : Nat → Bool), i + r = 200 → B.t = t0 + i → B.m = m → JR D U 3 B (N + 2000 * i) → U 0 4 = nI (msk (fun o => H o && !(o == t)) m) → (∀ j, j ≠ 0 → j ≠ 3 → j ≠ 6 → U j = T2 j) → (∀ c, c ≠ 4 → U 0 c = T2 0 c) → ∀ fuel, r < fuel →
    ∃ D' U' kv hv, M_X9_poisonKills_12 k fuel (nI i) (S.1, D, S.2.2) = some (0, kv, (S.1, D', S.2.2)) ∧ M_X9_poisonHarm_14 k fuel (nI t) (nI (msk H m)) (nI i) (S.1, D, S.2.2) = some (0, hv, (S.1, D', S.2.2)) ∧ M_X10_poison_76 k fuel (nI t) (nI i) U = some (kv, va_up U' 0 (upd (U' 0) 3 1)) ∧ M_J6_bitCount_0f7a4 k (U' 0 4) = some hv ∧ 0 ≤ kv ∧ (∀ j, j ≠ 0 → j ≠ 3 → j ≠ 6 → U' j = T2 j) ∧ ∀ c, c ≠ 4 → U' 0 c = T2 0 c := by
  have c11 : Int32.toNatClampNeg 11 = 11 := by decide
  intro r
  induction r with
  | zero =>
    intro i D U B H hi hB hBm JB h4 fU sU fuel hf
    obtain ⟨f, rfl⟩ : ∃ f, fuel = f + 1 := ⟨fuel - 1, by omega⟩
    have hi : i = 200 := by omega
    subst hi
    obtain ⟨n, hn, n1, n2⟩ := JB.nkills
    have hb := bc_msk k (fun o => H o && !(o == t)) hm
    refine ⟨D, U, nI n, _, ?_, ?_, ?_, by rw [h4]; exact hb, nI_nn (by omega), fU, sU⟩
    · simp only [M_X9_poisonKills_12]
      rw [← n1]
      exact if_pos (Int32.le_refl _)
    · simp only [M_X9_poisonHarm_14]
      rw [show nI 200 = (200 : Int32) from rfl, if_pos (Int32.le_refl _), msk_clr ht (by omega), hb, Option.bind_some]
    · simp only [M_X10_poison_76, M_X10_comeBack, M_X10_comeBack_0]
      rw [show nI 200 = (200 : Int32) from rfl, if_pos (Int32.le_refl _), gG JB.gs, ifin (i := 11) (x := 11) rfl (by decide), lt_eq, c11, n2, lt_eq, Option.bind_some]
  | succ r ih =>
    intro i D U B H hi hB hBm JB h4 fU sU fuel hf
    obtain ⟨f, rfl⟩ : ∃ f, fuel = f + 1 := ⟨fuel - 1, by omega⟩
    have h0 : ¬ (200 : Int32) ≤ nI i := nI_ge (b := 200) (by omega) (by decide)
    obtain ⟨D1, U1, B1, t1, t2, J1, tB, zB, fr⟩ := jr_tick JB (by omega) (by omega) hk
    have hm1 : B1.m = m := zB.m.trans hBm
    have u4 : U1 0 4 = nI (msk (fun o => H o && !(o == t)) B1.m) := by rw [fr 0 (by decide) (by decide), h4, hm1]
    have inn := poison_in J1 hk (M_X10_poison_76 k f) (t := t) (i := i) (by omega) (by omega) H u4
    have J2 := J1.putH (nI (msk (fun o => (H o || cut B1 o) && !(o == t)) B1.m))
    have hc := (J1.cuts hk).1
    have ih := ih (i + 1) D1 _ B1 (fun o => H o || cut B1 o) (by omega) (by omega) hm1 (J2.mono (by omega)) (by rw [stH_4, hm1])
      (fun j h0 h3 h6 => by
        show va_up U1 0 _ j = T2 j
        rw [vaN _ _ h0, fr j h3 h6, fU j h0 h3 h6])
      (fun c hc => by
        show upd (U1 0) 4 _ c = T2 0 c
        rw [upd_ne _ _ hc, fr 0 (by decide) (by decide), sU c hc]) f (by omega)
    obtain ⟨D', U', kv, hv, r1, r2, r3, r4⟩ := ih
    refine ⟨D', U', kv, hv, ?_, ?_, ?_, r4⟩
    · simp only [M_X9_poisonKills_12, lt_eq]
      rw [if_neg h0, t1, Option.bind_some, nI_1]
      exact r1
    · simp only [M_X9_poisonHarm_14, lt_eq]
      rw [if_neg h0, t1, Option.bind_some]
      show ((M_X0_cutOffMask k D1).bind _) = _
      rw [hc, Option.bind_some, nI_1, or_nI, hm1, msk_or2]
      exact r2
    · simp only [M_X10_poison_76]
      rw [if_neg h0, t2, Option.bind_some, inn]
      exact r3
/-- both make the fleet with nothing but one poisoned request, and let the ticks pass -/
theorem poison_both (G : GIx S T V N) {A : AF} (hA : A.t ≤ 9999) (J : JR S.1 T 1 A N) (hN : N + 600000 < 2 ^ 31) (hk : 20000 ≤ k) {t : Nat} (ht : t < A.m) :
    ∃ D1 D' U' kv hv, M_X9_poisonDraft k S (nI t) = some (S.1, D1, S.2.2) ∧ M_X9_poisonKills_12 k k 0 (S.1, D1, S.2.2) = some (0, kv, (S.1, D', S.2.2)) ∧ M_X9_poisonHarm_14 k k (nI t) 0 0 (S.1, D1, S.2.2) = some (0, hv, (S.1, D', S.2.2)) ∧ M_X10_poison k (th T 0) (nI t) = some (kv, va_up U' 0 (upd (U' 0) 3 1)) ∧ M_J6_bitCount_0f7a4 k (U' 0 4) = some hv ∧ 0 ≤ kv ∧ TF T (va_up U' 0 (upd (U' 0) 3 1)) ∧ va_up U' 0 (upd (U' 0) 3 1) 0 1 = 0 := by
  have J0 : JR S.1 (th T 0) 1 A N := J.frame rfl rfl
  have hm := J.aw.m12
  obtain ⟨D, eD, hD⟩ := co_copy k S.2.1 S.1
  obtain ⟨T2, eT, hJ, fT, sT⟩ := aside J0 hk
  obtain ⟨fg, mk, ks, ks', tk, tkt, R, M, I, hN2⟩ := hJ D hD
  obtain ⟨F1, eF, RF⟩ := co_forget R I.li.toAW hk
  have MF := ro_forget M I.li.toAW
  have JF : JR F1 (va_up T2 3 (fgH (T2 3) A.m)) 3 (fgA A) N := ⟨_, _, _, _, tk, tkt, RF, MF, fg_RST I, hN2⟩
  obtain ⟨F2, S1, S', A', a1, a2, a3, a4, J2, sn, fr⟩ := jr_addOpen JF (t := t) ht (show (fgA A).n < 60 from (by decide : (0 : Nat) < 60)) rfl 1 1 hk
  have J3 := J2.putH 0
  have c3 : Int32.toNatClampNeg 3 = 3 := by decide
  have c11 : Int32.toNatClampNeg 11 = 11 := by decide
  have hmt : A'.m = A.m := sn.m
  have htt : A'.t = A.t := sn.t
  have run := poison_run (S := S) (N := N + 1) (k := k) hk (by omega) (t := t) (m := A.m) (t0 := A.t) ht hm hA T2 200 0 F2 _ A' (fun _ => false) (by omega) (by rw [htt]; rfl) hmt J3 (by
      rw [stH_4, show msk (fun o => false && !(o == t)) A.m = 0 from msk_0.mpr (fun _ _ => rfl)]; rfl)
    (fun j h0 h3 h6 => by
      show va_up S' 0 _ j = T2 j
      rw [vaN _ _ h0, fr j h3, vaN _ _ h3])
    (fun c hc => by
      show upd (S' 0) 4 0 c = T2 0 c
      rw [upd_ne _ _ hc, fr 0 (by decide), vaN _ _ (by decide)]) k (by omega)
  obtain ⟨D', U', kv, hv, r1, r2, r3, r4, r5, r6, r7⟩ := run
  have hb := back (U := U') G rfl fT sT (fun j h0 h3 h6 => r6 j h0 h3 h6) (fun c hc => r7 c hc)
  rw [show msk (fun _ => false) A.m = 0 from msk_0.mpr (fun _ _ => rfl), nI_0] at r2
  rw [nI_0] at r1 r3
  refine ⟨F2, D', U', kv, hv, ?_, r1, r2, ?_, r4, r5, hb.1, hb.2⟩
  · simp only [M_X9_poisonDraft, M_X9_poisonDraft_0, lt_eq]
    rw [eD, Option.bind_some, eF, Option.bind_some, a1, Option.bind_some]
  · simp only [M_X10_poison, M_X10_poison_0]
    rw [eT, Option.bind_some, gG M.gs, ifin (i := 3) (x := 3) rfl (by decide), lt_eq, c3, gG (M.gs.up _), ifin (i := 11) (x := 11) rfl (by decide), lt_eq, c11, vaS, va_up_up]
    show M_X10_poison_21 k k (nI t) 0 (va_up T2 3 (fgH (T2 3) 0)) = _
    rw [ro_forgetL M I.li.toAW hk, a2, Option.bind_some]
    have a4 : M_X10_route k S1 0 = some S' := a4
    rw [a4, Option.bind_some, lt_eq]
    exact r3
theorem s_poisonKills (G : GIx S T V N) (hN : N + 600000 < 2 ^ 31) (hk : 20000 ≤ k) (p : Int32) : VSV id [0, 1] (M_X9_poisonKills k S p) (M_X10_poisonKills k T p) V N := by
  obtain ⟨A, hA, J⟩ := G.nw
  have J0 : JR S.1 (th T 0) 1 A N := J.frame rfl rfl
  have hm := J.aw.m12
  simp only [M_X9_poisonKills, M_X9_poisonKills_0, M_X10_poisonKills, M_X10_poisonKills_0, lt_eq]
  rw [need_t2 J k p, is_t2 J0 k p]
  rcases rng2 k p (n := A.m) (by omega) with ⟨t, ht, rfl, e1, e2⟩ | ⟨e1, e2⟩
  · obtain ⟨D1, D', U', kv, hv, a1, a2, a3, a4, a5, a6, a7, a8⟩ := poison_both G hA J hN hk ht
    rw [e1, e2, Option.bind_some, Option.bind_some, if_pos rfl, if_neg (show ¬ (1 : Int32) = 0 by decide), a1, Option.bind_some, a2, a4, Option.bind_some]
    exact ⟨0, kv, kv, (S.1, D', S.2.2), _, rfl, rfl, (G.frame a7).dr D', a8, by simp, fun _ => rfl⟩
  · rw [e1, e2, Option.bind_some, Option.bind_some, if_neg (show ¬ (1 : Int32) = 0 by decide), if_pos rfl]
    exact VSV.no (T' := th (th T 0) 1) G ((tf_th T 0).trans (tf_th _ 1)) rfl (by simp) (by decide)
theorem s_poisonHarm (G : GIx S T V N) (hN : N + 600000 < 2 ^ 31) (hk : 20000 ≤ k) (p : Int32) : VSV id [0, 1] (M_X9_poisonHarm k S p) (M_X10_poisonHarm k T p) V N := by
  obtain ⟨A, hA, J⟩ := G.nw
  have J0 : JR S.1 (th T 0) 1 A N := J.frame rfl rfl
  have hm := J.aw.m12
  simp only [M_X9_poisonHarm, M_X9_poisonHarm_0, M_X10_poisonHarm, M_X10_poisonHarm_0, lt_eq]
  rw [need_t2 J k p, is_t2 J0 k p]
  rcases rng2 k p (n := A.m) (by omega) with ⟨t, ht, rfl, e1, e2⟩ | ⟨e1, e2⟩
  · obtain ⟨D1, D', U', kv, hv, a1, a2, a3, a4, a5, a6, a7, a8⟩ := poison_both G hA J hN hk ht
    have a5 : M_J6_bitCount_0f7a4 k (va_up U' 0 (upd (U' 0) 3 1) 0 4) = some hv := a5
    rw [e1, e2, Option.bind_some, Option.bind_some, if_pos rfl, if_neg (show ¬ (1 : Int32) = 0 by decide), a1, Option.bind_some, a3, a4, Option.bind_some, if_pos a6, a5, Option.bind_some]
    exact ⟨0, hv, hv, (S.1, D', S.2.2), _, rfl, rfl, (G.frame a7).dr D', a8, by simp, fun _ => rfl⟩
  · rw [e1, e2, Option.bind_some, Option.bind_some, if_neg (show ¬ (1 : Int32) = 0 by decide), if_pos rfl]
    exact VSV.no (T' := th (th T 0) 1) G ((tf_th T 0).trans (tf_th _ 1)) rfl (by simp) (by decide)
end OPS
