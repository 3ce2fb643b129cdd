-- ===== all requests of a tenant are refused =====
theorem endL_Q (A : AF) (r : Nat) (s : Int32) (x c : Nat) : (endL A r s).Q x c = if x = r then (if c = 7 then nI A.t else if c = 6 then -1 else if c = 4 then s else A.Q x c) else A.Q x c := by
  show setQ (setQ (setQ A.Q r 4 s) r 6 (-1)) r 7 (nI A.t) x c = _
  unfold setQ
  by_cases h : x = r
  · subst h; simp
  · simp [h]
theorem endL_comm (A : AF) (s : Int32) {r r' : Nat} (h : r ≠ r') : endL (endL A r s) r' s = endL (endL A r' s) r s := by
  have a := Same.endL A r s
  have b := Same.endL (endL A r s) r' s
  have c := Same.endL A r' s
  have d := Same.endL (endL A r' s) r s
  refine AF_ext (by rw [b.W, a.W, d.W, c.W]) (by rw [b.Z, a.Z, d.Z, c.Z]) (by rw [b.m, a.m, d.m, c.m]) (by rw [b.n, a.n, d.n, c.n]) (by rw [b.t, a.t, d.t, c.t]) (by rw [b.up, a.up, d.up, c.up]) (by rw [b.again, a.again, d.again, c.again]) (by rw [b.st, a.st, d.st, c.st]) (by rw [b.sh, a.sh, d.sh, c.sh]) (by rw [b.qe, a.qe, d.qe, c.qe]) ?_ ?_
  · funext x c
    rw [endL_Q, endL_Q, endL_Q, endL_Q]
    have e1 : (endL A r s).t = A.t := a.t
    have e2 : (endL A r' s).t = A.t := (Same.endL A r' s).t
    rw [e1, e2]
    by_cases h1 : x = r'
    · have h2 : ¬ x = r := fun e => h (e.symm.trans h1)
      have h3 : ¬ r' = r := fun e => h e.symm
      simp [h1, h3]
    · simp [h1]
  · show (A.ln.filter (fun x => x != r)).filter (fun x => x != r') = (A.ln.filter (fun x => x != r')).filter (fun x => x != r)
    rw [List.filter_filter, List.filter_filter]
    congr 1
    funext x
    exact Bool.and_comm _ _
theorem selF_fold {c : AF → Nat → Bool} {f : AF → Nat → AF} (hc : ∀ A r x, c (f A r) x = c A x) : ∀ (l : List Nat) (A : AF), selF c f l A = (l.filter (c A)).foldl f A
  | [], A => rfl
  | r :: l, A => by
    rw [selF, List.filter_cons]
    by_cases h : c A r = true
    · rw [if_pos h, if_pos h, selF_fold hc l (f A r), List.foldl_cons]
      congr 1
      congr 1
      funext x
      exact hc A r x
    · rw [if_neg h, if_neg h, selF_fold hc l A]
def waits (A : AF) (r : Nat) : Bool := A.Q r 4 == 0 || A.Q r 4 == 1
def refI (A : AF) (t i : Nat) : AF := ((List.range i).filter (fun r => A.Q r 0 == nI t && waits A r)).foldl (fun B r => endL B r 4) A
theorem refuse_eq {A : AF} (h : LI A) (t : Nat) : refuseA A t = refI A t A.n := by
  unfold refuseA refI
  rw [selF_fold (fun B r x => by rw [show (endL B r 4).Q x 0 = B.Q x 0 from endA_c B r 4 x (by decide) (by decide) (by decide)])]
  refine perm_foldl _ ?_ (fun x _ y _ z => ?_) A
  · refine (List.perm_ext_iff_of_nodup (nodup_filter h.nd _) (nodup_filter List.nodup_range _)).mpr (fun r => ?_)
    rw [List.mem_filter, List.mem_filter, List.mem_range, h.wt]
    unfold waits
    rw [Bool.and_eq_true, Bool.or_eq_true, beq_iff_eq, beq_iff_eq, beq_iff_eq]
    constructor
    · rintro ⟨⟨h1, h2⟩, h3⟩; exact ⟨h1, h3, h2⟩
    · rintro ⟨h1, h3, h2⟩; exact ⟨⟨h1, h2⟩, h3⟩
  · by_cases e : x = y
    · rw [e]
    · exact endL_comm z 4 e
/-- every request has one of the five states -/
def SR (A : AF) : Prop := ∀ r, r < A.n → ∃ s, s ≤ 4 ∧ A.Q r 4 = nI s
section REF
variable {S : VV} {g : Nat} {A : AF} {mk : Nat → Nat} {ks : KL} {tk : Nat} {tkt : Nat → Nat} {k : Nat}
theorem refI_ne (A : AF) (t : Nat) : ∀ i x c, i ≤ x → (refI A t i).Q x c = A.Q x c
  | 0, x, c, _ => rfl
  | i + 1, x, c, h => by
    have ih := refI_ne A t i x c (by omega)
    unfold refI at ih ⊢
    rw [List.range_succ, List.filter_append, List.foldl_append, List.filter_cons]
    split
    · rw [List.filter_nil, List.foldl_cons, List.foldl_nil, endL_Q, if_neg (by omega)]
      exact ih
    · exact ih
theorem refI_same (A : AF) (t : Nat) : ∀ i, Same A (refI A t i) ∧ Fix A (refI A t i)
  | 0 => ⟨Same.refl A, Fix.refl A⟩
  | i + 1 => by
    have ih := refI_same A t i
    unfold refI at ih ⊢
    rw [List.range_succ, List.filter_append, List.foldl_append, List.filter_cons]
    split
    · rw [List.filter_nil, List.foldl_cons, List.foldl_nil]
      exact ⟨ih.1.trans (Same.endL _ _ _), ih.2.trans (Fix.endL _ _ _)⟩
    · exact ih
theorem AW.of {A B : AF} (w : AW A) (s : Same A B) (f : Fix A B) : AW B := ⟨by rw [s.W]; exact w.w2, by rw [s.W]; exact w.w12, by rw [s.Z]; exact w.z1, by rw [s.Z, s.W]; exact w.zw, by rw [s.m]; exact w.m12, by rw [s.n]; exact w.n60, by rw [s.t]; exact w.t4, by rw [s.st]; exact w.se, by rw [s.sh, s.m, s.W]; exact w.sh, fun r hr => by
  rw [s.n] at hr
  obtain ⟨t, h1, h2⟩ := w.ten r hr
  exact ⟨t, by rw [s.m]; exact h1, (f r 0 (Or.inl rfl)).trans h2⟩⟩
theorem ro_refuse (R : RelM S g A mk ks tk tkt) (h : LI A) (sr : SR A) (hk : 20000 ≤ k) (t : Nat) : ∃ S', M_X10_refuseAll k S (nI t) = some S' ∧ RelM S' g (refuseA A t) mk ks tk tkt ∧ ∀ j, j ≠ g → S' j = S j := by
  have hn := h.n60
  have key : ∀ m i (S : VV), i + m = A.n → RelM S g (refI A t i) mk ks tk tkt → ∀ fuel, m < fuel → ∃ S', M_X10_refuseAll_2 k fuel (nI t) (nI i) S = some S' ∧ RelM S' g (refI A t A.n) mk ks tk tkt ∧ ∀ j, j ≠ g → S' j = S j := by
    intro m
    induction m with
    | zero =>
      intro i S hi R fuel hf
      obtain ⟨f, rfl⟩ : ∃ f, fuel = f + 1 := ⟨fuel - 1, by omega⟩
      have : i = A.n := by omega
      subst this
      refine ⟨S, ?_, R, fun _ _ => rfl⟩
      simp only [M_X10_refuseAll_2]
      rw [R.requests k, Option.bind_some, (refI_same A t A.n).1.n, if_pos (nI_le (Nat.le_refl _) (by omega))]
    | succ m ih =>
      intro i S hi R fuel hf
      obtain ⟨f, rfl⟩ : ∃ f, fuel = f + 1 := ⟨fuel - 1, by omega⟩
      have hin : i < A.n := by omega
      obtain ⟨sm, fx⟩ := refI_same A t i
      have w2 := h.toAW.of sm fx
      have hin2 : i < (refI A t i).n := by rw [sm.n]; exact hin
      obtain ⟨s, hs, hs4⟩ := sr i hin
      have h0 : (refI A t i).Q i 0 = A.Q i 0 := refI_ne A t i i 0 (Nat.le_refl _)
      have h4 : (refI A t i).Q i 4 = A.Q i 4 := refI_ne A t i i 4 (Nat.le_refl _)
      have hw : waits A i = decide (s ≤ 1) := by
        unfold waits
        rw [hs4]
        have : ∀ s : Fin 5, (nI s.val == 0 || nI s.val == 1) = decide (s.val ≤ 1) := by decide +kernel
        exact this ⟨s, by omega⟩
      have e : refI A t (i + 1) = if (A.Q i 0 == nI t && waits A i) then endL (refI A t i) i 4 else refI A t i := by
        unfold refI
        rw [List.range_succ, List.filter_append, List.foldl_append, List.filter_cons]
        split <;> rfl
      have start : M_X10_refuseAll_2 k (f + 1) (nI t) (nI i) S = (if A.Q i 0 = nI t then (if (1 : Int32) < nI s then M_X10_refuseAll_2 k f (nI t) (nI (i + 1)) S else ((M_X10_end k S (nI i) 4).bind fun q7 => M_X10_refuseAll_2 k f (nI t) (nI (i + 1)) q7)) else M_X10_refuseAll_2 k f (nI t) (nI (i + 1)) S) := by
        simp only [M_X10_refuseAll_2]
        rw [R.requests k, Option.bind_some, sm.n, if_neg (nI_ge hin (by omega)), R.q w2 k hin2 0, Option.bind_some, R.q w2 k hin2 4, Option.bind_some, h0, h4, hs4, nI_1]
      by_cases hc : A.Q i 0 = nI t
      · by_cases hs1 : s ≤ 1
        · have e : refI A t (i + 1) = endL (refI A t i) i 4 := by rw [e, if_pos (by rw [hw, decide_eq_true hs1, beq_iff_eq.mpr hc]; rfl)]
          obtain ⟨S1, e1, R1, f1⟩ := ro_end (k := k) R w2 (r := i) hin2 4
          obtain ⟨S', e2, R2, f2⟩ := ih (i + 1) S1 (by omega) (by rw [e]; exact R1.wL _) f (by omega)
          refine ⟨S', ?_, R2, fun j hj => by rw [f2 j hj, f1 j hj]⟩
          have hlt : ¬ (1 : Int32) < nI s := nI_nlt (a := 1) hs1 (by decide)
          rw [start, if_pos hc, if_neg hlt, e1, Option.bind_some]
          exact e2
        · have e : refI A t (i + 1) = refI A t i := by rw [e, if_neg (by rw [hw, decide_eq_false hs1, Bool.and_false]; decide)]
          obtain ⟨S', e2, R2, f2⟩ := ih (i + 1) S (by omega) (by rw [e]; exact R) f (by omega)
          refine ⟨S', ?_, R2, f2⟩
          have hlt : (1 : Int32) < nI s := nI_lt (a := 1) (by omega) (by omega)
          rw [start, if_pos hc, if_pos hlt]
          exact e2
      · have e : refI A t (i + 1) = refI A t i := by rw [e, if_neg (by rw [beq_false_of_ne hc, Bool.false_and]; decide)]
        obtain ⟨S', e2, R2, f2⟩ := ih (i + 1) S (by omega) (by rw [e]; exact R) f (by omega)
        refine ⟨S', ?_, R2, f2⟩
        rw [start, if_neg hc]
        exact e2
  obtain ⟨S', e1, R1, f1⟩ := key A.n 0 S (by omega) R k (by omega)
  rw [nI_0] at e1
  exact ⟨S', e1, by rw [refuse_eq h]; exact R1, f1⟩
end REF
