-- ===== the reference: ends and routes =====
section REF
variable {S : VV} {g : Nat} {A : AF} {mk : Nat → Nat} {ks : KL} {tk : Nat} {tkt : Nat → Nat} {k : Nat}
theorem RelM.wL (R : RelM S g A mk ks tk tkt) (l : List Nat) : RelM S g (A.wL l) mk ks tk tkt := ⟨R.gs, R.s0, R.s1, R.s2, R.s3, R.s4, R.se, R.s10, R.s11, R.wo, R.te, R.rq, R.ti, R.ki⟩
theorem AW.wQ {A : AF} (w : AW A) {Q : Nat → Nat → Int32} (hQ : ∀ r, r < A.n → Q r 0 = A.Q r 0) : AW (A.wQ Q) := ⟨w.w2, w.w12, w.z1, w.zw, w.m12, w.n60, w.t4, w.se, w.sh, fun r hr => by
  obtain ⟨t, h1, h2⟩ := w.ten r hr
  exact ⟨t, h1, (hQ r hr).trans h2⟩⟩
theorem AW.sq {A : AF} (w : AW A) {r c : Nat} {v : Int32} (hc : c ≠ 0 := by decide) : AW (A.wQ (setQ A.Q r c v)) := w.wQ (fun r' _ => setQ_ne (fun e => hc e.2.symm))
theorem ro_end (R : RelM S g A mk ks tk tkt) (w : AW A) {r : Nat} (hr : r < A.n) (s : Int32) : ∃ S', M_X10_end k S (nI r) s = some S' ∧ RelM S' g (endA A r s) mk ks tk tkt ∧ ∀ j, j ≠ g → S' j = S j := by
  obtain ⟨S1, e1, R1, f1⟩ := R.putQ w k hr 4 s (x := 4)
  obtain ⟨S2, e2, R2, f2⟩ := R1.putQ w.sq k hr 6 (-1) (x := 6)
  obtain ⟨S3, e3, R3, f3⟩ := R2.putQ (w.sq.sq) k hr 7 (nI A.t) (x := 7)
  refine ⟨S3, ?_, R3, fun j hj => by rw [f3 j hj, f2 j hj, f1 j hj]⟩
  simp only [M_X10_end, M_X10_end_0]
  rw [e1, Option.bind_some, e2, Option.bind_some, gG R2.gs, ifin (i := 4) (x := 4) rfl (by decide)]
  have h4 : S2 g (Int32.toNatClampNeg 4) = nI A.t := R2.s4
  rw [h4, e3, Option.bind_some]
/-- the ticket of a request -/
theorem RelM.putT (R : RelM S g A mk ks tk tkt) (w : AW A) (k : Nat) {r : Nat} (hr : r < A.n) (v : Nat) : ∃ S', M_X10_put k S (nI r) 8 (nI v) = some S' ∧ RelM S' g A mk ks tk (fun x => if x = r then v else tkt x) ∧ ∀ j, j ≠ g → S' j = S j := by
  have h60 := w.n60
  refine ⟨va_up S g (upd (S g) (72 + 9 * r + 8) (nI v)), ?_, ?_, fun j hj => vaN S _ hj⟩
  · unfold M_X10_put M_X10_put_0
    rw [gG R.gs, reqAt k r 8 (x := 8) rfl, Option.bind_some, ifin rfl (by omega), nI_clamp (by omega), lt_eq]
  · have hw := w.w12
    have hm := w.m12
    have ne : ∀ i, i ≠ 72 + 9 * r + 8 → va_up S g (upd (S g) (72 + 9 * r + 8) (nI v)) g i = S g i := fun i hi => by rw [vaS, upd_ne _ _ hi]
    exact (RelM.ofs
      (gs := R.gs.up _)
      (s0 := (ne 0 (by omega)).trans R.s0)
      (s1 := (ne 1 (by omega)).trans R.s1)
      (s2 := (ne 2 (by omega)).trans R.s2)
      (s3 := (ne 3 (by omega)).trans R.s3)
      (s4 := (ne 4 (by omega)).trans R.s4)
      (se := fun i hi => (ne (5 + i) (by omega)).trans (R.se i hi))
      (s10 := (ne 10 (by omega)).trans R.s10)
      (s11 := (ne 11 (by omega)).trans R.s11)
      (wo := fun j hj => ⟨(ne _ (by omega)).trans (R.wo j hj).1, (ne _ (by omega)).trans (R.wo j hj).2⟩)
      (te := fun t ht => ⟨(ne _ (by omega)).trans (R.te t ht).1, (ne _ (by omega)).trans (R.te t ht).2.1, (ne _ (by omega)).trans (R.te t ht).2.2⟩)
      (rq := fun r' c' hr' hc' => (ne _ (by omega)).trans (R.rq r' c' hr' hc'))
      (ti := fun r' hr' => by
        by_cases h : r' = r
        · subst h; rw [vaS, upd_self, if_pos rfl]
        · rw [ne _ (by omega), if_neg h]; exact R.ti r' hr')
      (ki := fun i hi => ⟨(ne _ (by omega)).trans (R.ki i hi).1, (ne _ (by omega)).trans (R.ki i hi).2.1, (ne _ (by omega)).trans (R.ki i hi).2.2⟩))
theorem RelM.tkUp (R : RelM S g A mk ks tk tkt) (v : Nat) : RelM (va_up S g (upd (S g) 10 (nI v))) g A mk ks v tkt := by
  have ne : ∀ i, i ≠ 10 → va_up S g (upd (S g) 10 (nI v)) g i = S g i := fun i hi => by rw [vaS, upd_ne _ _ hi]
  exact (RelM.ofs
      (gs := R.gs.up _)
      (s0 := (ne 0 (by omega)).trans R.s0)
      (s1 := (ne 1 (by omega)).trans R.s1)
      (s2 := (ne 2 (by omega)).trans R.s2)
      (s3 := (ne 3 (by omega)).trans R.s3)
      (s4 := (ne 4 (by omega)).trans R.s4)
      (se := fun i hi => (ne (5 + i) (by omega)).trans (R.se i hi))
      (s10 := by rw [vaS, upd_self])
      (s11 := (ne 11 (by omega)).trans R.s11)
      (wo := fun j hj => ⟨(ne _ (by omega)).trans (R.wo j hj).1, (ne _ (by omega)).trans (R.wo j hj).2⟩)
      (te := fun t ht => ⟨(ne _ (by omega)).trans (R.te t ht).1, (ne _ (by omega)).trans (R.te t ht).2.1, (ne _ (by omega)).trans (R.te t ht).2.2⟩)
      (rq := fun r' c' hr' hc' => (ne _ (by omega)).trans (R.rq r' c' hr' hc'))
      (ti := fun r' hr' => (ne _ (by omega)).trans (R.ti r' hr'))
      (ki := fun i hi => ⟨(ne _ (by omega)).trans (R.ki i hi).1, (ne _ (by omega)).trans (R.ki i hi).2.1, (ne _ (by omega)).trans (R.ki i hi).2.2⟩))
def newT (tkt : Nat → Nat) (r tk : Nat) : Nat → Nat := fun x => if x = r then tk else tkt x
theorem ro_route (R : RelM S g A mk ks tk tkt) (w : AW A) (hk : 20000 ≤ k) {r : Nat} (hr : r < A.n) : ∃ S', M_X10_route k S (nI r) = some S' ∧ RelM S' g (routeA A r) mk ks (tk + 1) (newT tkt r tk) ∧ ∀ j, j ≠ g → S' j = S j := by
  have hW := w.w12
  obtain ⟨htn, hq0⟩ := w.tn hr
  obtain ⟨S1, e1, R1, f1⟩ := R.putQ w k hr 2 (A.Q r 1) (x := 2)
  have fin : ∀ v : Int32, v = (if bestA A (tnOf A r) = none then 1 else 0) → ∃ S', M_X10_route_36 k (nI r) (oI (bestA A (tnOf A r))) (nI r) 4 v S1 = some S' ∧ RelM S' g (routeA A r) mk ks (tk + 1) (newT tkt r tk) ∧ ∀ j, j ≠ g → S' j = S j := by
    intro v hv
    subst hv
    obtain ⟨S2, e2, R2, f2⟩ := R1.putQ w.sq k hr 4 (if bestA A (tnOf A r) = none then 1 else 0) (x := 4)
    obtain ⟨S3, e3, R3, f3⟩ := R2.putQ (w.sq.sq) k hr 6 (oI (bestA A (tnOf A r))) (x := 6)
    obtain ⟨S4, e4, R4, f4⟩ := R3.putT (w.sq.sq.sq) k hr tk
    refine ⟨va_up S4 g (upd (S4 g) 10 (nI (tk + 1))), ?_, ((R4.tkUp (tk + 1)).wL _), fun j hj => by rw [vaN _ _ hj, f4 j hj, f3 j hj, f2 j hj, f1 j hj]⟩
    simp only [M_X10_route_36]
    rw [e2, Option.bind_some, e3, Option.bind_some, gG R3.gs, ifin (i := 10) (x := 10) rfl (by decide)]
    have h10 : S3 g (Int32.toNatClampNeg 10) = nI tk := R3.s10
    rw [h10, e4, Option.bind_some, gG R4.gs, ifin (i := 10) (x := 10) rfl (by decide), ifin (i := 10) (x := 10) rfl (by decide)]
    have h11 : S4 g (Int32.toNatClampNeg 10) = nI tk := R4.s10
    rw [h11, show (1 : Int32) = nI 1 from rfl, nI_add]
    rfl
  simp only [M_X10_route, M_X10_route_0]
  rw [R.q w k hr 0, Option.bind_some, hq0, ro_least R w hk htn, Option.bind_some, R.q w k hr 1, Option.bind_some, e1, Option.bind_some]
  cases hbb : bestA A (tnOf A r) with
  | none =>
    rw [hbb] at fin
    rw [if_pos (by rfl)]
    exact fin 1 rfl
  | some b =>
    rw [hbb] at fin
    obtain ⟨h1, h2⟩ := bestOf_some hbb
    have hne : ¬ oI (some b) = -1 := m1_ne (by omega)
    rw [if_neg hne]
    exact fin 0 rfl
theorem TO.route (t : TO A tk tkt) {r : Nat} : TO (routeA A r) (tk + 1) (newT tkt r tk) := by
  have hne : ∀ x, x ∈ A.ln.filter (fun x => x != r) → x ≠ r ∧ x ∈ A.ln := fun x hx => by
    have := List.mem_filter.mp hx
    exact ⟨bne_iff_ne.mp this.2, this.1⟩
  refine ⟨?_, ?_⟩
  · show (A.ln.filter (fun x => x != r) ++ [r]).Pairwise _
    refine List.pairwise_append.mpr ⟨?_, List.pairwise_singleton _ _, fun a ha b hb => ?_⟩
    · refine List.Pairwise.imp_of_mem ?_ (List.Pairwise.filter _ t.so)
      intro a b ha hb hab
      unfold newT
      rw [if_neg (hne a ha).1, if_neg (hne b hb).1]
      exact hab
    · have hb2 : b = r := by simpa using hb
      unfold newT
      rw [if_neg (hne a ha).1, if_pos hb2]
      exact t.lt a (hne a ha).2
  · intro x hx
    have hx : x ∈ A.ln.filter (fun x => x != r) ++ [r] := hx
    unfold newT
    rcases List.mem_append.mp hx with h | h
    · rw [if_neg (hne x h).1]
      have := t.lt x (hne x h).2
      omega
    · have hb2 : x = r := by simpa using h
      rw [if_pos hb2]
      omega
theorem TO.filter (t : TO A tk tkt) (p : Nat → Bool) (Q : Nat → Nat → Int32) : TO ((A.wQ Q).wL (A.ln.filter p)) tk tkt := ⟨List.Pairwise.filter _ t.so, fun r hr => t.lt r (List.mem_filter.mp hr).1⟩
end REF
