-- ===== how the reference keeps a fleet =====
def GS (S : VV) (g : Nat) : Prop := (gsel S = g) ∧ (gokN g = true)
theorem GS.sel {S : VV} {g : Nat} (R__ : GS S g) : gsel S = g := R__.1
theorem GS.ok {S : VV} {g : Nat} (R__ : GS S g) : gokN g = true := R__.2
theorem GS.ofs {S : VV} {g : Nat} (sel : gsel S = g) (ok : gokN g = true) : GS S g := ⟨sel, ok⟩
theorem gG {α : Type} {S : VV} {g : Nat} (h : GS S g) (X : Nat → Option α) : (lt (gsel S) fun g1 => (if gokN g1 = true then X g1 else none)) = X g := by
  rw [lt_eq, h.sel, if_pos h.ok]
theorem GS.ne0 {S : VV} {g : Nat} (h : GS S g) : g ≠ 0 := by
  intro e
  have := h.ok
  rw [e] at this
  cases this
theorem GS.up {S : VV} {g : Nat} (h : GS S g) (G : Nat → Int32) : GS (va_up S g G) g := ⟨by
  have : va_up S g G 0 = S 0 := if_neg (fun e => h.ne0 e.symm)
  unfold gsel
  rw [this]
  exact h.sel, h.ok⟩
theorem vaS (S : VV) (g : Nat) (G : Nat → Int32) : va_up S g G g = G := if_pos rfl
theorem vaN (S : VV) {g j : Nat} (G : Nat → Int32) (h : j ≠ g) : va_up S g G j = S j := if_neg h
theorem va_up_up (S : VV) (g : Nat) (G G' : Nat → Int32) : va_up (va_up S g G) g G' = va_up S g G' := by
  funext j
  unfold va_up
  by_cases h : j = g
  · rw [if_pos h, if_pos h]
  · rw [if_neg h, if_neg h, if_neg h]
theorem ifin {α : Type} {i : Nat} {x : Int32} (hx : x = nI i) (hi : i < 1692) (X : Option α) : (if inb x 1692 = true then X else none) = X := if_pos (by rw [hx]; exact inb_nI hi (by decide))
def RelM (S : VV) (g : Nat) (A : AF) (mk : Nat → Nat) (ks : KL) (tk : Nat) (tkt : Nat → Nat) : Prop := (GS S g) ∧ (S g 0 = nI A.W) ∧ (S g 1 = nI A.Z) ∧ (S g 2 = nI A.m) ∧ (S g 3 = nI A.n) ∧ (S g 4 = nI A.t) ∧ (∀ i, i < 5 → S g (5 + i) = nI (A.st i)) ∧ (S g 10 = nI tk) ∧ (S g 11 = nI ks.length) ∧ (∀ w, w < A.W → S g (12 + 2 * w + 0) = b1 (A.up w) ∧ S g (12 + 2 * w + 1) = A.again w) ∧ (∀ t, t < A.m → S g (36 + 3 * t + 0) = nI (A.sh t) ∧ S g (36 + 3 * t + 1) = A.qe t ∧ S g (36 + 3 * t + 2) = nI (mk t)) ∧ (∀ r c, r < A.n → c < 8 → S g (72 + 9 * r + c) = A.Q r c) ∧ (∀ r, r < A.n → S g (72 + 9 * r + 8) = nI (tkt r)) ∧ (∀ i (h : i < ks.length), S g (612 + 3 * i + 0) = nI ks[i].1 ∧ S g (612 + 3 * i + 1) = nI ks[i].2.1 ∧ S g (612 + 3 * i + 2) = nI ks[i].2.2)
theorem RelM.gs {S : VV} {g : Nat} {A : AF} {mk : Nat → Nat} {ks : KL} {tk : Nat} {tkt : Nat → Nat} (R__ : RelM S g A mk ks tk tkt) : GS S g := R__.1
theorem RelM.s0 {S : VV} {g : Nat} {A : AF} {mk : Nat → Nat} {ks : KL} {tk : Nat} {tkt : Nat → Nat} (R__ : RelM S g A mk ks tk tkt) : S g 0 = nI A.W := R__.2.1
theorem RelM.s1 {S : VV} {g : Nat} {A : AF} {mk : Nat → Nat} {ks : KL} {tk : Nat} {tkt : Nat → Nat} (R__ : RelM S g A mk ks tk tkt) : S g 1 = nI A.Z := R__.2.2.1
theorem RelM.s2 {S : VV} {g : Nat} {A : AF} {mk : Nat → Nat} {ks : KL} {tk : Nat} {tkt : Nat → Nat} (R__ : RelM S g A mk ks tk tkt) : S g 2 = nI A.m := R__.2.2.2.1
theorem RelM.s3 {S : VV} {g : Nat} {A : AF} {mk : Nat → Nat} {ks : KL} {tk : Nat} {tkt : Nat → Nat} (R__ : RelM S g A mk ks tk tkt) : S g 3 = nI A.n := R__.2.2.2.2.1
theorem RelM.s4 {S : VV} {g : Nat} {A : AF} {mk : Nat → Nat} {ks : KL} {tk : Nat} {tkt : Nat → Nat} (R__ : RelM S g A mk ks tk tkt) : S g 4 = nI A.t := R__.2.2.2.2.2.1
theorem RelM.se {S : VV} {g : Nat} {A : AF} {mk : Nat → Nat} {ks : KL} {tk : Nat} {tkt : Nat → Nat} (R__ : RelM S g A mk ks tk tkt) : ∀ i, i < 5 → S g (5 + i) = nI (A.st i) := R__.2.2.2.2.2.2.1
theorem RelM.s10 {S : VV} {g : Nat} {A : AF} {mk : Nat → Nat} {ks : KL} {tk : Nat} {tkt : Nat → Nat} (R__ : RelM S g A mk ks tk tkt) : S g 10 = nI tk := R__.2.2.2.2.2.2.2.1
theorem RelM.s11 {S : VV} {g : Nat} {A : AF} {mk : Nat → Nat} {ks : KL} {tk : Nat} {tkt : Nat → Nat} (R__ : RelM S g A mk ks tk tkt) : S g 11 = nI ks.length := R__.2.2.2.2.2.2.2.2.1
theorem RelM.wo {S : VV} {g : Nat} {A : AF} {mk : Nat → Nat} {ks : KL} {tk : Nat} {tkt : Nat → Nat} (R__ : RelM S g A mk ks tk tkt) : ∀ w, w < A.W → S g (12 + 2 * w + 0) = b1 (A.up w) ∧ S g (12 + 2 * w + 1) = A.again w := R__.2.2.2.2.2.2.2.2.2.1
theorem RelM.te {S : VV} {g : Nat} {A : AF} {mk : Nat → Nat} {ks : KL} {tk : Nat} {tkt : Nat → Nat} (R__ : RelM S g A mk ks tk tkt) : ∀ t, t < A.m → S g (36 + 3 * t + 0) = nI (A.sh t) ∧ S g (36 + 3 * t + 1) = A.qe t ∧ S g (36 + 3 * t + 2) = nI (mk t) := R__.2.2.2.2.2.2.2.2.2.2.1
theorem RelM.rq {S : VV} {g : Nat} {A : AF} {mk : Nat → Nat} {ks : KL} {tk : Nat} {tkt : Nat → Nat} (R__ : RelM S g A mk ks tk tkt) : ∀ r c, r < A.n → c < 8 → S g (72 + 9 * r + c) = A.Q r c := R__.2.2.2.2.2.2.2.2.2.2.2.1
theorem RelM.ti {S : VV} {g : Nat} {A : AF} {mk : Nat → Nat} {ks : KL} {tk : Nat} {tkt : Nat → Nat} (R__ : RelM S g A mk ks tk tkt) : ∀ r, r < A.n → S g (72 + 9 * r + 8) = nI (tkt r) := R__.2.2.2.2.2.2.2.2.2.2.2.2.1
theorem RelM.ki {S : VV} {g : Nat} {A : AF} {mk : Nat → Nat} {ks : KL} {tk : Nat} {tkt : Nat → Nat} (R__ : RelM S g A mk ks tk tkt) : ∀ i (h : i < ks.length), S g (612 + 3 * i + 0) = nI ks[i].1 ∧ S g (612 + 3 * i + 1) = nI ks[i].2.1 ∧ S g (612 + 3 * i + 2) = nI ks[i].2.2 := R__.2.2.2.2.2.2.2.2.2.2.2.2.2
theorem RelM.ofs {S : VV} {g : Nat} {A : AF} {mk : Nat → Nat} {ks : KL} {tk : Nat} {tkt : Nat → Nat} (gs : GS S g) (s0 : S g 0 = nI A.W) (s1 : S g 1 = nI A.Z) (s2 : S g 2 = nI A.m) (s3 : S g 3 = nI A.n) (s4 : S g 4 = nI A.t) (se : ∀ i, i < 5 → S g (5 + i) = nI (A.st i)) (s10 : S g 10 = nI tk) (s11 : S g 11 = nI ks.length) (wo : ∀ w, w < A.W → S g (12 + 2 * w + 0) = b1 (A.up w) ∧ S g (12 + 2 * w + 1) = A.again w) (te : ∀ t, t < A.m → S g (36 + 3 * t + 0) = nI (A.sh t) ∧ S g (36 + 3 * t + 1) = A.qe t ∧ S g (36 + 3 * t + 2) = nI (mk t)) (rq : ∀ r c, r < A.n → c < 8 → S g (72 + 9 * r + c) = A.Q r c) (ti : ∀ r, r < A.n → S g (72 + 9 * r + 8) = nI (tkt r)) (ki : ∀ i (h : i < ks.length), S g (612 + 3 * i + 0) = nI ks[i].1 ∧ S g (612 + 3 * i + 1) = nI ks[i].2.1 ∧ S g (612 + 3 * i + 2) = nI ks[i].2.2) : RelM S g A mk ks tk tkt := ⟨gs, s0, s1, s2, s3, s4, se, s10, s11, wo, te, rq, ti, ki⟩
section REF
variable {S : VV} {g : Nat} {A : AF} {mk : Nat → Nat} {ks : KL} {tk : Nat} {tkt : Nat → Nat} {k : Nat}
theorem reqAt (k r c : Nat) {x : Int32} (hx : x = nI c) : M_X10_requestAt k (nI r) x = some (nI (72 + 9 * r + c)) := by
  unfold M_X10_requestAt M_X10_requestAt_0
  rw [hx, show (72 : Int32) = nI 72 from rfl, show (9 : Int32) = nI 9 from rfl, nI_mul, nI_add, nI_add]
theorem tenAt (k r c : Nat) {x : Int32} (hx : x = nI c) : M_X10_tenantAt k (nI r) x = some (nI (36 + 3 * r + c)) := by
  unfold M_X10_tenantAt M_X10_tenantAt_0
  rw [hx, show (36 : Int32) = nI 36 from rfl, show (3 : Int32) = nI 3 from rfl, nI_mul, nI_add, nI_add]
theorem worAt (k r c : Nat) {x : Int32} (hx : x = nI c) : M_X10_workerAt k (nI r) x = some (nI (12 + 2 * r + c)) := by
  unfold M_X10_workerAt M_X10_workerAt_0
  rw [hx, show (12 : Int32) = nI 12 from rfl, show (2 : Int32) = nI 2 from rfl, nI_mul, nI_add, nI_add]
theorem RelM.workers (R : RelM S g A mk ks tk tkt) (k : Nat) : M_X10_workers k S = some (nI A.W) := by
  unfold M_X10_workers M_X10_workers_0
  rw [gG R.gs, ifin (i := 0) (x := 0) rfl (by decide)]
  exact congrArg some R.s0
theorem RelM.tenants (R : RelM S g A mk ks tk tkt) (k : Nat) : M_X10_tenants k S = some (nI A.m) := by
  unfold M_X10_tenants M_X10_tenants_0
  rw [gG R.gs, ifin (i := 2) (x := 2) rfl (by decide)]
  exact congrArg some R.s2
theorem RelM.requests (R : RelM S g A mk ks tk tkt) (k : Nat) : M_X10_requests k S = some (nI A.n) := by
  unfold M_X10_requests M_X10_requests_0
  rw [gG R.gs, ifin (i := 3) (x := 3) rfl (by decide)]
  exact congrArg some R.s3
theorem RelM.told (R : RelM S g A mk ks tk tkt) (k : Nat) (i : Nat) {x : Int32} (hx : x = nI i := by rfl) (hi : i < 5 := by decide) : M_X10_told k S x = some (nI (A.st i)) := by
  unfold M_X10_told M_X10_told_0
  have e : (5 : Int32) + x = nI (5 + i) := by rw [hx, show (5 : Int32) = nI 5 from rfl, nI_add]
  rw [gG R.gs, ifin e (by omega), e, nI_clamp (by omega), R.se i hi]
theorem RelM.isUp (R : RelM S g A mk ks tk tkt) (w : AW A) (k : Nat) {j : Nat} (hj : j < A.W) : M_X10_isUp k S (nI j) = some (b1 (A.up j)) := by
  have := w.w12
  unfold M_X10_isUp M_X10_isUp_0
  rw [gG R.gs, worAt k j 0 (x := 0) rfl, Option.bind_some, ifin rfl (by omega), nI_clamp (by omega), (R.wo j hj).1]
  cases A.up j <;> rfl
theorem RelM.ofT (R : RelM S g A mk ks tk tkt) (w : AW A) (k : Nat) {t : Nat} (ht : t < A.m) : M_X10_ofTenant k S (nI t) 0 = some (nI (A.sh t)) ∧ M_X10_ofTenant k S (nI t) 1 = some (A.qe t) ∧ M_X10_ofTenant k S (nI t) 2 = some (nI (mk t)) := by
  have := w.m12
  refine ⟨?_, ?_, ?_⟩
  · unfold M_X10_ofTenant M_X10_ofTenant_0
    rw [gG R.gs, tenAt k t 0 (x := 0) rfl, Option.bind_some, ifin rfl (by omega), nI_clamp (by omega), (R.te t ht).1]
  · unfold M_X10_ofTenant M_X10_ofTenant_0
    rw [gG R.gs, tenAt k t 1 (x := 1) rfl, Option.bind_some, ifin rfl (by omega), nI_clamp (by omega), (R.te t ht).2.1]
  · unfold M_X10_ofTenant M_X10_ofTenant_0
    rw [gG R.gs, tenAt k t 2 (x := 2) rfl, Option.bind_some, ifin rfl (by omega), nI_clamp (by omega), (R.te t ht).2.2]
theorem RelM.q (R : RelM S g A mk ks tk tkt) (w : AW A) (k : Nat) {r : Nat} (hr : r < A.n) (c : Nat) {x : Int32} (hx : x = nI c := by rfl) (hc : c < 8 := by decide) : M_X10_of k S (nI r) x = some (A.Q r c) := by
  have := w.n60
  unfold M_X10_of M_X10_of_0
  rw [gG R.gs, reqAt k r c hx, Option.bind_some, ifin rfl (by omega), nI_clamp (by omega), R.rq r c hr hc]
theorem RelM.tick (R : RelM S g A mk ks tk tkt) (w : AW A) (k : Nat) {r : Nat} (hr : r < A.n) {x : Int32} (hx : x = nI 8 := by rfl) : M_X10_of k S (nI r) x = some (nI (tkt r)) := by
  have := w.n60
  unfold M_X10_of M_X10_of_0
  rw [gG R.gs, reqAt k r 8 hx, Option.bind_some, ifin rfl (by omega), nI_clamp (by omega), R.ti r hr]
theorem RelM.isIn (R : RelM S g A mk ks tk tkt) (w : AW A) (k : Nat) {r : Nat} (hr : r < A.n) (x y : Int32) : M_X10_isIn k S (nI r) x y = some (b1 (A.Q r 4 == x && A.Q r 6 == y)) := by
  unfold M_X10_isIn M_X10_isIn_0
  rw [R.q w k hr 4, Option.bind_some, R.q w k hr 6, Option.bind_some]
  by_cases h1 : A.Q r 4 = x
  · rw [if_pos h1, beq_iff_eq.mpr h1]
    by_cases h2 : A.Q r 6 = y
    · rw [if_pos h2, beq_iff_eq.mpr h2]; rfl
    · rw [if_neg h2, beq_false_of_ne h2]; rfl
  · rw [if_neg h1, beq_false_of_ne h1]; rfl
theorem RelM.isOpen (R : RelM S g A mk ks tk tkt) (w : AW A) (k : Nat) {t : Nat} (ht : t < A.m) : M_X10_isOpen k S (nI t) = some (b1 (A.qe t == -1)) := by
  unfold M_X10_isOpen M_X10_isOpen_0
  rw [(R.ofT w k ht).2.1, Option.bind_some]
  by_cases h1 : A.qe t = -1
  · rw [if_pos h1, beq_iff_eq.mpr h1]; rfl
  · rw [if_neg h1, beq_false_of_ne h1]; rfl
/-- a cell of a request is written -/
theorem RelM.putQ (R : RelM S g A mk ks tk tkt) (w : AW A) (k : Nat) {r : Nat} (hr : r < A.n) (c : Nat) (v : Int32) {x : Int32} (hx : x = nI c := by rfl) (hc : c < 8 := by decide) : ∃ S', M_X10_put k S (nI r) x v = some S' ∧ RelM S' g (A.wQ (setQ A.Q r c v)) mk ks tk tkt ∧ ∀ j, j ≠ g → S' j = S j := by
  have h60 := w.n60
  refine ⟨va_up S g (upd (S g) (72 + 9 * r + c) v), ?_, ?_, fun j hj => vaN S _ hj⟩
  · unfold M_X10_put M_X10_put_0
    rw [gG R.gs, reqAt k r c hx, Option.bind_some, ifin rfl (by omega), nI_clamp (by omega), lt_eq]
  · have hw := w.w12
    have hm := w.m12
    have ne : ∀ i, i ≠ 72 + 9 * r + c → va_up S g (upd (S g) (72 + 9 * r + c) v) g i = S g i := fun i hi => by rw [vaS, upd_ne _ _ hi]
    exact (RelM.ofs
      (gs := R.gs.up _)
      (s0 := (ne 0 (by omega)).trans R.s0)
      (s1 := (ne 1 (by omega)).trans R.s1)
      (s2 := (ne 2 (by omega)).trans R.s2)
      (s3 := (ne 3 (by omega)).trans R.s3)
      (s4 := (ne 4 (by omega)).trans R.s4)
      (se := fun i hi => (ne (5 + i) (by omega)).trans (R.se i hi))
      (s10 := (ne 10 (by omega)).trans R.s10)
      (s11 := (ne 11 (by omega)).trans R.s11)
      (wo := fun j hj => by
        have hj : j < A.W := hj
        exact ⟨(ne _ (by omega)).trans (R.wo j hj).1, (ne _ (by omega)).trans (R.wo j hj).2⟩)
      (te := fun t ht => by
        have ht : t < A.m := ht
        exact ⟨(ne _ (by omega)).trans (R.te t ht).1, (ne _ (by omega)).trans (R.te t ht).2.1, (ne _ (by omega)).trans (R.te t ht).2.2⟩)
      (rq := fun r' c' hr' hc' => by
        show _ = setQ A.Q r c v r' c'
        by_cases h : r' = r ∧ c' = c
        · rw [h.1, h.2, vaS, upd_self, setQ_self]
        · rw [ne _ (by omega), setQ_ne h]
          exact R.rq r' c' hr' hc')
      (ti := fun r' hr' => (ne _ (by omega)).trans (R.ti r' hr'))
      (ki := fun i hi => by
        have hr2 : r < 60 := by omega
        exact ⟨(ne _ (by omega)).trans (R.ki i hi).1, (ne _ (by omega)).trans (R.ki i hi).2.1, (ne _ (by omega)).trans (R.ki i hi).2.2⟩))
end REF
