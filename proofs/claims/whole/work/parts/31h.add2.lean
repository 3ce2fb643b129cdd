-- ===== a request is made, on both sides =====
section CLS
variable {F : VV} {A : AF} {fg : Nat → Nat} {ks : KL} {k : Nat}
/-- the class lays a request, before it is routed or refused -/
theorem RelC.lay (R : RelC F A fg ks) {t : Nat} (c p : Int32) {G : Nat → Int32} (hG : ∀ j, j ≠ A.n * 8 → j ≠ A.n * 8 + 1 → j ≠ A.n * 8 + 2 → j ≠ A.n * 8 + 3 → j ≠ A.n * 8 + 5 → j ≠ A.n * 8 + 7 → G j = F 4 j)
    (h0 : G (A.n * 8) = nI t) (h1 : G (A.n * 8 + 1) = c) (h2 : G (A.n * 8 + 2) = c) (h3 : G (A.n * 8 + 3) = p) (h5 : G (A.n * 8 + 5) = 0) (h7 : G (A.n * 8 + 7) = -1) :
    RelC (va_up (va_up F 0 (upd (F 0) 3 (nI (A.n + 1)))) 4 G) (layA A t c p (F 4 (A.n * 8 + 4)) (F 4 (A.n * 8 + 6))) fg ks :=
  RelC.ofs (s0 := R.s0) (s1 := R.s1) (s2 := R.s2) (s3 := rfl) (s4 := R.s4) (s5 := R.s5) (s6 := R.s6) (se := R.se) (ag := R.ag) (te := R.te)
    (rq := fun r x hr hx => by
      have hr : r < A.n + 1 := hr
      show G (r * 8 + x) = layQ A.Q A.n (nI t) c p (F 4 (A.n * 8 + 4)) (F 4 (A.n * 8 + 6)) r x
      by_cases e : r = A.n
      · subst e
        rw [layQ_n]
        rcases (show x = 0 ∨ x = 1 ∨ x = 2 ∨ x = 3 ∨ x = 4 ∨ x = 5 ∨ x = 6 ∨ x = 7 by omega) with rfl | rfl | rfl | rfl | rfl | rfl | rfl | rfl
        · exact h0
        · exact h1
        · exact h2
        · exact h3
        · exact hG _ (by omega) (by omega) (by omega) (by omega) (by omega) (by omega)
        · exact h5
        · exact hG _ (by omega) (by omega) (by omega) (by omega) (by omega) (by omega)
        · exact h7
      · rw [layQ_ne _ _ _ _ _ _ x e, hG _ (by omega) (by omega) (by omega) (by omega) (by omega) (by omega)]
        exact R.rq r x (by omega) hx)
    (li := R.li) (k0 := R.k0) (k1 := R.k1) (kp := R.kp)
def pz (p : Int32) : Int32 := if p = 0 then 0 else 1
theorem co_lay (R : RelC F A fg ks) (w : AW A) (hn : A.n < 60) {t : Nat} (ht : t < A.m) (c p : Int32) : ∃ F1, RelC F1 (layA A t c (pz p) (F 4 (A.n * 8 + 4)) (F 4 (A.n * 8 + 6))) fg ks ∧
    M_X0_addRequest k F (nI t) c p = ((M_X0_isQuarantined k F1 (nI t)).bind fun q7 => if q7 = 0 then ((M_X0_route k F1 (nI A.n)).bind fun q9 => some (nI A.n, q9)) else ((M_X0_end k F1 (nI A.n) 4).bind fun q10 => some (nI A.n, q10))) := by
  have hm := w.m12
  have fin : ∀ v, v = pz p → ∃ F1, RelC F1 (layA A t c (pz p) (F 4 (A.n * 8 + 4)) (F 4 (A.n * 8 + 6))) fg ks ∧
      M_X0_addRequest_65 k (nI t) (nI A.n) (nI A.n) 3 v (va_up (va_up F 0 (upd (F 0) 3 (nI (A.n + 1)))) 4 (upd (upd (upd (F 4) (A.n * 8 + 0) (nI t)) (A.n * 8 + 1) c) (A.n * 8 + 2) c)) = ((M_X0_isQuarantined k F1 (nI t)).bind fun q7 => if q7 = 0 then ((M_X0_route k F1 (nI A.n)).bind fun q9 => some (nI A.n, q9)) else ((M_X0_end k F1 (nI A.n) 4).bind fun q10 => some (nI A.n, q10))) := by
    intro v hv
    subst hv
    refine ⟨_, R.lay (t := t) c (pz p) (G := upd (upd (upd (upd (upd (upd (F 4) (A.n * 8 + 0) (nI t)) (A.n * 8 + 1) c) (A.n * 8 + 2) c) (A.n * 8 + 3) (pz p)) (A.n * 8 + 5) 0) (A.n * 8 + 7) (-1)) ?_ ?_ ?_ ?_ ?_ ?_ ?_, ?_⟩
    · intro j h0 h1 h2 h3 h5 h7
      rw [upd_ne _ _ h7, upd_ne _ _ h5, upd_ne _ _ h3, upd_ne _ _ h2, upd_ne _ _ h1, upd_ne _ _ (by omega)]
    · rw [upd_ne _ _ (by omega), upd_ne _ _ (by omega), upd_ne _ _ (by omega), upd_ne _ _ (by omega), upd_ne _ _ (by omega)]
      exact upd_self _ _ _
    · rw [upd_ne _ _ (by omega), upd_ne _ _ (by omega), upd_ne _ _ (by omega), upd_ne _ _ (by omega), upd_self]
    · rw [upd_ne _ _ (by omega), upd_ne _ _ (by omega), upd_ne _ _ (by omega), upd_self]
    · rw [upd_ne _ _ (by omega), upd_ne _ _ (by omega), upd_self]
    · rw [upd_ne _ _ (by omega), upd_self]
    · rw [upd_self]
    · simp only [M_X0_addRequest_65, lt_eq]
      rw [TQ_putI k (r := A.n) (c := 3) (x := 3) hn (by decide) rfl, Option.bind_some, TQ_putI k (r := A.n) (c := 5) (x := 5) hn (by decide) rfl, Option.bind_some, TQ_putI k (r := A.n) (c := 7) (x := 7) hn (by decide) rfl, Option.bind_some]
      rw [va_up_up, va_up_up, va_up_up]
      rfl
  simp only [M_X0_addRequest, M_X0_addRequest_0, lt_eq]
  rw [R.s3, nI_1, TQ_putI k (r := A.n) (c := 0) (x := 0) hn (by decide) rfl, Option.bind_some, TQ_putI k (r := A.n) (c := 1) (x := 1) hn (by decide) rfl, Option.bind_some, TQ_putI k (r := A.n) (c := 2) (x := 2) hn (by decide) rfl, Option.bind_some]
  rw [va_up_up, va_up_up]
  by_cases hp : p = 0
  · rw [if_pos hp]
    exact fin 0 (by unfold pz; rw [if_pos hp])
  · rw [if_neg hp]
    exact fin 1 (by unfold pz; rw [if_neg hp])
end CLS
section REF
variable {S : VV} {g : Nat} {A : AF} {mk : Nat → Nat} {ks : KL} {tk : Nat} {tkt : Nat → Nat} {k : Nat}
theorem m_put (k : Nat) (gs : GS S g) {r c : Nat} (hr : r < 60) (hc : c < 9) {x : Int32} (hx : x = nI c) (G : Nat → Int32) (v : Int32) : M_X10_put k (va_up S g G) (nI r) x v = some (va_up S g (upd G (72 + 9 * r + c) v)) := by
  unfold M_X10_put M_X10_put_0
  rw [gG (gs.up G), reqAt k r c hx, Option.bind_some, ifin rfl (by omega), nI_clamp (by omega), lt_eq, vaS, va_up_up]
theorem va_same (S : VV) (g : Nat) : va_up S g (S g) = S := by
  funext j
  unfold va_up
  by_cases h : j = g
  · rw [if_pos h, h]
  · rw [if_neg h]
theorem ro_lay (R : RelM S g A mk ks tk tkt) (w : AW A) (hn : A.n < 60) {t : Nat} (ht : t < A.m) (hl : ks.length ≤ 360) (c p : Int32) : ∃ S', M_X10_layRequest k S (nI t) c p = some S' ∧ RelM S' g (layA A t c (pz p) 4 (-1)) mk ks tk (newT tkt A.n 0) ∧ ∀ j, j ≠ g → S' j = S j := by
  have hm := w.m12
  have hW := w.w12
  have c3 : Int32.toNatClampNeg 3 = 3 := by decide
  have fin : ∀ v, v = pz p → ∃ S', M_X10_layRequest_45 k (nI A.n) (nI A.n) 3 v (va_up S g (upd (upd (upd (S g) (72 + 9 * A.n + 0) (nI t)) (72 + 9 * A.n + 1) c) (72 + 9 * A.n + 2) c)) = some S' ∧ RelM S' g (layA A t c (pz p) 4 (-1)) mk ks tk (newT tkt A.n 0) ∧ ∀ j, j ≠ g → S' j = S j := by
    intro v hv
    subst hv
    refine ⟨va_up S g (upd (upd (upd (upd (upd (upd (upd (upd (upd (upd (S g) (72 + 9 * A.n + 0) (nI t)) (72 + 9 * A.n + 1) c) (72 + 9 * A.n + 2) c) (72 + 9 * A.n + 3) (pz p)) (72 + 9 * A.n + 4) 4) (72 + 9 * A.n + 5) 0) (72 + 9 * A.n + 6) (-1)) (72 + 9 * A.n + 7) (-1)) (72 + 9 * A.n + 8) 0) 3 (nI (A.n + 1))), ?_, ?_, fun j hj => vaN _ _ hj⟩
    · simp only [M_X10_layRequest_45]
      rw [m_put k R.gs (r := A.n) (c := 3) (x := 3) hn (by decide) rfl, Option.bind_some, m_put k R.gs (r := A.n) (c := 4) (x := 4) hn (by decide) rfl, Option.bind_some, m_put k R.gs (r := A.n) (c := 5) (x := 5) hn (by decide) rfl, Option.bind_some, m_put k R.gs (r := A.n) (c := 6) (x := 6) hn (by decide) rfl, Option.bind_some, m_put k R.gs (r := A.n) (c := 7) (x := 7) hn (by decide) rfl, Option.bind_some, m_put k R.gs (r := A.n) (c := 8) (x := 8) hn (by decide) rfl, Option.bind_some]
      rw [gG (R.gs.up _), ifin (i := 3) (x := 3) rfl (by decide), ifin (i := 3) (x := 3) rfl (by decide), lt_eq, c3, vaS]
      rw [upd_ne _ _ (show 3 ≠ 72 + 9 * A.n + 8 by omega), upd_ne _ _ (show 3 ≠ 72 + 9 * A.n + 7 by omega), upd_ne _ _ (show 3 ≠ 72 + 9 * A.n + 6 by omega), upd_ne _ _ (show 3 ≠ 72 + 9 * A.n + 5 by omega), upd_ne _ _ (show 3 ≠ 72 + 9 * A.n + 4 by omega), upd_ne _ _ (show 3 ≠ 72 + 9 * A.n + 3 by omega), upd_ne _ _ (show 3 ≠ 72 + 9 * A.n + 2 by omega), upd_ne _ _ (show 3 ≠ 72 + 9 * A.n + 1 by omega), upd_ne _ _ (show 3 ≠ 72 + 9 * A.n + 0 by omega), R.s3, nI_1, va_up_up]
    · have ne : ∀ i, i ≠ 3 → (i < 72 + 9 * A.n ∨ 72 + 9 * A.n + 9 ≤ i) → va_up S g (upd (upd (upd (upd (upd (upd (upd (upd (upd (upd (S g) (72 + 9 * A.n + 0) (nI t)) (72 + 9 * A.n + 1) c) (72 + 9 * A.n + 2) c) (72 + 9 * A.n + 3) (pz p)) (72 + 9 * A.n + 4) 4) (72 + 9 * A.n + 5) 0) (72 + 9 * A.n + 6) (-1)) (72 + 9 * A.n + 7) (-1)) (72 + 9 * A.n + 8) 0) 3 (nI (A.n + 1))) g i = S g i := fun i h3 hi => by
        rw [vaS, upd_ne _ _ h3, upd_ne _ _ (by omega), upd_ne _ _ (by omega), upd_ne _ _ (by omega), upd_ne _ _ (by omega), upd_ne _ _ (by omega), upd_ne _ _ (by omega), upd_ne _ _ (by omega), upd_ne _ _ (by omega), upd_ne _ _ (by omega)]
      refine RelM.ofs (gs := R.gs.up _) (s0 := (ne 0 (by omega) (by omega)).trans R.s0) (s1 := (ne 1 (by omega) (by omega)).trans R.s1) (s2 := (ne 2 (by omega) (by omega)).trans R.s2) (s3 := ?_) (s4 := (ne 4 (by omega) (by omega)).trans R.s4)
        (se := fun i hi => (ne (5 + i) (by omega) (by omega)).trans (R.se i hi)) (s10 := (ne 10 (by omega) (by omega)).trans R.s10) (s11 := (ne 11 (by omega) (by omega)).trans R.s11)
        (wo := fun j hj => ?_) (te := fun t' ht' => ?_) (rq := fun r x hr hx => ?_) (ti := fun r hr => ?_) (ki := fun i hi => ?_)
      · rw [vaS]; exact upd_self _ _ _
      · have hj : j < A.W := hj
        exact ⟨(ne _ (by omega) (by omega)).trans (R.wo j hj).1, (ne _ (by omega) (by omega)).trans (R.wo j hj).2⟩
      · have ht' : t' < A.m := ht'
        exact ⟨(ne _ (by omega) (by omega)).trans (R.te t' ht').1, (ne _ (by omega) (by omega)).trans (R.te t' ht').2.1, (ne _ (by omega) (by omega)).trans (R.te t' ht').2.2⟩
      · have hr : r < A.n + 1 := hr
        show _ = layQ A.Q A.n (nI t) c (pz p) 4 (-1) r x
        by_cases e : r = A.n
        · subst e
          rw [layQ_n, vaS, upd_ne _ _ (by omega), upd_ne _ _ (by omega)]
          rcases (show x = 0 ∨ x = 1 ∨ x = 2 ∨ x = 3 ∨ x = 4 ∨ x = 5 ∨ x = 6 ∨ x = 7 by omega) with rfl | rfl | rfl | rfl | rfl | rfl | rfl | rfl
          · rw [upd_ne _ _ (by omega), upd_ne _ _ (by omega), upd_ne _ _ (by omega), upd_ne _ _ (by omega), upd_ne _ _ (by omega), upd_ne _ _ (by omega), upd_ne _ _ (by omega), upd_self]; rfl
          · rw [upd_ne _ _ (by omega), upd_ne _ _ (by omega), upd_ne _ _ (by omega), upd_ne _ _ (by omega), upd_ne _ _ (by omega), upd_ne _ _ (by omega), upd_self]; rfl
          · rw [upd_ne _ _ (by omega), upd_ne _ _ (by omega), upd_ne _ _ (by omega), upd_ne _ _ (by omega), upd_ne _ _ (by omega), upd_self]; rfl
          · rw [upd_ne _ _ (by omega), upd_ne _ _ (by omega), upd_ne _ _ (by omega), upd_ne _ _ (by omega), upd_self]; rfl
          · rw [upd_ne _ _ (by omega), upd_ne _ _ (by omega), upd_ne _ _ (by omega), upd_self]; rfl
          · rw [upd_ne _ _ (by omega), upd_ne _ _ (by omega), upd_self]; rfl
          · rw [upd_ne _ _ (by omega), upd_self]; rfl
          · rw [upd_self]; rfl
        · rw [layQ_ne _ _ _ _ _ _ x e, ne _ (by omega) (by omega)]
          exact R.rq r x (by omega) hx
      · have hr : r < A.n + 1 := hr
        unfold newT
        by_cases e : r = A.n
        · subst e
          rw [if_pos rfl, vaS, upd_ne _ _ (by omega), upd_self]
          rfl
        · rw [if_neg e, ne _ (by omega) (by omega)]
          exact R.ti r (by omega)
      · exact ⟨(ne _ (by omega) (by omega)).trans (R.ki i hi).1, (ne _ (by omega) (by omega)).trans (R.ki i hi).2.1, (ne _ (by omega) (by omega)).trans (R.ki i hi).2.2⟩
  simp only [M_X10_layRequest, M_X10_layRequest_0]
  have e3 : (if inb (3 : Int32) 1692 = true then lt (S g (3 : Int32).toNatClampNeg) fun v13 => (M_X10_put k S v13 (0 : Int32) (nI t)).bind fun q14 => (M_X10_put k q14 v13 (1 : Int32) c).bind fun q15 => (M_X10_put k q15 v13 (2 : Int32) c).bind fun q16 => if p = 0 then (M_X10_layRequest_45 k v13 v13 (3 : Int32) (0 : Int32) q16) else (M_X10_layRequest_45 k v13 v13 (3 : Int32) (1 : Int32) q16) else none) = (if p = 0 then M_X10_layRequest_45 k (nI A.n) (nI A.n) 3 0 (va_up S g (upd (upd (upd (S g) (72 + 9 * A.n + 0) (nI t)) (72 + 9 * A.n + 1) c) (72 + 9 * A.n + 2) c)) else M_X10_layRequest_45 k (nI A.n) (nI A.n) 3 1 (va_up S g (upd (upd (upd (S g) (72 + 9 * A.n + 0) (nI t)) (72 + 9 * A.n + 1) c) (72 + 9 * A.n + 2) c))) := by
    have m0 := m_put (S := S) k R.gs (r := A.n) (c := 0) (x := 0) hn (by decide) rfl (S g) (nI t)
    rw [va_same] at m0
    rw [ifin (i := 3) (x := 3) rfl (by decide), lt_eq, c3, R.s3, m0, Option.bind_some, m_put k R.gs (r := A.n) (c := 1) (x := 1) hn (by decide) rfl, Option.bind_some, m_put k R.gs (r := A.n) (c := 2) (x := 2) hn (by decide) rfl, Option.bind_some]
  rw [gG R.gs, e3]
  by_cases hp : p = 0
  · rw [if_pos hp]
    exact fin 0 (by unfold pz; rw [if_pos hp])
  · rw [if_neg hp]
    exact fin 1 (by unfold pz; rw [if_neg hp])
end REF
/-- what a new request leaves alone -/
def SameN (A B : AF) : Prop := (B.W = A.W) ∧ (B.Z = A.Z) ∧ (B.m = A.m) ∧ (B.n = A.n + 1) ∧ (B.t = A.t) ∧ (B.up = A.up) ∧ (B.st = A.st) ∧ (B.sh = A.sh) ∧ (B.qe = A.qe)
theorem SameN.W {A B : AF} (R__ : SameN A B) : B.W = A.W := R__.1
theorem SameN.Z {A B : AF} (R__ : SameN A B) : B.Z = A.Z := R__.2.1
theorem SameN.m {A B : AF} (R__ : SameN A B) : B.m = A.m := R__.2.2.1
theorem SameN.n {A B : AF} (R__ : SameN A B) : B.n = A.n + 1 := R__.2.2.2.1
theorem SameN.t {A B : AF} (R__ : SameN A B) : B.t = A.t := R__.2.2.2.2.1
theorem SameN.up {A B : AF} (R__ : SameN A B) : B.up = A.up := R__.2.2.2.2.2.1
theorem SameN.st {A B : AF} (R__ : SameN A B) : B.st = A.st := R__.2.2.2.2.2.2.1
theorem SameN.sh {A B : AF} (R__ : SameN A B) : B.sh = A.sh := R__.2.2.2.2.2.2.2.1
theorem SameN.qe {A B : AF} (R__ : SameN A B) : B.qe = A.qe := R__.2.2.2.2.2.2.2.2
theorem SameN.ofs {A B : AF} (W : B.W = A.W) (Z : B.Z = A.Z) (m : B.m = A.m) (n : B.n = A.n + 1) (t : B.t = A.t) (up : B.up = A.up) (st : B.st = A.st) (sh : B.sh = A.sh) (qe : B.qe = A.qe) : SameN A B := ⟨W, Z, m, n, t, up, st, sh, qe⟩
theorem jr_addOpen {F S : VV} {g N k : Nat} {A : AF} (J : JR F S g A N) {t : Nat} (ht : t < A.m) (hn : A.n < 60) (hq : A.qe t = -1) (c p : Int32) (hk : 20000 ≤ k) :
    ∃ F' S1 S' A', M_X0_addRequest k F (nI t) c p = some (nI A.n, F') ∧ M_X10_layRequest k S (nI t) c p = some S1 ∧ M_X10_isOpen k S1 (nI t) = some 1 ∧ M_X10_route k S1 (nI A.n) = some S' ∧ JR F' S' g A' (N + 1) ∧ SameN A A' ∧ ∀ j, j ≠ g → S' j = S j := by
  obtain ⟨fg, mk, ks, ks', tk, tkt, R, M, I, hN⟩ := J
  have h := I.li
  have hl := I.ac.le h
  obtain ⟨F1, R1, e1⟩ := co_lay (k := k) R h.toAW hn ht c p
  obtain ⟨S1, e2, M1, f1⟩ := ro_lay (k := k) M h.toAW hn ht (by rw [I.pm.length_eq]; exact hl) c p
  have L1 := layA_LI (c := c) (p := pz p) h ht hn
  have w1 : AW (layA A t c (pz p) (F 4 (A.n * 8 + 4)) (F 4 (A.n * 8 + 6))) := layA_AW h.toAW ht hn
  have q1 := R1.quar w1 k (t := t) ht
  have q1 : M_X0_isQuarantined k F1 (nI t) = some 0 := by
    rw [q1]
    show some (b1 (A.qe t != -1)) = some 0
    rw [hq]; rfl
  obtain ⟨F', e3, R3⟩ := co_routeL (k := k) R1 w1 (layA_AL h.toAL) hk (r := A.n) (Nat.lt_succ_self _) (layA_not h.toAL)
  rw [layA_route h ht hn] at R3
  obtain ⟨S', e4, M4, f4⟩ := ro_route (k := k) M1 L1.toAW hk (r := A.n) (Nat.lt_succ_self _)
  have hop : M_X10_isOpen k S1 (nI t) = some 1 := by
    rw [M1.isOpen L1.toAW k (t := t) ht]
    show some (b1 (A.qe t == -1)) = some 1
    rw [hq]; rfl
  refine ⟨F', S1, S', routeA (layA A t c (pz p) 4 (-1)) A.n, ?_, e2, hop, e4, ⟨fg, mk, ks, ks', tk + 1, newT (newT tkt A.n 0) A.n tk, R3, M4, RST.ofs (li := L1.routeN (Nat.lt_succ_self _)) (su := su_route L1.toAW (layA_SU h I.su) _) (sr := sr_route (layA_SR I.sr) _) (tt := ?_) (ko := ⟨I.ko.so, I.ko.le⟩) (pm := I.pm) (km := I.km) (fl := I.fl) (ac := ?_) (r5 := I.r5) (pc := I.pc) (z4 := I.z4), by omega⟩, ⟨rfl, rfl, rfl, rfl, rfl, rfl, rfl, rfl, rfl⟩, fun j hj => (f4 j hj).trans (f1 j hj)⟩
  · rw [e1, q1, Option.bind_some, if_pos rfl, e3, Option.bind_some]
  · have t1 : TO (layA A t c (pz p) 4 (-1)) tk (newT tkt A.n 0) := by
      have hne : ∀ x, x ∈ A.ln → newT tkt A.n 0 x = tkt x := fun x hx => if_neg (c := x = A.n) (fun e => layA_not h.toAL (e ▸ hx))
      refine ⟨?_, fun r hr => ?_⟩
      · show A.ln.Pairwise _
        refine List.Pairwise.imp_of_mem ?_ I.tt.so
        intro a b ha hb hab
        rw [hne a ha, hne b hb]
        exact hab
      · have hr : r ∈ A.ln := hr
        rw [hne r hr]
        exact I.tt.lt r hr
    exact t1.route
  · exact AT.routeN (layA_AT I.ac) (by rw [layA_atn]; decide)
theorem jr_addShut {F S : VV} {g N k : Nat} {A : AF} (J : JR F S g A N) {t : Nat} (ht : t < A.m) (hn : A.n < 60) (hq : A.qe t ≠ -1) (c p : Int32) :
    ∃ F' S1 S' A', M_X0_addRequest k F (nI t) c p = some (nI A.n, F') ∧ M_X10_layRequest k S (nI t) c p = some S1 ∧ M_X10_isOpen k S1 (nI t) = some 0 ∧ M_X10_end k S1 (nI A.n) 4 = some S' ∧ JR F' S' g A' N ∧ SameN A A' ∧ ∀ j, j ≠ g → S' j = S j := by
  obtain ⟨fg, mk, ks, ks', tk, tkt, R, M, I, hN⟩ := J
  have h := I.li
  have hl := I.ac.le h
  obtain ⟨F1, R1, e1⟩ := co_lay (k := k) R h.toAW hn ht c p
  obtain ⟨S1, e2, M1, f1⟩ := ro_lay (k := k) M h.toAW hn ht (by rw [I.pm.length_eq]; exact hl) c p
  have L1 := layA_LI (c := c) (p := pz p) h ht hn
  have w1 : AW (layA A t c (pz p) (F 4 (A.n * 8 + 4)) (F 4 (A.n * 8 + 6))) := layA_AW h.toAW ht hn
  have hb : (A.qe t != -1) = true := bne_iff_ne.mpr hq
  have hb2 : (A.qe t == -1) = false := beq_false_of_ne hq
  have q1 := R1.quar w1 k (t := t) ht
  have q1 : M_X0_isQuarantined k F1 (nI t) = some 1 := by
    rw [q1]
    show some (b1 (A.qe t != -1)) = some 1
    rw [hb]; rfl
  obtain ⟨F', e3, R3⟩ := co_end (k := k) R1 w1 (r := A.n) (Nat.lt_succ_self _) 4
  rw [layA_end h] at R3
  obtain ⟨S', e4, M4, f4⟩ := ro_end (k := k) M1 L1.toAW (r := A.n) (Nat.lt_succ_self _) 4
  have M4 : RelM S' g (endL (layA A t c (pz p) 4 (-1)) A.n 4) mk ks' tk (newT tkt A.n 0) := M4.wL _
  have hop : M_X10_isOpen k S1 (nI t) = some 0 := by
    rw [M1.isOpen L1.toAW k (t := t) ht]
    show some (b1 (A.qe t == -1)) = some 0
    rw [hb2]; rfl
  refine ⟨F', S1, S', endL (layA A t c (pz p) 4 (-1)) A.n 4, ?_, e2, hop, e4, ⟨fg, mk, ks, ks', tk, newT tkt A.n 0, R3, M4, RST.ofs (li := L1.endN (Nat.lt_succ_self _) (by decide)) (su := su_endL (layA_SU h I.su) _ _) (sr := SR.endL (layA_SR I.sr) _ (x := 4) (by decide)) (tt := ?_) (ko := ⟨I.ko.so, I.ko.le⟩) (pm := I.pm) (km := I.km) (fl := I.fl) (ac := (layA_AT I.ac).endL _ (by decide)) (r5 := I.r5) (pc := I.pc) (z4 := I.z4), hN⟩, ⟨rfl, rfl, rfl, rfl, rfl, rfl, rfl, rfl, rfl⟩, fun j hj => (f4 j hj).trans (f1 j hj)⟩
  · rw [e1, q1, Option.bind_some, if_neg (by decide), e3, Option.bind_some]
  · have hne : ∀ x, x ∈ A.ln → newT tkt A.n 0 x = tkt x := fun x hx => if_neg (c := x = A.n) (fun e => layA_not h.toAL (e ▸ hx))
    have hf : (endL (layA A t c (pz p) 4 (-1)) A.n 4).ln = A.ln := filter_not (layA_not h.toAL)
    refine ⟨?_, fun r hr => ?_⟩
    · rw [hf]
      refine List.Pairwise.imp_of_mem ?_ I.tt.so
      intro a b ha hb hab
      rw [hne a ha, hne b hb]
      exact hab
    · rw [hf] at hr
      rw [hne r hr]
      exact I.tt.lt r hr
