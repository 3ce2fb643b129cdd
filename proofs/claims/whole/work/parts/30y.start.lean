-- ===== workers start again =====
def upS (A : AF) (i : Nat) : AF := mkA A.W A.Z A.m A.n A.t (fun j => j == i || A.up j) (up1 A.again i (-1)) A.st A.sh A.qe A.Q A.ln
def stF (A : AF) : Nat → AF
  | 0 => A
  | i + 1 => if (stF A i).up i = false ∧ (stF A i).again i ≤ nI A.t then upS (stF A i) i else stF A i
def SameU (A B : AF) : Prop := (B.W = A.W) ∧ (B.Z = A.Z) ∧ (B.m = A.m) ∧ (B.n = A.n) ∧ (B.t = A.t) ∧ (B.st = A.st) ∧ (B.sh = A.sh) ∧ (B.qe = A.qe) ∧ (B.Q = A.Q) ∧ (B.ln = A.ln) ∧ (∀ j, A.up j = true → B.up j = true)
theorem SameU.W {A B : AF} (R__ : SameU A B) : B.W = A.W := R__.1
theorem SameU.Z {A B : AF} (R__ : SameU A B) : B.Z = A.Z := R__.2.1
theorem SameU.m {A B : AF} (R__ : SameU A B) : B.m = A.m := R__.2.2.1
theorem SameU.n {A B : AF} (R__ : SameU A B) : B.n = A.n := R__.2.2.2.1
theorem SameU.t {A B : AF} (R__ : SameU A B) : B.t = A.t := R__.2.2.2.2.1
theorem SameU.st {A B : AF} (R__ : SameU A B) : B.st = A.st := R__.2.2.2.2.2.1
theorem SameU.sh {A B : AF} (R__ : SameU A B) : B.sh = A.sh := R__.2.2.2.2.2.2.1
theorem SameU.qe {A B : AF} (R__ : SameU A B) : B.qe = A.qe := R__.2.2.2.2.2.2.2.1
theorem SameU.Q {A B : AF} (R__ : SameU A B) : B.Q = A.Q := R__.2.2.2.2.2.2.2.2.1
theorem SameU.ln {A B : AF} (R__ : SameU A B) : B.ln = A.ln := R__.2.2.2.2.2.2.2.2.2.1
theorem SameU.up {A B : AF} (R__ : SameU A B) : ∀ j, A.up j = true → B.up j = true := R__.2.2.2.2.2.2.2.2.2.2
theorem SameU.ofs {A B : AF} (W : B.W = A.W) (Z : B.Z = A.Z) (m : B.m = A.m) (n : B.n = A.n) (t : B.t = A.t) (st : B.st = A.st) (sh : B.sh = A.sh) (qe : B.qe = A.qe) (Q : B.Q = A.Q) (ln : B.ln = A.ln) (up : ∀ j, A.up j = true → B.up j = true) : SameU A B := ⟨W, Z, m, n, t, st, sh, qe, Q, ln, up⟩
theorem SameU.refl (A : AF) : SameU A A := ⟨rfl, rfl, rfl, rfl, rfl, rfl, rfl, rfl, rfl, rfl, fun _ h => h⟩
theorem stF_same (A : AF) : ∀ i, SameU A (stF A i)
  | 0 => SameU.refl A
  | i + 1 => by
    have ih := stF_same A i
    unfold stF
    split
    · exact ⟨ih.W, ih.Z, ih.m, ih.n, ih.t, ih.st, ih.sh, ih.qe, ih.Q, ih.ln, fun j h => by
        show (j == i || (stF A i).up j) = true
        rw [ih.up j h, Bool.or_true]⟩
    · exact ih
theorem AW.sameU {A B : AF} (w : AW A) (s : SameU A B) : AW B := ⟨by rw [s.W]; exact w.w2, by rw [s.W]; exact w.w12, by rw [s.Z]; exact w.z1, by rw [s.Z, s.W]; exact w.zw, by rw [s.m]; exact w.m12, by rw [s.n]; exact w.n60, by rw [s.t]; exact w.t4, by rw [s.st]; exact w.se, by rw [s.sh, s.m, s.W]; exact w.sh, by rw [s.n, s.m, s.Q]; exact w.ten⟩
theorem LI.sameU {A B : AF} (h : LI A) (s : SameU A B) : LI B := (LI.ofs (toAW := h.toAW.sameU s) (toAL := ⟨by rw [s.ln]; exact h.nd, by rw [s.ln, s.n]; exact h.me⟩) (wt := by rw [s.ln, s.n, s.Q]; exact h.wt) (q0 := by rw [s.n, s.Q, s.W]; exact h.q0) (q1 := by rw [s.n, s.Q]; exact h.q1))
theorem SU.sameU {A B : AF} (h : SU A) (s : SameU A B) : SU B := fun r j hr hj hq => s.up j (h r j (by rw [← s.ln]; exact hr) (by rw [← s.W]; exact hj) (by rw [← s.Q]; exact hq))
section CLS
variable {F : VV} {A : AF} {fg : Nat → Nat} {ks : KL} {k : Nat}
theorem co_start (R : RelC F A fg ks) (w : AW A) (hk : 20000 ≤ k) : ∃ F', M_X0_startWorkers k F = some F' ∧ RelC F' (stF A A.W) fg ks := by
  have hW := w.w12
  have key : ∀ m i (F : VV), i + m = A.W → RelC F (stF A i) fg ks → ∀ fuel, m < fuel → ∃ F', M_X0_startWorkers_2 k fuel (nI i) F = some F' ∧ RelC F' (stF A A.W) fg ks := by
    intro m
    induction m with
    | zero =>
      intro i F hi R fuel hf
      obtain ⟨f, rfl⟩ : ∃ f, fuel = f + 1 := ⟨fuel - 1, by omega⟩
      have : i = A.W := by omega
      subst this
      refine ⟨F, ?_, R⟩
      simp only [M_X0_startWorkers_2]
      rw [R.s0, (stF_same A A.W).W, if_pos (nI_le (Nat.le_refl _) (by omega))]
    | succ m ih =>
      intro i F hi R fuel hf
      obtain ⟨f, rfl⟩ : ∃ f, fuel = f + 1 := ⟨fuel - 1, by omega⟩
      have sm := stF_same A i
      have w2 := w.sameU sm
      have him : i < A.W := by omega
      have him2 : i < (stF A i).W := by rw [sm.W]; exact him
      have e : stF A (i + 1) = if (stF A i).up i = false ∧ (stF A i).again i ≤ nI A.t then upS (stF A i) i else stF A i := rfl
      have ha : M_X5_at k 12 (F 2) (nI i) = some ((stF A i).again i) := by rw [R_atI k (by omega) (by decide), R.ag i him2]
      have h4 : F 0 4 = nI A.t := by rw [R.s4, sm.t]
      have R1 : RelC (va_up (va_up F 0 (upd (F 0) 5 (nI (msk (fun j => j == i || (stF A i).up j) (stF A i).W)))) 2 (upd (F 2) i (-1))) (upS (stF A i) i) fg ks :=
        (RelC.ofs
      (s0 := R.s0)
      (s1 := R.s1)
      (s2 := R.s2)
      (s3 := R.s3)
      (s4 := R.s4)
      (s5 := rfl)
      (s6 := R.s6)
      (se := R.se)
      (ag := fun j hj => by
            show upd (F 2) i (-1) j = up1 (stF A i).again i (-1) j
            by_cases h : j = i
            · subst h; rw [upd_self, up1_self]
            · rw [upd_ne _ _ h, up1_ne _ _ h]; exact R.ag j hj)
      (te := R.te)
      (rq := R.rq)
      (li := R.li)
      (k0 := R.k0)
      (k1 := R.k1)
      (kp := R.kp))
      have start : M_X0_startWorkers_2 k (f + 1) (nI i) F = (if (stF A i).up i then M_X0_startWorkers_2 k f (nI (i + 1)) F else (if nI A.t < (stF A i).again i then M_X0_startWorkers_2 k f (nI (i + 1)) F else M_X0_startWorkers_2 k f (nI (i + 1)) (va_up (va_up F 0 (upd (F 0) 5 (nI (msk (fun j => j == i || (stF A i).up j) (stF A i).W)))) 2 (upd (F 2) i (-1))))) := by
        simp only [M_X0_startWorkers_2, lt_eq]
        rw [R.s0, sm.W, if_neg (nI_ge him (by omega)), R.isUp w2 k him2, Option.bind_some, ha, Option.bind_some, h4, R.s5, bit_nI (by omega), or_nI, msk_set him2]
        have hp : M_X5_put k 12 (va_up F 0 (upd (F 0) 5 (nI (msk (fun j => j == i || (stF A i).up j) (stF A i).W))) 2) (nI i) (-1) = some (upd (F 2) i (-1)) := R_putI k (i := i) (by omega) (by decide) (F 2) (-1)
        rw [hp, Option.bind_some, nI_1, ite_b1, sm.W]
      by_cases hu : (stF A i).up i = true
      · rw [if_pos hu] at start
        rw [start]
        exact ih (i + 1) F (by omega) (by rw [e, if_neg (fun h => by rw [hu] at h; cases h.1)]; exact R) f (by omega)
      · have hu2 : (stF A i).up i = false := by simpa using hu
        rw [if_neg hu] at start
        by_cases ht : nI A.t < (stF A i).again i
        · rw [if_pos ht] at start
          rw [start]
          exact ih (i + 1) F (by omega) (by rw [e, if_neg (fun h => Int32.not_lt.mpr h.2 ht)]; exact R) f (by omega)
        · rw [if_neg ht] at start
          rw [start]
          exact ih (i + 1) _ (by omega) (by rw [e, if_pos ⟨hu2, Int32.not_lt.mp ht⟩]; exact R1) f (by omega)
  obtain ⟨F', e1, R1⟩ := key A.W 0 F (by omega) R k (by omega)
  rw [nI_0] at e1
  exact ⟨F', e1, R1⟩
end CLS
section REF
variable {S : VV} {g : Nat} {A : AF} {mk : Nat → Nat} {ks : KL} {tk : Nat} {tkt : Nat → Nat} {k : Nat}
theorem RelM.upS (R : RelM S g A mk ks tk tkt) (w : AW A) {i : Nat} (hi : i < A.W) : RelM (va_up S g (upd (upd (S g) (12 + 2 * i + 0) 1) (12 + 2 * i + 1) (-1))) g (upS A i) mk ks tk tkt := by
  have hW := w.w12
  have hm := w.m12
  have hn := w.n60
  have ne : ∀ x, x ≠ 12 + 2 * i + 0 → x ≠ 12 + 2 * i + 1 → va_up S g (upd (upd (S g) (12 + 2 * i + 0) 1) (12 + 2 * i + 1) (-1)) g x = S g x := fun x h1 h2 => by rw [vaS, upd_ne _ _ h2, upd_ne _ _ h1]
  exact (RelM.ofs
      (gs := R.gs.up _)
      (s0 := (ne 0 (by omega) (by omega)).trans R.s0)
      (s1 := (ne 1 (by omega) (by omega)).trans R.s1)
      (s2 := (ne 2 (by omega) (by omega)).trans R.s2)
      (s3 := (ne 3 (by omega) (by omega)).trans R.s3)
      (s4 := (ne 4 (by omega) (by omega)).trans R.s4)
      (se := fun x hx => (ne (5 + x) (by omega) (by omega)).trans (R.se x hx))
      (s10 := (ne 10 (by omega) (by omega)).trans R.s10)
      (s11 := (ne 11 (by omega) (by omega)).trans R.s11)
      (wo := fun j hj => by
      have hj : j < A.W := hj
      show _ = b1 (j == i || A.up j) ∧ _ = up1 A.again i (-1) j
      by_cases h : j = i
      · subst h
        refine ⟨?_, ?_⟩
        · rw [vaS, upd_ne _ _ (by omega), upd_self, beq_self_eq_true]; rfl
        · rw [vaS, upd_self, up1_self]
      · refine ⟨?_, ?_⟩
        · rw [ne _ (by omega) (by omega), (R.wo j hj).1, beq_false_of_ne h, Bool.false_or]
        · rw [ne _ (by omega) (by omega), (R.wo j hj).2, up1_ne _ _ h])
      (te := fun t ht => by
      have ht : t < A.m := ht
      exact ⟨(ne _ (by omega) (by omega)).trans (R.te t ht).1, (ne _ (by omega) (by omega)).trans (R.te t ht).2.1, (ne _ (by omega) (by omega)).trans (R.te t ht).2.2⟩)
      (rq := fun r' c' hr' hc' => (ne _ (by omega) (by omega)).trans (R.rq r' c' hr' hc'))
      (ti := fun r' hr' => (ne _ (by omega) (by omega)).trans (R.ti r' hr'))
      (ki := fun x hx => ⟨(ne _ (by omega) (by omega)).trans (R.ki x hx).1, (ne _ (by omega) (by omega)).trans (R.ki x hx).2.1, (ne _ (by omega) (by omega)).trans (R.ki x hx).2.2⟩))
theorem ro_start (R : RelM S g A mk ks tk tkt) (w : AW A) (hk : 20000 ≤ k) : ∃ S', M_X10_startWorkers k S = some S' ∧ RelM S' g (stF A A.W) mk ks tk tkt ∧ ∀ j, j ≠ g → S' j = S j := by
  have hW := w.w12
  have key : ∀ m i (S : VV), i + m = A.W → RelM S g (stF A i) mk ks tk tkt → ∀ fuel, m < fuel → ∃ S', M_X10_startWorkers_2 k fuel (nI i) S = some S' ∧ RelM S' g (stF A A.W) mk ks tk tkt ∧ ∀ j, j ≠ g → S' j = S j := by
    intro m
    induction m with
    | zero =>
      intro i S hi R fuel hf
      obtain ⟨f, rfl⟩ : ∃ f, fuel = f + 1 := ⟨fuel - 1, by omega⟩
      have : i = A.W := by omega
      subst this
      refine ⟨S, ?_, R, fun _ _ => rfl⟩
      simp only [M_X10_startWorkers_2]
      rw [R.workers k, Option.bind_some, (stF_same A A.W).W, if_pos (nI_le (Nat.le_refl _) (by omega))]
    | succ m ih =>
      intro i S hi R fuel hf
      obtain ⟨f, rfl⟩ : ∃ f, fuel = f + 1 := ⟨fuel - 1, by omega⟩
      have sm := stF_same A i
      have w2 := w.sameU sm
      have him : i < A.W := by omega
      have him2 : i < (stF A i).W := by rw [sm.W]; exact him
      have e : stF A (i + 1) = if (stF A i).up i = false ∧ (stF A i).again i ≤ nI A.t then upS (stF A i) i else stF A i := rfl
      have h4 : S g (Int32.toNatClampNeg 4) = nI A.t := by
        have := R.s4
        rw [sm.t] at this
        exact this
      have start : M_X10_startWorkers_2 k (f + 1) (nI i) S = (if (stF A i).up i then M_X10_startWorkers_2 k f (nI (i + 1)) S else (if nI A.t < (stF A i).again i then M_X10_startWorkers_2 k f (nI (i + 1)) S else M_X10_startWorkers_2 k f (nI (i + 1)) (va_up S g (upd (upd (S g) (12 + 2 * i + 0) 1) (12 + 2 * i + 1) (-1))))) := by
        simp only [M_X10_startWorkers_2]
        rw [R.workers k, Option.bind_some, sm.W, if_neg (nI_ge him (by omega)), R.isUp w2 k him2, Option.bind_some, ite_b1, gG R.gs, worAt k i 1 (x := 1) rfl, Option.bind_some, ifin rfl (by omega), gG R.gs, ifin (i := 4) (x := 4) rfl (by decide), nI_clamp (by omega), h4, (R.wo i him2).2, gG R.gs, worAt k i 0 (x := 0) rfl, Option.bind_some, ifin rfl (by omega), nI_clamp (by omega), lt_eq, gG (R.gs.up _), Option.bind_some, ifin rfl (by omega), lt_eq, vaS, va_up_up, nI_clamp (by omega), nI_1]
      by_cases hu : (stF A i).up i = true
      · rw [if_pos hu] at start
        rw [start]
        exact ih (i + 1) S (by omega) (by rw [e, if_neg (fun h => by rw [hu] at h; cases h.1)]; exact R) f (by omega)
      · have hu2 : (stF A i).up i = false := by simpa using hu
        rw [if_neg hu] at start
        by_cases ht : nI A.t < (stF A i).again i
        · rw [if_pos ht] at start
          rw [start]
          exact ih (i + 1) S (by omega) (by rw [e, if_neg (fun h => Int32.not_lt.mpr h.2 ht)]; exact R) f (by omega)
        · rw [if_neg ht] at start
          rw [start]
          obtain ⟨S', e1, R1, f1⟩ := ih (i + 1) _ (by omega) (by rw [e, if_pos ⟨hu2, Int32.not_lt.mp ht⟩]; exact R.upS w2 him2) f (by omega)
          exact ⟨S', e1, R1, fun j hj => by rw [f1 j hj, vaN _ _ hj]⟩
  obtain ⟨S', e1, R1, f1⟩ := key A.W 0 S (by omega) R k (by omega)
  rw [nI_0] at e1
  exact ⟨S', e1, R1, f1⟩
end REF
