-- ===== quarantines begin and end; workers start =====
def AF.wE (A : AF) (qe : Nat → Int32) : AF := mkA A.W A.Z A.m A.n A.t A.up A.again A.st A.sh qe A.Q A.ln
def up1 {α : Type} (f : Nat → α) (t : Nat) (v : α) : Nat → α := fun x => if x = t then v else f x
theorem up1_self {α : Type} (f : Nat → α) (t : Nat) (v : α) : up1 f t v t = v := if_pos rfl
theorem up1_ne {α : Type} (f : Nat → α) {t x : Nat} (v : α) (h : x ≠ t) : up1 f t v x = f x := if_neg h
section CLS
variable {F : VV} {A : AF} {fg : Nat → Nat} {ks : KL} {k : Nat}
theorem RelC.putE (R : RelC F A fg ks) {t : Nat} (v : Int32) : RelC (va_up F 3 (upd (F 3) (t * 3 + 1) v)) (A.wE (up1 A.qe t v)) fg ks :=
  (RelC.ofs
      (s0 := R.s0)
      (s1 := R.s1)
      (s2 := R.s2)
      (s3 := R.s3)
      (s4 := R.s4)
      (s5 := R.s5)
      (s6 := R.s6)
      (se := R.se)
      (ag := R.ag)
      (te := fun x hx => by
      show upd (F 3) (t * 3 + 1) v (x * 3 + 0) = _ ∧ upd (F 3) (t * 3 + 1) v (x * 3 + 1) = up1 A.qe t v x ∧ upd (F 3) (t * 3 + 1) v (x * 3 + 2) = _
      obtain ⟨h1, h2, h3⟩ := R.te x hx
      refine ⟨by rw [upd_ne _ _ (by omega)]; exact h1, ?_, by rw [upd_ne _ _ (by omega)]; exact h3⟩
      by_cases e : x = t
      · subst e; rw [upd_self, up1_self]
      · rw [upd_ne _ _ (by omega), up1_ne _ _ e]; exact h2)
      (rq := R.rq)
      (li := R.li)
      (k0 := R.k0)
      (k1 := R.k1)
      (kp := R.kp))
theorem RelC.putG (R : RelC F A fg ks) {t : Nat} (v : Nat) : RelC (va_up F 3 (upd (F 3) (t * 3 + 2) (nI v))) A (up1 fg t v) ks :=
  (RelC.ofs
      (s0 := R.s0)
      (s1 := R.s1)
      (s2 := R.s2)
      (s3 := R.s3)
      (s4 := R.s4)
      (s5 := R.s5)
      (s6 := R.s6)
      (se := R.se)
      (ag := R.ag)
      (te := fun x hx => by
      show upd (F 3) (t * 3 + 2) (nI v) (x * 3 + 0) = _ ∧ upd (F 3) (t * 3 + 2) (nI v) (x * 3 + 1) = _ ∧ upd (F 3) (t * 3 + 2) (nI v) (x * 3 + 2) = nI (up1 fg t v x)
      obtain ⟨h1, h2, h3⟩ := R.te x hx
      refine ⟨by rw [upd_ne _ _ (by omega)]; exact h1, by rw [upd_ne _ _ (by omega)]; exact h2, ?_⟩
      by_cases e : x = t
      · subst e; rw [upd_self, up1_self]
      · rw [upd_ne _ _ (by omega), up1_ne _ _ e]; exact h3)
      (rq := R.rq)
      (li := R.li)
      (k0 := R.k0)
      (k1 := R.k1)
      (kp := R.kp))
def endF (A : AF) : Nat → AF
  | 0 => A
  | i + 1 => if (endF A i).qe i = nI A.t then (endF A i).wE (up1 (endF A i).qe i (-1)) else endF A i
def SameE (A B : AF) : Prop := (B.W = A.W) ∧ (B.Z = A.Z) ∧ (B.m = A.m) ∧ (B.n = A.n) ∧ (B.t = A.t) ∧ (B.up = A.up) ∧ (B.again = A.again) ∧ (B.st = A.st) ∧ (B.sh = A.sh) ∧ (B.Q = A.Q) ∧ (B.ln = A.ln)
theorem SameE.W {A B : AF} (R__ : SameE A B) : B.W = A.W := R__.1
theorem SameE.Z {A B : AF} (R__ : SameE A B) : B.Z = A.Z := R__.2.1
theorem SameE.m {A B : AF} (R__ : SameE A B) : B.m = A.m := R__.2.2.1
theorem SameE.n {A B : AF} (R__ : SameE A B) : B.n = A.n := R__.2.2.2.1
theorem SameE.t {A B : AF} (R__ : SameE A B) : B.t = A.t := R__.2.2.2.2.1
theorem SameE.up {A B : AF} (R__ : SameE A B) : B.up = A.up := R__.2.2.2.2.2.1
theorem SameE.again {A B : AF} (R__ : SameE A B) : B.again = A.again := R__.2.2.2.2.2.2.1
theorem SameE.st {A B : AF} (R__ : SameE A B) : B.st = A.st := R__.2.2.2.2.2.2.2.1
theorem SameE.sh {A B : AF} (R__ : SameE A B) : B.sh = A.sh := R__.2.2.2.2.2.2.2.2.1
theorem SameE.Q {A B : AF} (R__ : SameE A B) : B.Q = A.Q := R__.2.2.2.2.2.2.2.2.2.1
theorem SameE.ln {A B : AF} (R__ : SameE A B) : B.ln = A.ln := R__.2.2.2.2.2.2.2.2.2.2
theorem SameE.ofs {A B : AF} (W : B.W = A.W) (Z : B.Z = A.Z) (m : B.m = A.m) (n : B.n = A.n) (t : B.t = A.t) (up : B.up = A.up) (again : B.again = A.again) (st : B.st = A.st) (sh : B.sh = A.sh) (Q : B.Q = A.Q) (ln : B.ln = A.ln) : SameE A B := ⟨W, Z, m, n, t, up, again, st, sh, Q, ln⟩
theorem SameE.refl (A : AF) : SameE A A := ⟨rfl, rfl, rfl, rfl, rfl, rfl, rfl, rfl, rfl, rfl, rfl⟩
theorem SameE.wE (A : AF) (q : Nat → Int32) : SameE A (A.wE q) := ⟨rfl, rfl, rfl, rfl, rfl, rfl, rfl, rfl, rfl, rfl, rfl⟩
theorem SameE.trans {A B C : AF} (h : SameE A B) (g : SameE B C) : SameE A C := ⟨g.W.trans h.W, g.Z.trans h.Z, g.m.trans h.m, g.n.trans h.n, g.t.trans h.t, g.up.trans h.up, g.again.trans h.again, g.st.trans h.st, g.sh.trans h.sh, g.Q.trans h.Q, g.ln.trans h.ln⟩
theorem AW.sameE {A B : AF} (w : AW A) (s : SameE A B) : AW B := ⟨by rw [s.W]; exact w.w2, by rw [s.W]; exact w.w12, by rw [s.Z]; exact w.z1, by rw [s.Z, s.W]; exact w.zw, by rw [s.m]; exact w.m12, by rw [s.n]; exact w.n60, by rw [s.t]; exact w.t4, by rw [s.st]; exact w.se, by rw [s.sh, s.m, s.W]; exact w.sh, by rw [s.n, s.m, s.Q]; exact w.ten⟩
theorem LI.sameE {A B : AF} (h : LI A) (s : SameE A B) : LI B := (LI.ofs (toAW := h.toAW.sameE s) (toAL := ⟨by rw [s.ln]; exact h.nd, by rw [s.ln, s.n]; exact h.me⟩) (wt := by rw [s.ln, s.n, s.Q]; exact h.wt) (q0 := by rw [s.n, s.Q, s.W]; exact h.q0) (q1 := by rw [s.n, s.Q]; exact h.q1))
theorem endF_same (A : AF) : ∀ i, SameE A (endF A i)
  | 0 => SameE.refl A
  | i + 1 => by
    have ih := endF_same A i
    unfold endF
    split
    · exact ih.trans (SameE.wE _ _)
    · exact ih
theorem co_endQ (R : RelC F A fg ks) (w : AW A) (hk : 20000 ≤ k) : ∃ F', M_X0_endQuarantines k F = some F' ∧ RelC F' (endF A A.m) fg ks := by
  have hm := w.m12
  have key : ∀ m i (F : VV), i + m = A.m → RelC F (endF A i) fg ks → ∀ fuel, m < fuel → ∃ F', M_X0_endQuarantines_2 k fuel (nI i) F = some F' ∧ RelC F' (endF A A.m) fg ks := by
    intro m
    induction m with
    | zero =>
      intro i F hi R fuel hf
      obtain ⟨f, rfl⟩ : ∃ f, fuel = f + 1 := ⟨fuel - 1, by omega⟩
      have : i = A.m := by omega
      subst this
      refine ⟨F, ?_, R⟩
      simp only [M_X0_endQuarantines_2]
      rw [R.s2, (endF_same A A.m).m, if_pos (nI_le (Nat.le_refl _) (by omega))]
    | succ m ih =>
      intro i F hi R fuel hf
      obtain ⟨f, rfl⟩ : ∃ f, fuel = f + 1 := ⟨fuel - 1, by omega⟩
      have sm := endF_same A i
      have w2 := w.sameE sm
      have him : i < A.m := by omega
      have e : endF A (i + 1) = if (endF A i).qe i = nI A.t then (endF A i).wE (up1 (endF A i).qe i (-1)) else endF A i := rfl
      have start : M_X0_endQuarantines_2 k (f + 1) (nI i) F = (if (endF A i).qe i = nI A.t then M_X0_endQuarantines_2 k f (nI (i + 1)) (va_up F 3 (upd (F 3) (i * 3 + 1) (-1))) else M_X0_endQuarantines_2 k f (nI (i + 1)) F) := by
        simp only [M_X0_endQuarantines_2, lt_eq]
        rw [R.s2, sm.m, if_neg (nI_ge him (by omega)), R.qend w2 k (by rw [sm.m]; exact him), Option.bind_some, R.s4, sm.t, TT_putI k (r := i) (c := 1) (x := 1) (by omega) (by decide) rfl, Option.bind_some, nI_1]
      by_cases hc : (endF A i).qe i = nI A.t
      · rw [if_pos hc] at e start
        rw [start]
        exact ih (i + 1) _ (by omega) (by rw [e]; exact R.putE (-1)) f (by omega)
      · rw [if_neg hc] at e start
        rw [start]
        exact ih (i + 1) _ (by omega) (by rw [e]; exact R) f (by omega)
  obtain ⟨F', e1, R1⟩ := key A.m 0 F (by omega) R k (by omega)
  rw [nI_0] at e1
  exact ⟨F', e1, R1⟩
/-- a tenant comes into quarantine if it must -/
def begC (A : AF) (fg : Nat → Nat) (ks : KL) (t : Nat) : Bool := A.qe t == -1 && !decide (cntQ A fg ks t < A.st 2)
def begA (A : AF) (t : Nat) : AF := refuseA (A.wE (up1 A.qe t (nI (A.t + A.st 4)))) t
def begF (A : AF) (fg : Nat → Nat) (ks : KL) : Nat → AF × (Nat → Nat)
  | 0 => (A, fg)
  | i + 1 => if begC (begF A fg ks i).1 (begF A fg ks i).2 ks i then (begA (begF A fg ks i).1 i, up1 (begF A fg ks i).2 i A.t) else begF A fg ks i
def SameB (A B : AF) : Prop := (B.W = A.W) ∧ (B.Z = A.Z) ∧ (B.m = A.m) ∧ (B.n = A.n) ∧ (B.t = A.t) ∧ (B.up = A.up) ∧ (B.again = A.again) ∧ (B.st = A.st) ∧ (B.sh = A.sh)
theorem SameB.W {A B : AF} (R__ : SameB A B) : B.W = A.W := R__.1
theorem SameB.Z {A B : AF} (R__ : SameB A B) : B.Z = A.Z := R__.2.1
theorem SameB.m {A B : AF} (R__ : SameB A B) : B.m = A.m := R__.2.2.1
theorem SameB.n {A B : AF} (R__ : SameB A B) : B.n = A.n := R__.2.2.2.1
theorem SameB.t {A B : AF} (R__ : SameB A B) : B.t = A.t := R__.2.2.2.2.1
theorem SameB.up {A B : AF} (R__ : SameB A B) : B.up = A.up := R__.2.2.2.2.2.1
theorem SameB.again {A B : AF} (R__ : SameB A B) : B.again = A.again := R__.2.2.2.2.2.2.1
theorem SameB.st {A B : AF} (R__ : SameB A B) : B.st = A.st := R__.2.2.2.2.2.2.2.1
theorem SameB.sh {A B : AF} (R__ : SameB A B) : B.sh = A.sh := R__.2.2.2.2.2.2.2.2
theorem SameB.ofs {A B : AF} (W : B.W = A.W) (Z : B.Z = A.Z) (m : B.m = A.m) (n : B.n = A.n) (t : B.t = A.t) (up : B.up = A.up) (again : B.again = A.again) (st : B.st = A.st) (sh : B.sh = A.sh) : SameB A B := ⟨W, Z, m, n, t, up, again, st, sh⟩
theorem SameB.refl (A : AF) : SameB A A := ⟨rfl, rfl, rfl, rfl, rfl, rfl, rfl, rfl, rfl⟩
theorem SameB.trans {A B C : AF} (h : SameB A B) (g : SameB B C) : SameB A C := ⟨g.W.trans h.W, g.Z.trans h.Z, g.m.trans h.m, g.n.trans h.n, g.t.trans h.t, g.up.trans h.up, g.again.trans h.again, g.st.trans h.st, g.sh.trans h.sh⟩
theorem Same.toB {A B : AF} (h : Same A B) : SameB A B := ⟨h.W, h.Z, h.m, h.n, h.t, h.up, h.again, h.st, h.sh⟩
theorem SameE.toB {A B : AF} (h : SameE A B) : SameB A B := ⟨h.W, h.Z, h.m, h.n, h.t, h.up, h.again, h.st, h.sh⟩
theorem SR.endL {A : AF} (s : SR A) (r : Nat) {x : Nat} (hx : x ≤ 4) : SR (endL A r (nI x)) := fun y hy => by
  have hy : y < A.n := hy
  rw [endL_Q]
  by_cases e : y = r
  · rw [if_pos e, if_neg (by decide), if_neg (by decide), if_pos rfl]; exact ⟨x, hx, rfl⟩
  · rw [if_neg e]; exact s y hy
theorem refuse_SR {A : AF} (h : LI A) (s : SR A) (t : Nat) : SR (refuseA A t) := (refuse_inv h t SR s (fun B r _ _ _ hB => hB.endL r (x := 4) (by decide))).2.2
theorem begA_inv {A : AF} (h : LI A) (s : SR A) (t : Nat) : LI (begA A t) ∧ SR (begA A t) ∧ SameB A (begA A t) := by
  have h1 : LI (A.wE (up1 A.qe t (nI (A.t + A.st 4)))) := h.sameE (SameE.wE _ _)
  have s1 : SR (A.wE (up1 A.qe t (nI (A.t + A.st 4)))) := s
  have := refuse_inv h1 t (fun _ => True) trivial (fun _ _ _ _ _ _ => trivial)
  exact ⟨this.1, refuse_SR h1 s1 t, (SameE.wE _ _).toB.trans this.2.1.toB⟩
def BI (A : AF) (fg : Nat → Nat) (ks : KL) (i : Nat) : Prop := (LI (begF A fg ks i).1) ∧ (SR (begF A fg ks i).1) ∧ (SameB A (begF A fg ks i).1) ∧ (∀ t, t < A.m → (begF A fg ks i).2 t ≤ A.t)
theorem BI.li {A : AF} {fg : Nat → Nat} {ks : KL} {i : Nat} (R__ : BI A fg ks i) : LI (begF A fg ks i).1 := R__.1
theorem BI.sr {A : AF} {fg : Nat → Nat} {ks : KL} {i : Nat} (R__ : BI A fg ks i) : SR (begF A fg ks i).1 := R__.2.1
theorem BI.sm {A : AF} {fg : Nat → Nat} {ks : KL} {i : Nat} (R__ : BI A fg ks i) : SameB A (begF A fg ks i).1 := R__.2.2.1
theorem BI.fl {A : AF} {fg : Nat → Nat} {ks : KL} {i : Nat} (R__ : BI A fg ks i) : ∀ t, t < A.m → (begF A fg ks i).2 t ≤ A.t := R__.2.2.2
theorem BI.ofs {A : AF} {fg : Nat → Nat} {ks : KL} {i : Nat} (li : LI (begF A fg ks i).1) (sr : SR (begF A fg ks i).1) (sm : SameB A (begF A fg ks i).1) (fl : ∀ t, t < A.m → (begF A fg ks i).2 t ≤ A.t) : BI A fg ks i := ⟨li, sr, sm, fl⟩
theorem beg_inv {A : AF} {fg : Nat → Nat} {ks : KL} (h : LI A) (s : SR A) (hfg : ∀ t, t < A.m → fg t ≤ A.t) : ∀ i, BI A fg ks i
  | 0 => ⟨h, s, SameB.refl A, hfg⟩
  | i + 1 => by
    have ih := beg_inv h s hfg (ks := ks) i
    have e : begF A fg ks (i + 1) = if begC (begF A fg ks i).1 (begF A fg ks i).2 ks i then (begA (begF A fg ks i).1 i, up1 (begF A fg ks i).2 i A.t) else begF A fg ks i := rfl
    by_cases hc : begC (begF A fg ks i).1 (begF A fg ks i).2 ks i = true
    · rw [if_pos hc] at e
      obtain ⟨h1, h2, h3⟩ := begA_inv ih.li ih.sr i
      refine ⟨by rw [e]; exact h1, by rw [e]; exact h2, by rw [e]; exact ih.sm.trans h3, fun t ht => ?_⟩
      rw [e]
      show up1 (begF A fg ks i).2 i A.t t ≤ A.t
      by_cases et : t = i
      · subst et; rw [up1_self]; exact Nat.le_refl _
      · rw [up1_ne _ _ et]; exact ih.fl t ht
    · rw [if_neg hc] at e
      exact ⟨by rw [e]; exact ih.li, by rw [e]; exact ih.sr, by rw [e]; exact ih.sm, by rw [e]; exact ih.fl⟩
theorem co_begQ (R : RelC F A fg ks) (h : LI A) (s : SR A) (ko : KO A ks) (hfg : ∀ t, t < A.m → fg t ≤ A.t) (hl : ks.length ≤ 360) (hk : 20000 ≤ k) : ∃ F', M_X0_beginQuarantines k F = some F' ∧ RelC F' (begF A fg ks A.m).1 (begF A fg ks A.m).2 ks := by
  have hm := h.m12
  have key : ∀ m i (F : VV), i + m = A.m → RelC F (begF A fg ks i).1 (begF A fg ks i).2 ks → ∀ fuel, m < fuel → ∃ F', M_X0_beginQuarantines_2 k fuel (nI i) F = some F' ∧ RelC F' (begF A fg ks A.m).1 (begF A fg ks A.m).2 ks := by
    intro m
    induction m with
    | zero =>
      intro i F hi R fuel hf
      obtain ⟨f, rfl⟩ : ∃ f, fuel = f + 1 := ⟨fuel - 1, by omega⟩
      have : i = A.m := by omega
      subst this
      refine ⟨F, ?_, R⟩
      simp only [M_X0_beginQuarantines_2]
      rw [R.s2, (beg_inv h s hfg A.m).sm.m, if_pos (nI_le (Nat.le_refl _) (by omega))]
    | succ m ih =>
      intro i F hi R fuel hf
      obtain ⟨f, rfl⟩ : ∃ f, fuel = f + 1 := ⟨fuel - 1, by omega⟩
      have I := beg_inv h s hfg (ks := ks) i
      have w2 := I.li.toAW
      have him : i < A.m := by omega
      have him2 : i < (begF A fg ks i).1.m := by rw [I.sm.m]; exact him
      have ko2 : KO (begF A fg ks i).1 ks := ⟨ko.so, by rw [I.sm.t, I.sm.m, I.sm.W]; exact ko.le⟩
      have hcnt := cq_counted R w2 ko2 (by rw [I.sm.t, I.sm.m]; exact I.fl) hl hk him2
      have hcl : cntQ (begF A fg ks i).1 (begF A fg ks i).2 ks i ≤ 360 := Nat.le_trans List.countP_le_length hl
      have hse := w2.se 2 (by decide)
      have e : begF A fg ks (i + 1) = if begC (begF A fg ks i).1 (begF A fg ks i).2 ks i then (begA (begF A fg ks i).1 i, up1 (begF A fg ks i).2 i A.t) else begF A fg ks i := rfl
      by_cases hc : begC (begF A fg ks i).1 (begF A fg ks i).2 ks i = true
      · rw [if_pos hc] at e
        have hc2 := hc
        unfold begC at hc2
        rw [Bool.and_eq_true, beq_iff_eq, Bool.not_eq_true', decide_eq_false_iff_not] at hc2
        have R1 := (R.putE (t := i) (nI ((begF A fg ks i).1.t + (begF A fg ks i).1.st 4))).putG (t := i) A.t
        have h1 : LI ((begF A fg ks i).1.wE (up1 (begF A fg ks i).1.qe i (nI ((begF A fg ks i).1.t + (begF A fg ks i).1.st 4)))) := I.li.sameE (SameE.wE _ _)
        obtain ⟨F2, e2, R2, _⟩ := co_refuseAll R1 h1 hk i
        obtain ⟨F', e3, R3⟩ := ih (i + 1) F2 (by omega) (by rw [e]; exact R2) f (by omega)
        refine ⟨F', ?_, R3⟩
        have hlt : ¬ nI (cntQ (begF A fg ks i).1 (begF A fg ks i).2 ks i) < nI ((begF A fg ks i).1.st 2) := fun h => hc2.2 ((nI_ltI (by omega) (by omega)).mp h)
        simp only [M_X0_beginQuarantines_2, lt_eq]
        rw [R.s2, if_neg (nI_ge (by rw [I.sm.m]; exact him) (by rw [I.sm.m]; omega)), R.quar w2 k him2, Option.bind_some, hc2.1, if_pos (by rfl), hcnt, Option.bind_some, R.set k 2 (x := 2), Option.bind_some, if_neg hlt, R.set k 4 (x := 4), Option.bind_some, R.s4, nI_add, TT_putI k (r := i) (c := 1) (x := 1) (by omega) (by decide) rfl, Option.bind_some]
        have ht4 : va_up F 3 (upd (F 3) (i * 3 + 1) (nI ((begF A fg ks i).1.t + (begF A fg ks i).1.st 4))) 0 4 = nI A.t := by
          have := R.s4
          rw [I.sm.t] at this
          exact this
        rw [ht4, TT_putI k (r := i) (c := 2) (x := 2) (by omega) (by decide) rfl, Option.bind_some, e2, Option.bind_some, nI_1]
        exact e3
      · rw [if_neg hc] at e
        obtain ⟨F', e3, R3⟩ := ih (i + 1) F (by omega) (by rw [e]; exact R) f (by omega)
        refine ⟨F', ?_, R3⟩
        simp only [M_X0_beginQuarantines_2, lt_eq]
        rw [R.s2, if_neg (nI_ge (by rw [I.sm.m]; exact him) (by rw [I.sm.m]; omega)), R.quar w2 k him2, Option.bind_some]
        by_cases h1 : (begF A fg ks i).1.qe i = -1
        · have h2 : cntQ (begF A fg ks i).1 (begF A fg ks i).2 ks i < (begF A fg ks i).1.st 2 := by
            by_cases h2 : cntQ (begF A fg ks i).1 (begF A fg ks i).2 ks i < (begF A fg ks i).1.st 2
            · exact h2
            · exfalso
              apply hc
              unfold begC
              rw [h1, decide_eq_false h2]
              rfl
          rw [h1, if_pos (by rfl), hcnt, Option.bind_some, R.set k 2 (x := 2), Option.bind_some, if_pos (nI_lt h2 (by omega)), nI_1]
          exact e3
        · rw [show ((begF A fg ks i).1.qe i != -1) = true from bne_iff_ne.mpr h1, if_neg (by decide), nI_1]
          exact e3
  obtain ⟨F', e1, R1⟩ := key A.m 0 F (by omega) R k (by omega)
  rw [nI_0] at e1
  exact ⟨F', e1, R1⟩
end CLS
