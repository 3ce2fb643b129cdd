-- ===== the reference lets its workers work =====
section REF
variable {S : VV} {g : Nat} {A : AF} {mk : Nat → Nat} {ks : KL} {tk : Nat} {tkt : Nat → Nat} {k : Nat}
theorem RelM.other (R : RelM S g A mk ks tk tkt) {j : Nat} (h : j ≠ g) (h0 : j ≠ 0) (X : Nat → Int32) : RelM (va_up S j X) g A mk ks tk tkt := by
  have e : va_up S j X g = S g := vaN S X (fun e => h e.symm)
  have gs : GS (va_up S j X) g := ⟨by
    have e0 : va_up S j X 0 = S 0 := vaN S X (fun e => h0 e.symm)
    unfold gsel
    rw [e0]
    exact R.gs.sel, R.gs.ok⟩
  exact ⟨gs, by rw [e]; exact R.s0, by rw [e]; exact R.s1, by rw [e]; exact R.s2, by rw [e]; exact R.s3, by rw [e]; exact R.s4, by rw [e]; exact R.se, by rw [e]; exact R.s10, by rw [e]; exact R.s11, by rw [e]; exact R.wo, by rw [e]; exact R.te, by rw [e]; exact R.rq, by rw [e]; exact R.ti, by rw [e]; exact R.ki⟩
theorem GS.ne6 {S : VV} {g : Nat} (h : GS S g) : (6 : Nat) ≠ g := by
  intro e
  have := h.ok
  rw [← e] at this
  cases this
theorem ro_down (R : RelM S g A mk ks tk tkt) (w : AW A) {j : Nat} (hj : j < A.W) : ∃ S', M_X10_takeDown k S (nI j) = some S' ∧ RelM S' g (down A j) mk ks tk tkt ∧ ∀ i, i ≠ g → S' i = S i := by
  have hW := w.w12
  have hm := w.m12
  have hn := w.n60
  refine ⟨va_up (va_up S g (upd (S g) (12 + 2 * j + 0) 0)) g (upd (upd (S g) (12 + 2 * j + 0) 0) (12 + 2 * j + 1) (nI (A.t + A.st 0))), ?_, ?_, fun i hi => by rw [vaN _ _ hi, vaN _ _ hi]⟩
  · simp only [M_X10_takeDown, M_X10_takeDown_0]
    rw [gG R.gs, worAt k j 0 (x := 0) rfl, Option.bind_some, ifin rfl (by omega), nI_clamp (by omega), lt_eq, gG (R.gs.up _), worAt k j 1 (x := 1) rfl, Option.bind_some, gG (R.gs.up _), ifin (i := 4) (x := 4) rfl (by decide)]
    have e5 : M_X10_told k (va_up S g (upd (S g) (12 + 2 * j + 0) 0)) 0 = some (nI (A.st 0)) := by
      unfold M_X10_told M_X10_told_0
      rw [gG (R.gs.up _), ifin (i := 5) (x := 5 + 0) (by decide) (by decide)]
      have : Int32.toNatClampNeg (5 + 0) = 5 := by decide
      rw [this, vaS, upd_ne _ _ (by omega)]
      exact congrArg some (R.se 0 (by decide))
    have e4 : va_up S g (upd (S g) (12 + 2 * j + 0) 0) g (Int32.toNatClampNeg 4) = nI A.t := by
      have : Int32.toNatClampNeg 4 = 4 := by decide
      rw [this, vaS, upd_ne _ _ (by omega)]
      exact R.s4
    rw [e5, Option.bind_some, ifin rfl (by omega), nI_clamp (by omega), e4, nI_add, lt_eq, vaS]
  · have ne : ∀ i, i ≠ 12 + 2 * j + 0 → i ≠ 12 + 2 * j + 1 → va_up (va_up S g (upd (S g) (12 + 2 * j + 0) 0)) g (upd (upd (S g) (12 + 2 * j + 0) 0) (12 + 2 * j + 1) (nI (A.t + A.st 0))) g i = S g i := fun i h1 h2 => by rw [vaS, upd_ne _ _ h2, upd_ne _ _ h1]
    exact (RelM.ofs
      (gs := (R.gs.up _).up _)
      (s0 := (ne 0 (by omega) (by omega)).trans R.s0)
      (s1 := (ne 1 (by omega) (by omega)).trans R.s1)
      (s2 := (ne 2 (by omega) (by omega)).trans R.s2)
      (s3 := (ne 3 (by omega) (by omega)).trans R.s3)
      (s4 := (ne 4 (by omega) (by omega)).trans R.s4)
      (se := fun i hi => (ne (5 + i) (by omega) (by omega)).trans (R.se i hi))
      (s10 := (ne 10 (by omega) (by omega)).trans R.s10)
      (s11 := (ne 11 (by omega) (by omega)).trans R.s11)
      (wo := fun i hi => by
        have hi : i < A.W := hi
        show _ = b1 (A.up i && !(i == j)) ∧ _ = (if i = j then nI (A.t + A.st 0) else A.again i)
        by_cases h : i = j
        · subst h
          refine ⟨?_, ?_⟩
          · rw [vaS, upd_ne _ _ (by omega), upd_self]; simp [b1]
          · rw [vaS, upd_self, if_pos rfl]
        · refine ⟨?_, ?_⟩
          · rw [ne _ (by omega) (by omega), (R.wo i hi).1, beq_false_of_ne h]; simp
          · rw [ne _ (by omega) (by omega), (R.wo i hi).2, if_neg h])
      (te := fun t ht => by
        have ht : t < A.m := ht
        exact ⟨(ne _ (by omega) (by omega)).trans (R.te t ht).1, (ne _ (by omega) (by omega)).trans (R.te t ht).2.1, (ne _ (by omega) (by omega)).trans (R.te t ht).2.2⟩)
      (rq := fun r' c' hr' hc' => (ne _ (by omega) (by omega)).trans (R.rq r' c' hr' hc'))
      (ti := fun r' hr' => (ne _ (by omega) (by omega)).trans (R.ti r' hr'))
      (ki := fun i hi => ⟨(ne _ (by omega) (by omega)).trans (R.ki i hi).1, (ne _ (by omega) (by omega)).trans (R.ki i hi).2.1, (ne _ (by omega) (by omega)).trans (R.ki i hi).2.2⟩))
theorem LI.rest1 (h : LI A) (r : Nat) : LI (rest1 A r) := by
  have e4 := rest1_4 A r
  have e6 := rest1_6 A r
  exact (LI.ofs (toAW := rest1_AW h.toAW r) (toAL := ⟨h.nd, h.me⟩) (wt := fun x => by rw [e4]; exact h.wt x) (q0 := fun x hx => by rw [e4, e6]; exact h.q0 x hx) (q1 := fun x hx => by rw [e4, e6]; exact h.q1 x hx))
theorem LI.down (h : LI A) (j : Nat) : LI (down A j) := (LI.ofs (toAW := down_AW h.toAW j) (toAL := ⟨h.nd, h.me⟩) (wt := h.wt) (q0 := h.q0) (q1 := h.q1))
theorem LI.wk (h : LI A) {p : Nat × Nat} (hr : p.1 ∈ A.ln) : LI (wk A p) := by
  rw [wk_un]
  split
  · exact h.rest1 _
  · split
    · exact (h.rest1 _).endL hr (by decide)
    · exact (h.rest1 _).down _
theorem TO.wk (t : TO A tk tkt) (p : Nat × Nat) : TO (wk A p) tk tkt := by
  refine ⟨?_, fun r hr => ?_⟩
  · rw [wk_line]; exact List.Pairwise.filter _ t.so
  · rw [wk_line] at hr; exact t.lt r (List.mem_filter.mp hr).1
/-- the first of a worker -/
def fstA (A : AF) (i : Nat) : Option Nat := if A.up i then A.ln.find? (fun r => A.Q r 4 == 0 && A.Q r 6 == nI i) else none
theorem fstA_some {A : AF} {i r : Nat} (h : fstA A i = some r) : A.up i = true ∧ r ∈ A.ln ∧ A.Q r 4 = 0 ∧ A.Q r 6 = nI i := by
  unfold fstA at h
  split at h
  · rename_i hu
    have hm := List.mem_of_find?_eq_some h
    have hp := List.find?_some h
    rw [Bool.and_eq_true, beq_iff_eq, beq_iff_eq] at hp
    exact ⟨hu, hm, hp.1, hp.2⟩
  · cases h
theorem find_filter {l : List Nat} {p q : Nat → Bool} (h : ∀ x, x ∈ l → q x = false → p x = false) : (l.filter q).find? p = l.find? p := by
  induction l with
  | nil => rfl
  | cons x l ih =>
    have ih := ih (fun y hy => h y (List.mem_cons_of_mem _ hy))
    rw [List.filter_cons, List.find?_cons]
    cases hq : q x with
    | true => rw [if_pos rfl, List.find?_cons, ih]
    | false => rw [if_neg (by decide), ih, h x List.mem_cons_self hq]
theorem fstA_wk (w : AW A) {r j i : Nat} (hj : j < A.W) (hi : i < A.W) (h6 : A.Q r 6 = nI j) (hij : i ≠ j) : fstA (wk A (r, j)) i = fstA A i := by
  have hW := w.w12
  have hup : (wk A (r, j)).up i = A.up i := by
    rw [wk_up]
    show (A.up i && !(i == j && _)) = _
    rw [beq_false_of_ne hij]
    simp
  unfold fstA
  rw [hup]
  by_cases hu : A.up i = true
  · rw [if_pos hu, if_pos hu, wk_line]
    have hr6 : (A.Q r 6 == nI i) = false := by
      rw [h6]
      exact beq_false_of_ne (fun e => hij ((nI_eq (by omega) (by omega)).mp e).symm)
    have hwr : ((wk A (r, j)).Q r 4 == 0 && (wk A (r, j)).Q r 6 == nI i) = false := by
      rw [wk_Q, wk_Q, if_pos rfl, if_pos rfl]
      unfold wkQ
      by_cases h1 : 0 < A.Q r 2 - 1
      · rw [if_pos h1, if_pos h1, if_neg (by decide), if_neg (by decide), hr6, Bool.and_false]
      · rw [if_neg h1, if_neg h1]
        by_cases h2 : A.Q r 3 = 0
        · rw [if_pos h2, if_pos h2]; simp
        · rw [if_neg h2, if_neg h2, if_neg (by decide), if_neg (by decide), hr6, Bool.and_false]
    rw [find_filter (fun x hx hq => by
      have hx2 : x = r := by
        by_cases e : x = r
        · exact e
        · have e2 : (x == r) = false := beq_false_of_ne e
          have hq : (!(x == r && wkDone A r)) = false := hq
          rw [e2] at hq
          cases hq
      rw [hx2]; exact hwr)]
    refine find_ext (fun x hx => ?_)
    by_cases e : x = r
    · rw [e, hwr, hr6, Bool.and_false]
    · rw [wk_ne A (r, j) 4 e, wk_ne A (r, j) 6 e]
  · rw [if_neg hu, if_neg hu]
def refW (A : AF) : Nat → AF
  | 0 => A
  | i + 1 => match fstA A i with
    | none => refW A i
    | some r => wk (refW A i) (r, i)
theorem refW_un (A : AF) (i : Nat) : refW A (i + 1) = (match fstA A i with
    | none => refW A i
    | some r => wk (refW A i) (r, i)) := rfl
def RW (A : AF) (i : Nat) : Prop := (LI (refW A i)) ∧ (∀ j, i ≤ j → j < A.W → fstA (refW A i) j = fstA A j) ∧ (∀ x, (∀ j, j < i → fstA A j ≠ some x) → ∀ c, (refW A i).Q x c = A.Q x c) ∧ ((refW A i).W = A.W) ∧ ((refW A i).n = A.n) ∧ ((refW A i).t = A.t)
theorem RW.li {A : AF} {i : Nat} (R__ : RW A i) : LI (refW A i) := R__.1
theorem RW.fs {A : AF} {i : Nat} (R__ : RW A i) : ∀ j, i ≤ j → j < A.W → fstA (refW A i) j = fstA A j := R__.2.1
theorem RW.ne {A : AF} {i : Nat} (R__ : RW A i) : ∀ x, (∀ j, j < i → fstA A j ≠ some x) → ∀ c, (refW A i).Q x c = A.Q x c := R__.2.2.1
theorem RW.W {A : AF} {i : Nat} (R__ : RW A i) : (refW A i).W = A.W := R__.2.2.2.1
theorem RW.n {A : AF} {i : Nat} (R__ : RW A i) : (refW A i).n = A.n := R__.2.2.2.2.1
theorem RW.t {A : AF} {i : Nat} (R__ : RW A i) : (refW A i).t = A.t := R__.2.2.2.2.2
theorem RW.ofs {A : AF} {i : Nat} (li : LI (refW A i)) (fs : ∀ j, i ≤ j → j < A.W → fstA (refW A i) j = fstA A j) (ne : ∀ x, (∀ j, j < i → fstA A j ≠ some x) → ∀ c, (refW A i).Q x c = A.Q x c) (W : (refW A i).W = A.W) (n : (refW A i).n = A.n) (t : (refW A i).t = A.t) : RW A i := ⟨li, fs, ne, W, n, t⟩
theorem refW_inv (h : LI A) : ∀ i, i ≤ A.W → RW A i
  | 0, _ => ⟨h, fun _ _ _ => rfl, fun _ _ _ => rfl, rfl, rfl, rfl⟩
  | i + 1, hi => by
    have ih := refW_inv h i (by omega)
    have e : refW A (i + 1) = match fstA A i with | none => refW A i | some r => wk (refW A i) (r, i) := rfl
    cases hf : fstA A i with
    | none =>
      rw [hf] at e
      have e : refW A (i + 1) = refW A i := e
      refine ⟨by rw [e]; exact ih.li, fun j h1 h2 => by rw [e]; exact ih.fs j (by omega) h2, fun x hx c => by rw [e]; exact ih.ne x (fun j hj => hx j (by omega)) c, by rw [e]; exact ih.W, by rw [e]; exact ih.n, by rw [e]; exact ih.t⟩
    | some r =>
      rw [hf] at e
      have e : refW A (i + 1) = wk (refW A i) (r, i) := e
      have hf2 : fstA (refW A i) i = some r := (ih.fs i (Nat.le_refl _) (by omega)).trans hf
      obtain ⟨hu, hm, h4, h6⟩ := fstA_some hf2
      have hwn := wk_n (refW A i) (r, i)
      refine ⟨by rw [e]; exact ih.li.wk hm, fun j h1 h2 => ?_, fun x hx c => ?_, by rw [e, hwn.2.1]; exact ih.W, by rw [e, hwn.1]; exact ih.n, by rw [e, hwn.2.2.2.1]; exact ih.t⟩
      · rw [e, fstA_wk ih.li.toAW (by rw [ih.W]; omega) (by rw [ih.W]; exact h2) h6 (by omega)]
        exact ih.fs j (by omega) h2
      · rw [e, wk_ne (refW A i) (r, i) c (fun ex => hx i (by omega) (by rw [ex]; exact hf))]
        exact ih.ne x (fun j hj => hx j (by omega)) c
theorem refW_to (t : TO A tk tkt) : ∀ i, TO (refW A i) tk tkt
  | 0 => t
  | i + 1 => by
    unfold refW
    cases fstA A i with
    | none => exact refW_to t i
    | some r => exact (refW_to t i).wk _
/-- what is noted of a worker: the request that killed it -/
def kb (A : AF) (j : Nat) : Int32 := match fstA A j with
  | none => -1
  | some r => if kills1 A (r, j) then nI r else -1
theorem Int32.nlt0 {x : Int32} : ¬ 0 < x ↔ x ≤ 0 := Int32.not_lt
theorem ro_workAll (R : RelM S g A mk ks tk tkt) (h : LI A) (t : TO A tk tkt) (htk : tk < 2 ^ 31) (hk : 20000 ≤ k) : ∃ S', M_X10_workAll k S = some S' ∧ RelM S' g (refW A A.W) mk ks tk tkt ∧ (∀ j, j < A.W → S' 6 j = kb A j) ∧ ∀ j, j ≠ g → j ≠ 6 → S' j = S j := by
  have hW := h.w12
  have hn := h.n60
  have key : ∀ m i (S : VV), i + m = A.W → RelM S g (refW A i) mk ks tk tkt → (∀ j, j < i → S 6 j = kb A j) → ∀ fuel, m < fuel → ∃ S', M_X10_workAll_2 k fuel (nI i) S = some S' ∧ RelM S' g (refW A A.W) mk ks tk tkt ∧ (∀ j, j < A.W → S' 6 j = kb A j) ∧ ∀ j, j ≠ g → j ≠ 6 → S' j = S j := by
    intro m
    induction m with
    | zero =>
      intro i S hi R hkb fuel hf
      obtain ⟨f, rfl⟩ : ∃ f, fuel = f + 1 := ⟨fuel - 1, by omega⟩
      have : i = A.W := by omega
      subst this
      have I := refW_inv h A.W (Nat.le_refl _)
      refine ⟨S, ?_, R, hkb, fun _ _ _ => rfl⟩
      simp only [M_X10_workAll_2]
      rw [R.workers k, Option.bind_some, I.W, if_pos (nI_le (Nat.le_refl _) (by omega))]
    | succ m ih =>
      intro i S hi R hkb fuel hf
      obtain ⟨f, rfl⟩ : ∃ f, fuel = f + 1 := ⟨fuel - 1, by omega⟩
      have hiW : i < A.W := by omega
      have I := refW_inv h i (by omega)
      have T := refW_to t i
      have R8 : RelM (va_up S 6 (upd (S 6) i (-1))) g (refW A i) mk ks tk tkt := R.other R.gs.ne6 (by decide) _
      have hup := R8.isUp I.li.toAW k (j := i) (by rw [I.W]; exact hiW)
      have hnx := rq_next R8 I.li T (by omega) hk (x := 0) (Or.inl rfl) (nI i) (tic := 0) (by omega)
      rw [nI_0] at hnx
      have hfd : (refW A i).ln.find? (fun x => (refW A i).Q x 4 == 0 && (refW A i).Q x 6 == nI i && decide (0 ≤ tkt x)) = (refW A i).ln.find? (fun x => (refW A i).Q x 4 == 0 && (refW A i).Q x 6 == nI i) := find_ext (fun x _ => by rw [decide_eq_true (Nat.zero_le _), Bool.and_true])
      rw [hfd] at hnx
      have hstep : M_X10_workAll_2 k (f + 1) (nI i) S = M_X10_workAll_36 k (M_X10_workAll_2 k f) (nI i) (oI (fstA A i)) (va_up S 6 (upd (S 6) i (-1))) := by
        simp only [M_X10_workAll_2, lt_eq]
        rw [R.workers k, Option.bind_some, I.W, if_neg (nI_ge hiW (by omega)), if_pos (inb_nI (by omega) (by decide)), nI_clamp (by omega), hup, Option.bind_some, ← I.fs i (Nat.le_refl _) hiW]
        unfold fstA
        by_cases hu : (refW A i).up i = true
        · rw [hu, if_neg (by decide), if_pos rfl, hnx, Option.bind_some]
        · have hu : (refW A i).up i = false := by simpa using hu
          rw [hu, if_pos (by rfl), if_neg (by decide)]
          rfl
      have e : refW A (i + 1) = match fstA A i with | none => refW A i | some r => wk (refW A i) (r, i) := rfl
      have k6 : ∀ (S1 : VV) (v : Int32), (∀ j, S1 6 j = upd (upd (S 6) i (-1)) i v j) → v = kb A i → ∀ j, j < i + 1 → S1 6 j = kb A j := by
        intro S1 v h1 h2 j hj
        rw [h1 j]
        by_cases hji : j = i
        · subst hji; rw [upd_self]; exact h2
        · rw [upd_ne _ _ hji, upd_ne _ _ hji]; exact hkb j (by omega)
      have k6' : ∀ (S1 : VV), (∀ j, S1 6 j = upd (S 6) i (-1) j) → -1 = kb A i → ∀ j, j < i + 1 → S1 6 j = kb A j := by
        intro S1 h1 h2 j hj
        rw [h1 j]
        by_cases hji : j = i
        · subst hji; rw [upd_self]; exact h2
        · rw [upd_ne _ _ hji]; exact hkb j (by omega)
      cases hf2 : fstA A i with
      | none =>
        rw [hf2] at e hstep
        have e : refW A (i + 1) = refW A i := e
        obtain ⟨S', e1, R1, hk1, f1⟩ := ih (i + 1) (va_up S 6 (upd (S 6) i (-1))) (by omega) (by rw [e]; exact R8) (k6' _ (fun j => by rw [vaS]) (by unfold kb; rw [hf2])) f (by omega)
        refine ⟨S', ?_, R1, hk1, fun j hj hj6 => by rw [f1 j hj hj6, vaN _ _ hj6]⟩
        rw [hstep]
        unfold M_X10_workAll_36
        rw [if_pos (by rfl), nI_1]
        exact e1
      | some r =>
        rw [hf2] at e hstep
        have e : refW A (i + 1) = wk (refW A i) (r, i) := e
        have hf3 : fstA (refW A i) i = some r := (I.fs i (Nat.le_refl _) hiW).trans hf2
        obtain ⟨hu, hm, h4, h6⟩ := fstA_some hf3
        obtain ⟨hu0, hm0, h40, h60⟩ := fstA_some hf2
        have hrn : r < (refW A i).n := I.li.me r hm
        have hrn2 : r < 60 := by rw [I.n] at hrn; omega
        have hne : ¬ oI (some r) = -1 := m1_ne (by omega)
        have hQ : ∀ c, (refW A i).Q r c = A.Q r c := I.ne r (fun j hj ej => by
          have := (fstA_some ej).2.2.2
          rw [h60] at this
          have := (nI_eq (by omega) (by omega)).mp this
          omega)
        obtain ⟨S2, e2, R2, f2⟩ := R8.putQ I.li.toAW k hrn 2 ((refW A i).Q r 2 - 1) (x := 2)
        have R2 : RelM S2 g (rest1 (refW A i) r) mk ks tk tkt := R2
        have w2 := rest1_AW I.li.toAW r
        have hstep2 : M_X10_workAll_2 k (f + 1) (nI i) S = (M_X10_finish k S2 (nI i) (nI r)).bind fun q4 => M_X10_workAll_2 k f (nI (i + 1)) q4 := by
          rw [hstep]
          unfold M_X10_workAll_36
          rw [if_neg hne, show oI (some r) = nI r from rfl, R8.q I.li.toAW k hrn 2, Option.bind_some, e2, Option.bind_some, nI_1]
        have hq2 : M_X10_of k S2 (nI r) 2 = some (A.Q r 2 - 1) := by
          have := R2.q w2 k (r := r) hrn 2 (x := 2)
          rw [rest1_2, hQ] at this
          exact this
        have hq3 : M_X10_of k S2 (nI r) 3 = some (A.Q r 3) := by
          have := R2.q w2 k (r := r) hrn 3 (x := 3)
          rw [rest1_q _ _ _ (by decide), hQ] at this
          exact this
        have hs6 : S2 6 = upd (S 6) i (-1) := by rw [f2 6 R.gs.ne6, vaS]
        have go : ∀ S3 : VV, M_X10_finish k S2 (nI i) (nI r) = some S3 → RelM S3 g (wk (refW A i) (r, i)) mk ks tk tkt → (∀ j, j < i + 1 → S3 6 j = kb A j) → (∀ j, j ≠ g → j ≠ 6 → S3 j = S2 j) →
            ∃ S', M_X10_workAll_2 k (f + 1) (nI i) S = some S' ∧ RelM S' g (refW A A.W) mk ks tk tkt ∧ (∀ j, j < A.W → S' 6 j = kb A j) ∧ ∀ j, j ≠ g → j ≠ 6 → S' j = S j := by
          intro S3 e3 R3 hk3 f3
          obtain ⟨S', e4, R4, hk4, f4⟩ := ih (i + 1) S3 (by omega) (by rw [e]; exact R3) hk3 f (by omega)
          exact ⟨S', by rw [hstep2, e3, Option.bind_some]; exact e4, R4, hk4, fun j hj hj6 => by rw [f4 j hj hj6, f3 j hj hj6, f2 j hj, vaN _ _ hj6]⟩
        by_cases hp : 0 < A.Q r 2 - 1
        · have hwk : wk (refW A i) (r, i) = rest1 (refW A i) r := if_pos (by show 0 < (refW A i).Q r 2 - 1; rw [hQ]; exact hp)
          refine go S2 ?_ (by rw [hwk]; exact R2) (k6' _ (fun j => by rw [hs6]) (by unfold kb; rw [hf2]; simp [kills1, hp])) (fun _ _ _ => rfl)
          simp only [M_X10_finish, M_X10_finish_0]
          rw [hq2, Option.bind_some, if_neg (fun h => Int32.nlt0.mpr h hp)]
        · have hle : A.Q r 2 - 1 ≤ 0 := Int32.nlt0.mp hp
          by_cases hp3 : A.Q r 3 = 0
          · have hwk : wk (refW A i) (r, i) = endL (rest1 (refW A i) r) r 2 := by
              unfold wk
              rw [if_neg (by show ¬ 0 < (refW A i).Q r 2 - 1; rw [hQ]; exact hp), if_pos (by show (refW A i).Q r 3 = 0; rw [hQ]; exact hp3)]
            obtain ⟨S3, e3, R3, f3⟩ := ro_end (k := k) R2 w2 (r := r) hrn 2
            refine go S3 ?_ (by rw [hwk]; exact R3.wL _) (k6' _ (fun j => by rw [f3 6 R.gs.ne6, hs6]) (by unfold kb; rw [hf2]; simp [kills1, hp3])) (fun j hj _ => f3 j hj)
            simp only [M_X10_finish, M_X10_finish_0]
            rw [hq2, Option.bind_some, if_pos hle, hq3, Option.bind_some, if_pos hp3, e3, Option.bind_some]
          · have hwk : wk (refW A i) (r, i) = down (rest1 (refW A i) r) i := by
              unfold wk
              rw [if_neg (by show ¬ 0 < (refW A i).Q r 2 - 1; rw [hQ]; exact hp), if_neg (by show ¬ (refW A i).Q r 3 = 0; rw [hQ]; exact hp3)]
            obtain ⟨S3, e3, R3, f3⟩ := ro_down (k := k) R2 w2 (j := i) (by show i < (refW A i).W; rw [I.W]; exact hiW)
            refine go (va_up S3 6 (upd (S3 6) i (nI r))) ?_ (by rw [hwk]; exact R3.other R.gs.ne6 (by decide) _) (k6 _ (nI r) (fun j => by rw [vaS, f3 6 R.gs.ne6, hs6]) (by unfold kb; rw [hf2]; simp [kills1, hp, hp3])) (fun j hj hj6 => by rw [vaN _ _ hj6, f3 j hj])
            simp only [M_X10_finish, M_X10_finish_0, lt_eq]
            rw [hq2, Option.bind_some, if_pos hle, hq3, Option.bind_some, if_neg hp3, e3, Option.bind_some, if_pos (inb_nI (by omega) (by decide)), nI_clamp (by omega)]
  obtain ⟨S', e1, R1, hk1, f1⟩ := key A.W 0 S (by omega) R (fun j hj => by omega) k (by omega)
  rw [nI_0] at e1
  exact ⟨S', e1, R1, hk1, f1⟩
end REF
