-- ===== places in queues =====
def posQ (A : AF) (y : Int32) : List Nat := A.ln.filter (fun r => A.Q r 6 == y)
def atO (o : Option Nat) : Int32 := match o with
  | some r => nI r
  | none => -1
def atQ (q : List Nat) (p : Int32) : Int32 := if p < 0 then -1 else atO q[p.toNatClampNeg]?
def plc (A : AF) (r : Nat) : Nat := (A.ln.takeWhile (fun o => o != r)).countP (fun o => A.Q o 6 == A.Q r 6)
section CLS
variable {F : VV} {A : AF} {fg : Nat → Nat} {ks : KL} {k : Nat}
theorem cq_waiting (R : RelC F A fg ks) (w : AW A) (l : AL A) (hk : 20000 ≤ k) (x p : Int32) : M_X0_waitingAt k F x p = some (atQ (posQ A x) p) := by
  have hl := l.len w
  by_cases hp : p < 0
  · unfold atQ
    rw [if_pos hp]
    obtain ⟨f, rfl⟩ : ∃ f, k = f + 1 := ⟨k - 1, by omega⟩
    simp only [M_X0_waitingAt, M_X0_waitingAt_0, M_X0_waitingAt_5]
    split
    · rfl
    · rfl
  · obtain ⟨lf, hlf, rfl⟩ := nI_of hp
    unfold atQ
    rw [if_neg hp, nI_clamp hlf]
    have key : ∀ m i lf, i + m = A.ln.length → lf < 2 ^ 31 → ∀ fuel, m < fuel → M_X0_waitingAt_5 k F fuel x (nI lf) (nI i) = some (atO ((A.ln.drop i).filter (fun r => A.Q r 6 == x))[lf]?) := by
      intro m
      induction m with
      | zero =>
        intro i lf hi hlf fuel hf
        obtain ⟨f, rfl⟩ : ∃ f, fuel = f + 1 := ⟨fuel - 1, by omega⟩
        simp only [M_X0_waitingAt_5]
        rw [R.s6, if_pos (nI_le (by omega) (by omega)), List.drop_eq_nil_of_le (by omega)]
        rfl
      | succ m ih =>
        intro i lf hi hlf fuel hf
        obtain ⟨f, rfl⟩ : ∃ f, fuel = f + 1 := ⟨fuel - 1, by omega⟩
        have hil : i < A.ln.length := by omega
        simp only [M_X0_waitingAt_5]
        rw [R.s6, if_neg (nI_ge hil (by omega)), if_neg (nI_pos hlf), R.ln w l k hil, Option.bind_some, R.q w k (l.get hil) 6, Option.bind_some, List.drop_eq_getElem_cons hil, List.filter_cons, nI_1]
        rw [getD_lt hil]
        by_cases h : A.Q A.ln[i] 6 = x
        · rw [if_pos h, if_pos (show (A.Q A.ln[i] 6 == x) = true from beq_iff_eq.mpr h)]
          by_cases h0 : lf = 0
          · subst h0; rw [if_pos (by rfl)]; rfl
          · obtain ⟨l', rfl⟩ : ∃ l', lf = l' + 1 := ⟨lf - 1, by omega⟩
            rw [if_neg (nI_ne0 (by omega) hlf), nI_sub1, List.getElem?_cons_succ]
            exact ih (i + 1) l' (by omega) (by omega) f (by omega)
        · rw [if_neg h, if_neg (show ¬ (A.Q A.ln[i] 6 == x) = true from fun e => h (beq_iff_eq.mp e))]
          exact ih (i + 1) lf (by omega) hlf f (by omega)
    have h := key A.ln.length 0 lf (by omega) hlf k (by omega)
    rw [nI_0, List.drop_zero] at h
    exact h
theorem cq_placeOf (R : RelC F A fg ks) (w : AW A) (l : AL A) (hk : 20000 ≤ k) {r : Nat} (hr : r < A.n) : M_X0_placeOf k F (nI r) = some (nI (if r ∈ A.ln then plc A r else 0)) := by
  have hl := l.len w
  have hn := w.n60
  have key : ∀ m i c, i + m = A.ln.length → ∀ fuel, m < fuel → M_X0_placeOf_16 k F fuel (nI r) (A.Q r 6) (nI c) (nI i) = some (nI (if r ∈ A.ln.drop i then c + ((A.ln.drop i).takeWhile (fun o => o != r)).countP (fun o => A.Q o 6 == A.Q r 6) else 0)) := by
    intro m
    induction m with
    | zero =>
      intro i c hi fuel hf
      obtain ⟨f, rfl⟩ : ∃ f, fuel = f + 1 := ⟨fuel - 1, by omega⟩
      simp only [M_X0_placeOf_16]
      rw [R.s6, if_pos (nI_le (by omega) (by omega)), List.drop_eq_nil_of_le (by omega)]
      rfl
    | succ m ih =>
      intro i c hi fuel hf
      obtain ⟨f, rfl⟩ : ∃ f, fuel = f + 1 := ⟨fuel - 1, by omega⟩
      have hil : i < A.ln.length := by omega
      have hg := l.get hil
      rw [getD_lt hil] at hg
      simp only [M_X0_placeOf_16]
      rw [R.s6, if_neg (nI_ge hil (by omega)), R.ln w l k hil, Option.bind_some, Option.bind_some, getD_lt hil, R.q w k hg 6, Option.bind_some, List.drop_eq_getElem_cons hil, nI_1, nI_1]
      by_cases h : A.ln[i] = r
      · rw [if_pos (by rw [h]), if_pos (by rw [h]; exact List.mem_cons_self), List.takeWhile_cons, h]
        rw [show (r != r) = false by simp]
        rfl
      · have hb : (A.ln[i] != r) = true := bne_iff_ne.mpr h
        rw [if_neg (fun e => h ((nI_eq (by omega) (by omega)).mp e)), List.takeWhile_cons, hb, if_pos rfl, List.countP_cons]
        have hm : r ∈ A.ln[i] :: A.ln.drop (i + 1) ↔ r ∈ A.ln.drop (i + 1) := ⟨fun e => (List.mem_cons.mp e).resolve_left (fun e => h e.symm), List.mem_cons_of_mem _⟩
        by_cases hq : A.Q A.ln[i] 6 = A.Q r 6
        · rw [if_pos hq, ih (i + 1) (c + 1) (by omega) f (by omega), beq_iff_eq.mpr hq, if_pos rfl]
          congr 2
          by_cases hr2 : r ∈ A.ln.drop (i + 1)
          · rw [if_pos hr2, if_pos (hm.mpr hr2)]; omega
          · rw [if_neg hr2, if_neg (fun e => hr2 (hm.mp e))]
        · rw [if_neg hq, ih (i + 1) c (by omega) f (by omega), beq_false_of_ne hq, if_neg (show ¬ (false = true) by decide)]
          congr 2
          by_cases hr2 : r ∈ A.ln.drop (i + 1)
          · rw [if_pos hr2, if_pos (hm.mpr hr2)]; omega
          · rw [if_neg hr2, if_neg (fun e => hr2 (hm.mp e))]
  have h := key A.ln.length 0 0 (by omega) k (by omega)
  rw [nI_0, List.drop_zero, Nat.zero_add] at h
  simp only [M_X0_placeOf, M_X0_placeOf_0]
  rw [R.q w k hr 6, Option.bind_some]
  exact h
end CLS
theorem mem_split {l : List Nat} (hd : l.Nodup) {r : Nat} (hr : r ∈ l) : ∃ l1 l2, l = l1 ++ r :: l2 ∧ l.takeWhile (fun o => o != r) = l1 ∧ r ∉ l1 := by
  obtain ⟨l1, l2, rfl⟩ := List.append_of_mem hr
  have hn : r ∉ l1 := fun hm => (List.nodup_append.mp hd).2.2 r hm r List.mem_cons_self rfl
  refine ⟨l1, l2, rfl, ?_, hn⟩
  rw [List.takeWhile_append_of_pos (p := fun o => o != r) (fun a ha => bne_iff_ne.mpr (fun e : a = r => hn (e ▸ ha))), List.takeWhile_cons]
  simp
theorem plc_get {A : AF} (l : AL A) {r : Nat} (hr : r ∈ A.ln) : (posQ A (A.Q r 6))[plc A r]? = some r := by
  obtain ⟨l1, l2, e, et, hn⟩ := mem_split l.nd hr
  unfold posQ plc
  rw [et, e, List.filter_append, List.filter_cons, if_pos (show (A.Q r 6 == A.Q r 6) = true by simp), List.countP_eq_length_filter, List.getElem?_append_right (Nat.le_refl _), Nat.sub_self]
  rfl
theorem plc_lt {A : AF} (w : AW A) (l : AL A) (r : Nat) : plc A r < 61 := by
  have h1 := l.len w
  have h2 : plc A r ≤ (A.ln.takeWhile (fun o => o != r)).length := List.countP_le_length
  have h3 : (A.ln.takeWhile (fun o => o != r)).length ≤ A.ln.length := (List.takeWhile_sublist _).length_le
  omega
theorem at_iff {A : AF} (w : AW A) (l : AL A) {y p : Int32} {r : Nat} (hr : r ∈ A.ln) (hy : A.Q r 6 = y) : nI (plc A r) = p ↔ atQ (posQ A y) p = nI r := by
  have hg := plc_get l hr
  rw [hy] at hg
  have hp := plc_lt w l r
  have hn := w.n60
  have hrn := l.me r hr
  constructor
  · intro e
    subst e
    unfold atQ
    rw [if_neg (nI_pos (by omega)), nI_clamp (by omega), hg]
    rfl
  · intro e
    unfold atQ at e
    by_cases hneg : p < 0
    · rw [if_pos hneg] at e
      exact absurd e.symm (m1_ne (by omega))
    · rw [if_neg hneg] at e
      obtain ⟨lf, hlf, rfl⟩ := nI_of hneg
      rw [nI_clamp hlf] at e
      cases hq : (posQ A y)[lf]? with
      | none =>
        rw [hq] at e
        exact absurd (show (-1 : Int32) = nI r from e).symm (m1_ne (by omega))
      | some r' =>
        rw [hq] at e
        have e : nI r' = nI r := e
        have hm : r' ∈ A.ln := (List.mem_filter.mp (List.mem_of_getElem? hq)).1
        have hr' := l.me r' hm
        have : r' = r := (nI_eq (by omega) (by omega)).mp e
        subst this
        have hlt : lf < (posQ A y).length := by
          obtain ⟨h, _⟩ := List.getElem?_eq_some_iff.mp hq
          exact h
        have := (List.getElem?_inj hlt (nodup_filter l.nd _)).mp (hq.trans hg.symm)
        rw [this]
/-- who is where, by its mark or by its state -/
theorem at_state {A : AF} (h : LI A) {o r : Nat} (ho : o ∈ A.ln) (hr : r ∈ A.ln) (e : A.Q o 6 = A.Q r 6) : A.Q o 4 = A.Q r 4 := by
  have hW := h.w12
  have h1 := (h.wt o).mp ho
  have h2 := (h.wt r).mp hr
  rcases h1.2 with a | a
  · rcases h2.2 with b | b
    · rw [a, b]
    · obtain ⟨j, hj, hq⟩ := h.q0 o h1.1 a
      rw [hq, h.q1 r h2.1 b] at e
      exact absurd e (m1_ne (by omega))
  · rcases h2.2 with b | b
    · obtain ⟨j, hj, hq⟩ := h.q0 r h2.1 b
      rw [hq, h.q1 o h1.1 a] at e
      exact absurd e.symm (m1_ne (by omega))
    · rw [a, b]
section REF
variable {S : VV} {g : Nat} {A : AF} {mk : Nat → Nat} {ks : KL} {tk : Nat} {tkt : Nat → Nat} {k : Nat}
theorem rq_placeOf (R : RelM S g A mk ks tk tkt) (h : LI A) (t : TO A tk tkt) (htk : tk < 2 ^ 31) (hk : 20000 ≤ k) {r : Nat} (hr : r ∈ A.ln) : M_X10_placeOf k S (nI r) = some (nI (plc A r)) := by
  have hn := h.n60
  have hrn := h.me r hr
  have htr := t.lt r hr
  have hw : ∀ o, o < A.n → A.Q o 4 = A.Q r 4 → o ∈ A.ln := fun o ho e => (h.wt o).mpr ⟨ho, by rw [e]; exact ((h.wt r).mp hr).2⟩
  have key := loop_sum (fun n a i => M_X10_placeOf_4 k S n (nI r) a i) A.n (fun o => b1 (A.Q o 4 == A.Q r 4 && A.Q o 6 == A.Q r 6 && decide (tkt o < tkt r))) some (fun n i a hi => by
    simp only [M_X10_placeOf_4, lt_eq]
    rw [R.requests k, Option.bind_some, if_neg (nI_ge hi (by omega)), R.q h.toAW k hrn 4, Option.bind_some, R.q h.toAW k hrn 6, Option.bind_some, R.isIn h.toAW k hi, Option.bind_some, nI_1]
    by_cases hb : (A.Q i 4 == A.Q r 4 && A.Q i 6 == A.Q r 6) = true
    · have hil := hw i hi (by rw [Bool.and_eq_true] at hb; exact beq_iff_eq.mp hb.1)
      have hti := t.lt i hil
      rw [hb, if_neg (by decide), R.tick h.toAW k hi, Option.bind_some, R.tick h.toAW k hrn, Option.bind_some]
      by_cases hl : tkt i < tkt r
      · rw [if_neg (fun e => Nat.not_le.mpr hl ((nI_leI (by omega) (by omega)).mp e)), decide_eq_true hl]; rfl
      · rw [if_pos ((nI_leI (by omega) (by omega)).mpr (by omega)), decide_eq_false hl]; rfl
    · have hb : (A.Q i 4 == A.Q r 4 && A.Q i 6 == A.Q r 6) = false := by simpa using hb
      rw [hb, if_pos (by rfl)]; rfl) (fun n a => by
    simp only [M_X10_placeOf_4]
    rw [R.requests k, Option.bind_some, if_pos (nI_le (Nat.le_refl _) (by omega))]) (fuel := k) (by omega)
  refine key.trans ?_
  congr 1
  have e1 : sumI (fun o => b1 (A.Q o 4 == A.Q r 4 && A.Q o 6 == A.Q r 6 && decide (tkt o < tkt r))) A.n = sumI (fun o => if waits A o then b1 (A.Q o 4 == A.Q r 4 && A.Q o 6 == A.Q r 6 && decide (tkt o < tkt r)) else 0) A.n := sumI_ext (fun o ho => by
    by_cases hb : waits A o = true
    · rw [if_pos hb]
    · rw [if_neg hb]
      by_cases e : A.Q o 4 = A.Q r 4
      · exact absurd (waits_mem h (hw o ho e)) hb
      · rw [beq_false_of_ne e]; rfl)
  rw [e1, ← lsum_line (n := A.n) (fun o => b1 (A.Q o 4 == A.Q r 4 && A.Q o 6 == A.Q r 6 && decide (tkt o < tkt r))) (p := waits A) h.nd (fun o => by
    constructor
    · intro ho; exact ⟨h.me o ho, waits_mem h ho⟩
    · intro ho; exact mem_waits h ho.1 ho.2), lsum_b1]
  congr 1
  obtain ⟨l1, l2, e, et, hnm⟩ := mem_split h.nd hr
  have hso := t.so
  unfold plc
  rw [et, e, List.countP_append]
  rw [e] at hso
  have hpw := List.pairwise_append.mp hso
  have z : (r :: l2).countP (fun o => A.Q o 4 == A.Q r 4 && A.Q o 6 == A.Q r 6 && decide (tkt o < tkt r)) = 0 := List.countP_eq_zero.mpr (fun o ho => by
    have : ¬ tkt o < tkt r := by
      rcases List.mem_cons.mp ho with e | ho
      · subst e; omega
      · have := List.rel_of_pairwise_cons hpw.2.1 ho
        omega
    rw [decide_eq_false this]
    simp)
  rw [z, Nat.add_zero]
  refine List.countP_congr (fun o ho => ?_)
  have hol : o ∈ A.ln := by rw [e]; exact List.mem_append_left _ ho
  have hlt : tkt o < tkt r := hpw.2.2 o ho r List.mem_cons_self
  rw [decide_eq_true hlt, Bool.and_true, Bool.and_eq_true, beq_iff_eq, beq_iff_eq]
  constructor
  · intro hh; exact hh.2
  · intro hh; exact ⟨at_state h hol hr hh, hh⟩
theorem rq_inPlace (R : RelM S g A mk ks tk tkt) (h : LI A) (t : TO A tk tkt) (htk : tk < 2 ^ 31) (hk : 20000 ≤ k) {x y : Int32} (hxy : ∀ r, r < A.n → ((A.Q r 4 = x ∧ A.Q r 6 = y) ↔ r ∈ posQ A y)) (p : Int32) : M_X10_inPlace k S x y p = some (atQ (posQ A y) p) := by
  have hn := h.n60
  have key : ∀ m i, i + m = A.n → (∀ r, r < i → r ∈ posQ A y → nI (plc A r) ≠ p) → ∀ fuel, m < fuel → M_X10_inPlace_3 k S fuel x y p (nI i) = some (atQ (posQ A y) p) := by
    intro m
    induction m with
    | zero =>
      intro i hi hno fuel hf
      obtain ⟨f, rfl⟩ : ∃ f, fuel = f + 1 := ⟨fuel - 1, by omega⟩
      simp only [M_X10_inPlace_3]
      rw [R.requests k, Option.bind_some, if_pos (nI_le (by omega) (by omega))]
      congr 1
      unfold atQ
      by_cases hneg : p < 0
      · rw [if_pos hneg]
      · rw [if_neg hneg]
        cases hq : (posQ A y)[p.toNatClampNeg]? with
        | none => rfl
        | some r =>
          have hm := List.mem_of_getElem? hq
          have hml := List.mem_filter.mp hm
          refine absurd ((at_iff h.toAW h.toAL (p := p) hml.1 (beq_iff_eq.mp hml.2)).mpr ?_) (hno r (by have := h.me r hml.1; omega) hm)
          unfold atQ
          rw [if_neg hneg, hq]
          rfl
    | succ m ih =>
      intro i hi hno fuel hf
      obtain ⟨f, rfl⟩ : ∃ f, fuel = f + 1 := ⟨fuel - 1, by omega⟩
      have hin : i < A.n := by omega
      simp only [M_X10_inPlace_3]
      rw [R.requests k, Option.bind_some, if_neg (nI_ge hin (by omega)), R.isIn h.toAW k hin, Option.bind_some, nI_1]
      by_cases hb : A.Q i 4 = x ∧ A.Q i 6 = y
      · have hm := (hxy i hin).mp hb
        have hml := List.mem_filter.mp hm
        rw [beq_iff_eq.mpr hb.1, beq_iff_eq.mpr hb.2, if_neg (by decide), rq_placeOf R h t htk hk hml.1, Option.bind_some]
        by_cases hp : nI (plc A i) = p
        · rw [if_pos hp, (at_iff h.toAW h.toAL hml.1 hb.2).mp hp]
        · rw [if_neg hp]
          refine ih (i + 1) (by omega) (fun r hr hrm => ?_) f (by omega)
          by_cases e : r = i
          · subst e; exact hp
          · exact hno r (by omega) hrm
      · have hb2 : (A.Q i 4 == x && A.Q i 6 == y) = false := by
          rw [Bool.and_eq_false_iff]
          by_cases h1 : A.Q i 4 = x
          · exact Or.inr (beq_false_of_ne (fun h2 => hb ⟨h1, h2⟩))
          · exact Or.inl (beq_false_of_ne h1)
        rw [hb2, if_pos (by rfl)]
        refine ih (i + 1) (by omega) (fun r hr hrm => ?_) f (by omega)
        by_cases e : r = i
        · subst e; exact absurd ((hxy r hin).mpr hrm) hb
        · exact hno r (by omega) hrm
  have := key A.n 0 (by omega) (fun r hr => by omega) k (by omega)
  exact this
theorem inQ_iff {A : AF} (h : LI A) {j : Nat} (hj : j < A.W) : ∀ r, r < A.n → ((A.Q r 4 = 0 ∧ A.Q r 6 = nI j) ↔ r ∈ posQ A (nI j)) := fun r hr => by
  have hW := h.w12
  unfold posQ
  rw [List.mem_filter, h.wt, beq_iff_eq]
  constructor
  · intro hh; exact ⟨⟨hr, Or.inl hh.1⟩, hh.2⟩
  · rintro ⟨⟨_, h0 | h1⟩, h2⟩
    · exact ⟨h0, h2⟩
    · rw [h.q1 r hr h1] at h2
      exact absurd h2.symm (m1_ne (by omega))
theorem inP_iff {A : AF} (h : LI A) : ∀ r, r < A.n → ((A.Q r 4 = 1 ∧ A.Q r 6 = -1) ↔ r ∈ posQ A (-1)) := fun r hr => by
  have hW := h.w12
  unfold posQ
  rw [List.mem_filter, h.wt, beq_iff_eq]
  constructor
  · intro hh; exact ⟨⟨hr, Or.inr hh.1⟩, hh.2⟩
  · rintro ⟨⟨_, h0 | h1⟩, h2⟩
    · obtain ⟨j, hj, hq⟩ := h.q0 r hr h0
      rw [hq] at h2
      exact absurd h2 (m1_ne (by omega))
    · exact ⟨h1, h2⟩
end REF
