-- ===== the workers' order does not matter =====
theorem perm_foldl {α β : Type} (f : β → α → β) {l l' : List α} (h : l.Perm l') : (∀ x, x ∈ l → ∀ y, y ∈ l → ∀ z, f (f z x) y = f (f z y) x) → ∀ z, l.foldl f z = l'.foldl f z := by
  induction h with
  | nil => intro _ z; rfl
  | cons x h ih =>
    intro hc z
    rw [List.foldl_cons, List.foldl_cons]
    exact ih (fun a ha b hb => hc a (List.mem_cons_of_mem _ ha) b (List.mem_cons_of_mem _ hb)) _
  | swap x y l =>
    intro hc z
    rw [List.foldl_cons, List.foldl_cons, List.foldl_cons, List.foldl_cons, hc y List.mem_cons_self x (List.mem_cons_of_mem _ List.mem_cons_self)]
  | trans h1 h2 ih1 ih2 =>
    intro hc z
    rw [ih1 hc z, ih2 (fun a ha b hb => hc a (h1.mem_iff.mpr ha) b (h1.mem_iff.mpr hb)) z]
theorem AF_ext {A B : AF} (h1 : A.W = B.W) (h2 : A.Z = B.Z) (h3 : A.m = B.m) (h4 : A.n = B.n) (h5 : A.t = B.t) (h6 : A.up = B.up) (h7 : A.again = B.again) (h8 : A.st = B.st) (h9 : A.sh = B.sh) (h10 : A.qe = B.qe) (h11 : A.Q = B.Q) (h12 : A.ln = B.ln) : A = B := by
  funext i
  match i with
  | 0 => exact h1
  | 1 => exact h2
  | 2 => exact h3
  | 3 => exact h4
  | 4 => exact h5
  | 5 => exact h6
  | 6 => exact h7
  | 7 => exact h8
  | 8 => exact h9
  | 9 => exact h10
  | 10 => exact h11
  | 11 => exact h12
  | i + 12 => rfl
/-- what a first's tick does to a cell, a worker, the line: each by what was before -/
def wkQ (A : AF) (r c : Nat) : Int32 := if 0 < A.Q r 2 - 1 then (if c = 2 then A.Q r 2 - 1 else A.Q r c) else if A.Q r 3 = 0 then (if c = 7 then nI A.t else if c = 6 then -1 else if c = 4 then 2 else if c = 2 then A.Q r 2 - 1 else A.Q r c) else (if c = 2 then A.Q r 2 - 1 else A.Q r c)
def wkDone (A : AF) (r : Nat) : Bool := !decide (0 < A.Q r 2 - 1) && decide (A.Q r 3 = 0)
theorem wk_Q (A : AF) (p : Nat × Nat) (r c : Nat) : (wk A p).Q r c = if r = p.1 then wkQ A r c else A.Q r c := by
  by_cases h : r = p.1
  · subst h
    rw [if_pos rfl]
    unfold wk wkQ
    by_cases h1 : 0 < A.Q p.1 2 - 1
    · rw [if_pos h1, if_pos h1]
      show setQ A.Q p.1 2 _ p.1 c = _
      unfold setQ
      simp
    · rw [if_neg h1, if_neg h1]
      by_cases h2 : A.Q p.1 3 = 0
      · rw [if_pos h2, if_pos h2]
        show setQ (setQ (setQ (setQ A.Q p.1 2 _) p.1 4 2) p.1 6 (-1)) p.1 7 (nI A.t) p.1 c = _
        unfold setQ
        simp
      · rw [if_neg h2, if_neg h2]
        show setQ A.Q p.1 2 _ p.1 c = _
        unfold setQ
        simp
  · rw [if_neg h, wk_ne A p c h]
theorem wk_up (A : AF) (p : Nat × Nat) : (wk A p).up = fun i => A.up i && !(i == p.2 && kills1 A p) := by
  funext i
  unfold wk kills1
  by_cases h1 : 0 < A.Q p.1 2 - 1
  · rw [if_pos h1]
    show A.up i = _
    simp [h1]
  · rw [if_neg h1]
    by_cases h2 : A.Q p.1 3 = 0
    · rw [if_pos h2]
      show A.up i = _
      simp [h2]
    · rw [if_neg h2]
      show (A.up i && !(i == p.2)) = _
      simp [h1, h2]
theorem wk_again (A : AF) (p : Nat × Nat) : (wk A p).again = fun i => if i = p.2 ∧ kills1 A p = true then nI (A.t + A.st 0) else A.again i := by
  funext i
  unfold wk kills1
  by_cases h1 : 0 < A.Q p.1 2 - 1
  · rw [if_pos h1]
    show A.again i = _
    simp [h1]
  · rw [if_neg h1]
    by_cases h2 : A.Q p.1 3 = 0
    · rw [if_pos h2]
      show A.again i = _
      simp [h2]
    · rw [if_neg h2]
      show (if i = p.2 then nI (A.t + A.st 0) else A.again i) = _
      simp [h1, h2]
theorem wk_line (A : AF) (p : Nat × Nat) : (wk A p).ln = A.ln.filter (fun x => !(x == p.1 && wkDone A p.1)) := by
  unfold wk wkDone
  by_cases h1 : 0 < A.Q p.1 2 - 1
  · rw [if_pos h1]
    show A.ln = _
    refine (List.filter_eq_self.mpr (fun x _ => ?_)).symm
    simp [h1]
  · rw [if_neg h1]
    by_cases h2 : A.Q p.1 3 = 0
    · rw [if_pos h2]
      show A.ln.filter (fun x => x != p.1) = _
      congr 1
      funext x
      simp [h1, h2, bne]
    · rw [if_neg h2]
      show A.ln = _
      refine (List.filter_eq_self.mpr (fun x _ => ?_)).symm
      simp [h2]
theorem wk_Z (A : AF) (p : Nat × Nat) : (wk A p).Z = A.Z := by
  unfold wk
  split
  · rfl
  · split <;> rfl
theorem wkQ_ext {A B : AF} {r : Nat} (ht : A.t = B.t) (h : ∀ c, A.Q r c = B.Q r c) (c : Nat) : wkQ A r c = wkQ B r c := by
  unfold wkQ
  rw [h, h, h, ht]
theorem wk_comm (A : AF) {p q : Nat × Nat} (h1 : p.1 ≠ q.1) (h2 : p.2 ≠ q.2) : wk (wk A p) q = wk (wk A q) p := by
  have hqp : ∀ c, (wk A p).Q q.1 c = A.Q q.1 c := fun c => wk_ne A p c (fun e => h1 e.symm)
  have hpq : ∀ c, (wk A q).Q p.1 c = A.Q p.1 c := fun c => wk_ne A q c h1
  obtain ⟨a1, a2, a3, a4, a5, a6, a7⟩ := wk_n A p
  obtain ⟨b1, b2, b3, b4, b5, b6, b7⟩ := wk_n A q
  obtain ⟨c1, c2, c3, c4, c5, c6, c7⟩ := wk_n (wk A p) q
  obtain ⟨d1, d2, d3, d4, d5, d6, d7⟩ := wk_n (wk A q) p
  have kq : kills1 (wk A p) q = kills1 A q := by unfold kills1; rw [hqp, hqp]
  have kp : kills1 (wk A q) p = kills1 A p := by unfold kills1; rw [hpq, hpq]
  have dq : wkDone (wk A p) q.1 = wkDone A q.1 := by unfold wkDone; rw [hqp, hqp]
  have dp : wkDone (wk A q) p.1 = wkDone A p.1 := by unfold wkDone; rw [hpq, hpq]
  refine AF_ext (by rw [c2, d2, a2, b2]) (by rw [wk_Z, wk_Z, wk_Z, wk_Z]) (by rw [c3, d3, a3, b3]) (by rw [c1, d1, a1, b1]) (by rw [c4, d4, a4, b4]) ?_ ?_ (by rw [c5, d5, a5, b5]) (by rw [c6, d6, a6, b6]) (by rw [c7, d7, a7, b7]) ?_ ?_
  · rw [wk_up, wk_up, wk_up, wk_up, kq, kp]
    funext i
    show ((A.up i && !(i == p.2 && kills1 A p)) && !(i == q.2 && kills1 A q)) = ((A.up i && !(i == q.2 && kills1 A q)) && !(i == p.2 && kills1 A p))
    cases A.up i <;> cases (i == p.2 && kills1 A p) <;> cases (i == q.2 && kills1 A q) <;> rfl
  · rw [wk_again, wk_again, wk_again, wk_again, kq, kp, a4, a5, b4, b5]
    funext i
    show (if i = q.2 ∧ kills1 A q = true then nI (A.t + A.st 0) else (if i = p.2 ∧ kills1 A p = true then nI (A.t + A.st 0) else A.again i)) = (if i = p.2 ∧ kills1 A p = true then nI (A.t + A.st 0) else (if i = q.2 ∧ kills1 A q = true then nI (A.t + A.st 0) else A.again i))
    by_cases e1 : i = q.2 ∧ kills1 A q = true
    · rw [if_pos e1, if_pos e1]
      split <;> rfl
    · rw [if_neg e1, if_neg e1]
  · funext r c
    rw [wk_Q, wk_Q, wk_Q, wk_Q]
    by_cases e1 : r = q.1
    · have e2 : ¬ r = p.1 := fun e => h1 (e.symm.trans e1)
      rw [if_pos e1, if_neg e2, if_pos e1]
      exact wkQ_ext a4 (fun c => by rw [e1]; exact hqp c) c
    · rw [if_neg e1]
      by_cases e2 : r = p.1
      · rw [if_pos e2, if_pos e2]
        exact (wkQ_ext b4 (fun c => by rw [e2]; exact hpq c) c).symm
      · rw [if_neg e2, if_neg e2, if_neg e1]
  · rw [wk_line, wk_line, wk_line, wk_line, dq, dp, List.filter_filter, List.filter_filter]
    congr 1
    funext x
    exact Bool.and_comm _ _
/-- who is in the list of the firsts -/
theorem firsts_iff {Q : Nat → Nat → Int32} {W : Nat} (hW : W < 2 ^ 31) : ∀ {l : List Nat} {B : Nat → Bool}, (∀ r, r ∈ l → Q r 6 = -1 ∨ ∃ j, j < W ∧ Q r 6 = nI j) → ∀ p : Nat × Nat, p ∈ firsts Q B l ↔ p.2 < W ∧ B p.2 = false ∧ l.find? (fun r => Q r 6 == nI p.2) = some p.1
  | [], B, h, p => by simp [firsts]
  | r :: l, B, h, p => by
    have hl : ∀ x, x ∈ l → Q x 6 = -1 ∨ ∃ j, j < W ∧ Q x 6 = nI j := fun x hx => h x (List.mem_cons_of_mem _ hx)
    unfold firsts
    rw [List.find?_cons]
    rcases h r List.mem_cons_self with h6 | ⟨j, hj, h6⟩
    · rw [if_pos h6, firsts_iff hW hl p]
      constructor
      · rintro ⟨h1, h2, h3⟩
        refine ⟨h1, h2, ?_⟩
        rw [h6, beq_false_of_ne (fun e => m1_ne (by omega) e.symm)]
        exact h3
      · rintro ⟨h1, h2, h3⟩
        refine ⟨h1, h2, ?_⟩
        rw [h6, beq_false_of_ne (fun e => m1_ne (by omega) e.symm)] at h3
        exact h3
    · have hn : ¬ Q r 6 = -1 := by rw [h6]; exact m1_ne (by omega)
      have hjc : (Q r 6).toNatClampNeg = j := by rw [h6, nI_clamp (by omega)]
      rw [if_neg hn, hjc]
      by_cases hp : p.2 = j
      · have hb : (Q r 6 == nI p.2) = true := by rw [h6, hp]; exact beq_self_eq_true _
        rw [hb]
        by_cases hB : B j = true
        · rw [if_pos hB, firsts_iff hW hl p, hp, hB]
          simp
        · rw [if_neg hB, List.mem_cons, firsts_iff hW hl p, hp]
          have hB : B j = false := by simpa using hB
          constructor
          · rintro (e | ⟨_, h2, _⟩)
            · refine ⟨hj, hB, ?_⟩
              rw [e]
            · simp at h2
          · rintro ⟨_, _, h3⟩
            refine Or.inl ?_
            have : r = p.1 := by simpa using h3
            rw [this, ← hp]
      · have hb : (Q r 6 == nI p.2) = false ∨ ¬ p.2 < W := by
          by_cases h2 : p.2 < W
          · refine Or.inl (beq_false_of_ne (fun e => hp ?_))
            rw [h6] at e
            exact ((nI_eq (by omega) (by omega)).mp e).symm
          · exact Or.inr h2
        rcases hb with hb | hb
        · rw [hb]
          by_cases hB : B j = true
          · rw [if_pos hB, firsts_iff hW hl p]
          · rw [if_neg hB, List.mem_cons, firsts_iff hW hl p]
            have hpj : (p.2 == j) = false := beq_false_of_ne hp
            constructor
            · rintro (e | ⟨h1, h2, h3⟩)
              · rw [e] at hp; exact absurd rfl hp
              · rw [hpj, Bool.false_or] at h2
                exact ⟨h1, h2, h3⟩
            · rintro ⟨h1, h2, h3⟩
              refine Or.inr ⟨h1, ?_, h3⟩
              rw [hpj, Bool.false_or]
              exact h2
        · constructor
          · intro hm
            exfalso
            by_cases hB : B j = true
            · rw [if_pos hB, firsts_iff hW hl p] at hm
              exact hb hm.1
            · rw [if_neg hB, List.mem_cons, firsts_iff hW hl p] at hm
              rcases hm with e | hm
              · rw [e] at hp; exact hp rfl
              · exact hb hm.1
          · intro hm
            exact absurd hm.1 hb
theorem firsts_nodup {Q : Nat → Nat → Int32} : ∀ {l : List Nat} {B : Nat → Bool}, l.Nodup → (firsts Q B l).Nodup
  | [], _, _ => List.nodup_nil
  | r :: l, B, h => by
    have hr := (List.nodup_cons.mp h).1
    have hl := (List.nodup_cons.mp h).2
    unfold firsts
    split
    · exact firsts_nodup hl
    · split
      · exact firsts_nodup hl
      · exact List.nodup_cons.mpr ⟨fun hm => hr (firsts_mem hm), firsts_nodup hl⟩
