-- ===== from the work to the clearing =====
theorem find_wk {A : AF} {r i j : Nat} (hj : j < 2 ^ 31) (h : A.Q r 6 ≠ nI j ∨ wkDone A r = false) : (wk A (r, i)).ln.find? (fun x => (wk A (r, i)).Q x 6 == nI j) = A.ln.find? (fun x => A.Q x 6 == nI j) := by
  have hq : ∀ x, (wk A (r, i)).Q x 6 = if x = r ∧ wkDone A r = true then -1 else A.Q x 6 := by
    intro x
    rw [wk_Q]
    by_cases hx : x = r
    · subst hx
      rw [if_pos rfl]
      unfold wkQ wkDone
      by_cases h1 : 0 < A.Q x 2 - 1
      · simp [h1]
      · by_cases h2 : A.Q x 3 = 0
        · simp [h1, h2]
        · simp [h1, h2]
    · rw [if_neg hx, if_neg (fun e => hx e.1)]
  rw [wk_line]
  rcases h with h | h
  · rw [find_ext (q := fun x => A.Q x 6 == nI j) (fun x hx => by
      rw [hq]
      by_cases hc : x = r ∧ wkDone A r = true
      · have hm := (List.mem_filter.mp hx).2
        rw [hc.1] at hm
        simp [hc.2] at hm
      · rw [if_neg hc])]
    exact find_filter (fun x _ hx => by
      have hxr : x = r := by
        by_cases e : x = r
        · exact e
        · simp [e] at hx
      rw [hxr]
      exact beq_false_of_ne h)
  · have hf : A.ln.filter (fun x => !(x == r && wkDone A r)) = A.ln := List.filter_eq_self.mpr (fun x _ => by simp [h])
    show (A.ln.filter (fun x => !(x == r && wkDone A r))).find? _ = _
    rw [hf]
    exact find_ext (fun x _ => by rw [hq, if_neg (fun e => by rw [h] at e; cases e.2)])
theorem kills1_done {A : AF} {p : Nat × Nat} (h : kills1 A p = true) : wkDone A p.1 = false := by
  unfold kills1 at h
  unfold wkDone
  rw [Bool.and_eq_true, Bool.not_eq_true', Bool.not_eq_true'] at h
  rw [h.2, Bool.and_false]
/-- behind the work each killer is still in front of its worker's queue -/
theorem refW_find {A : AF} (h : LI A) {j r : Nat} (hj : j < A.W) (hK : killer A j = some r) : ∀ i, i ≤ A.W → (refW A i).ln.find? (fun x => (refW A i).Q x 6 == nI j) = A.ln.find? (fun x => A.Q x 6 == nI j)
  | 0, _ => rfl
  | i + 1, hi => by
    have hW := h.w12
    have ih := refW_find h hj hK i (by omega)
    have I := refW_inv h i (by omega)
    have e : refW A (i + 1) = match fstA A i with | none => refW A i | some r => wk (refW A i) (r, i) := rfl
    cases hf : fstA A i with
    | none => rw [hf] at e; rw [e]; exact ih
    | some r' =>
      rw [hf] at e
      have e : refW A (i + 1) = wk (refW A i) (r', i) := e
      have h60 := (fstA_some hf).2.2.2
      have hQ : ∀ c, (refW A i).Q r' c = A.Q r' c := I.ne r' (fun j hj ej => by
        have := (fstA_some ej).2.2.2
        rw [h60] at this
        have := (nI_eq (by omega) (by omega)).mp this
        omega)
      rw [e, find_wk (by omega) ?_]
      · exact ih
      · by_cases hij : i = j
        · subst hij
          refine Or.inr ?_
          unfold killer at hK
          rw [hf] at hK
          have hK : (if kills1 A (r', i) = true then some r' else none) = some r := hK
          by_cases hk1 : kills1 A (r', i) = true
          · have := kills1_done hk1
            unfold wkDone at this ⊢
            rw [hQ, hQ]
            exact this
          · rw [if_neg hk1] at hK; cases hK
        · refine Or.inl ?_
          rw [hQ, h60]
          intro e
          exact hij ((nI_eq (by omega) (by omega)).mp e)
theorem killer_hK {A : AF} (h : LI A) (su : SU A) : ∀ j r, j < (refW A A.W).W → killer A j = some r → (refW A A.W).up j = false ∧ (refW A A.W).ln.find? (fun x => (refW A A.W).Q x 6 == nI j) = some r := by
  intro j r hj hK
  have I := refW_inv h A.W (Nat.le_refl _)
  rw [I.W] at hj
  refine ⟨?_, ?_⟩
  · rw [refW_up h A.W (Nat.le_refl _) j, hK, decide_eq_true hj]
    simp
  · rw [refW_find h hj hK A.W (Nat.le_refl _), ← fstA_find h su hj]
    unfold killer at hK
    cases hf : fstA A j with
    | none => rw [hf] at hK; cases hK
    | some r' =>
      rw [hf] at hK
      have hK : (if kills1 A (r', j) = true then some r' else none) = some r := hK
      by_cases hk1 : kills1 A (r', j) = true
      · rw [if_pos hk1] at hK; exact hK
      · rw [if_neg hk1] at hK; cases hK
theorem wk_fix (A : AF) (p : Nat × Nat) : Fix A (wk A p) := fun x c hc => by
  rw [wk_Q]
  by_cases h : x = p.1
  · rw [if_pos h, h]
    unfold wkQ
    have h2 : c ≠ 2 := by omega
    have h4 : c ≠ 4 := by omega
    have h6 : c ≠ 6 := by omega
    have h7 : c ≠ 7 := by omega
    simp [h2, h4, h6, h7]
  · rw [if_neg h]
theorem refW_fix (A : AF) : ∀ i, Fix A (refW A i)
  | 0 => Fix.refl A
  | i + 1 => by
    have ih := refW_fix A i
    unfold refW
    cases fstA A i with
    | none => exact ih
    | some r => exact ih.trans (wk_fix _ _)
theorem wkKills_map (A : AF) : ∀ l, wkKills A l = (l.filter (kills1 A)).map (fun p => (A.t, tnOf A p.1, p.2))
  | [] => rfl
  | p :: l => by
    have ih := wkKills_map A l
    unfold wkKills
    rw [List.filter_cons]
    split
    · rw [ih, List.map_cons]
    · exact ih
theorem killsK_map {A : AF} (h : LI A) : ∀ i, i ≤ A.W → killsK (killer A) (refW A A.W) i = ((frs A i).filter (kills1 A)).map (fun p => (A.t, tnOf A p.1, p.2))
  | 0, _ => rfl
  | i + 1, hi => by
    have ih := killsK_map h i (by omega)
    have I := refW_inv h A.W (Nat.le_refl _)
    have htn : ∀ r, tnOf (refW A A.W) r = tnOf A r := fun r => by unfold tnOf; rw [refW_fix A A.W r 0 (Or.inl rfl)]
    have e1 : killsK (killer A) (refW A A.W) (i + 1) = match killer A i with | none => killsK (killer A) (refW A A.W) i | some r => killsK (killer A) (refW A A.W) i ++ [((refW A A.W).t, tnOf (refW A A.W) r, i)] := rfl
    have e2 : frs A (i + 1) = match fstA A i with | none => frs A i | some r => frs A i ++ [(r, i)] := rfl
    cases hf : fstA A i with
    | none =>
      have hk : killer A i = none := by unfold killer; rw [hf]
      rw [hk] at e1
      rw [hf] at e2
      rw [e1, e2]
      exact ih
    | some r =>
      have hk : killer A i = if kills1 A (r, i) = true then some r else none := by unfold killer; rw [hf]
      rw [hf] at e2
      have e2 : frs A (i + 1) = frs A i ++ [(r, i)] := e2
      rw [e2, List.filter_append, List.map_append, ← ih]
      by_cases hk1 : kills1 A (r, i) = true
      · rw [hk, if_pos hk1] at e1
        have e1 : killsK (killer A) (refW A A.W) (i + 1) = killsK (killer A) (refW A A.W) i ++ [((refW A A.W).t, tnOf (refW A A.W) r, i)] := e1
        rw [e1, I.t, htn, List.filter_cons, if_pos hk1]
        rfl
      · rw [hk, if_neg hk1] at e1
        have e1 : killsK (killer A) (refW A A.W) (i + 1) = killsK (killer A) (refW A A.W) i := e1
        rw [e1, List.filter_cons, if_neg hk1]
        simp
theorem kills_perm {A : AF} (h : LI A) (su : SU A) : (killsK (killer A) (refW A A.W) A.W).Perm (wkKills A (fsts A)) := by
  rw [killsK_map h A.W (Nat.le_refl _), wkKills_map]
  exact ((fsts_perm h su).symm.filter _).map _
theorem wkKills_t (A : AF) (l : List (Nat × Nat)) : ∀ x, x ∈ wkKills A l → x.1 = A.t := fun x hx => by
  rw [wkKills_map] at hx
  obtain ⟨p, _, rfl⟩ := List.mem_map.mp hx
  rfl
