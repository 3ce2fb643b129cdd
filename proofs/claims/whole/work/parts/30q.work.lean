-- ===== both let their workers work alike =====
def frs (A : AF) : Nat → List (Nat × Nat)
  | 0 => []
  | i + 1 => match fstA A i with
    | none => frs A i
    | some r => frs A i ++ [(r, i)]
theorem refW_fold (A : AF) : ∀ i, refW A i = (frs A i).foldl wk A
  | 0 => rfl
  | i + 1 => by
    have ih := refW_fold A i
    unfold refW frs
    cases fstA A i with
    | none => exact ih
    | some r =>
      show wk (refW A i) (r, i) = (frs A i ++ [(r, i)]).foldl wk A
      rw [List.foldl_append, ← ih]
      rfl
theorem frs_mem (A : AF) : ∀ i (p : Nat × Nat), p ∈ frs A i ↔ p.2 < i ∧ fstA A p.2 = some p.1
  | 0, p => by simp [frs]
  | i + 1, p => by
    have ih := frs_mem A i p
    unfold frs
    cases hf : fstA A i with
    | none =>
      show p ∈ frs A i ↔ _
      rw [ih]
      constructor
      · rintro ⟨h1, h2⟩; exact ⟨by omega, h2⟩
      · rintro ⟨h1, h2⟩
        refine ⟨?_, h2⟩
        by_cases e : p.2 = i
        · rw [e, hf] at h2; cases h2
        · omega
    | some r =>
      show p ∈ frs A i ++ [(r, i)] ↔ _
      rw [List.mem_append, ih, List.mem_singleton]
      constructor
      · rintro (⟨h1, h2⟩ | e)
        · exact ⟨by omega, h2⟩
        · rw [e]; exact ⟨by show i < i + 1; omega, hf⟩
      · rintro ⟨h1, h2⟩
        by_cases e : p.2 = i
        · refine Or.inr ?_
          rw [e, hf] at h2
          have := Option.some.inj h2
          rw [this, ← e]
        · exact Or.inl ⟨by omega, h2⟩
theorem frs_nodup (A : AF) : ∀ i, (frs A i).Nodup
  | 0 => List.nodup_nil
  | i + 1 => by
    have ih := frs_nodup A i
    unfold frs
    cases hf : fstA A i with
    | none => exact ih
    | some r =>
      show (frs A i ++ [(r, i)]).Nodup
      refine List.nodup_append.mpr ⟨ih, by simp, fun a ha b hb e => ?_⟩
      have hb2 : b = (r, i) := by simpa using hb
      have := ((frs_mem A i a).mp ha).1
      rw [e, hb2] at this
      exact absurd this (Nat.lt_irrefl _)
/-- whoever is queued is so with a worker that is up -/
def SU (A : AF) : Prop := ∀ r j, r ∈ A.ln → j < A.W → A.Q r 6 = nI j → A.up j = true
theorem fstA_find {A : AF} (h : LI A) (su : SU A) {j : Nat} (hj : j < A.W) : fstA A j = A.ln.find? (fun r => A.Q r 6 == nI j) := by
  have hfd : A.ln.find? (fun r => A.Q r 4 == 0 && A.Q r 6 == nI j) = A.ln.find? (fun r => A.Q r 6 == nI j) := find_ext (fun x hx => by
    by_cases e : A.Q x 6 = nI j
    · rw [h.at0 hx hj e]; simp
    · rw [beq_false_of_ne e, Bool.and_false])
  unfold fstA
  by_cases hu : A.up j = true
  · rw [if_pos hu, hfd]
  · rw [if_neg hu]
    symm
    rw [List.find?_eq_none]
    intro x hx e
    exact hu (su x j hx hj (beq_iff_eq.mp e))
theorem LI.ats {A : AF} (h : LI A) : ∀ r, r ∈ A.ln → A.Q r 6 = -1 ∨ ∃ j, j < A.W ∧ A.Q r 6 = nI j := fun r hr => by
  obtain ⟨h1, h2⟩ := (h.wt r).mp hr
  rcases h2 with h2 | h2
  · exact Or.inr (h.q0 r h1 h2)
  · exact Or.inl (h.q1 r h1 h2)
def fsts (A : AF) : List (Nat × Nat) := firsts A.Q (fun _ => false) A.ln
theorem fsts_iff {A : AF} (h : LI A) (su : SU A) (p : Nat × Nat) : p ∈ fsts A ↔ p.2 < A.W ∧ fstA A p.2 = some p.1 := by
  have hW := h.w12
  unfold fsts
  rw [firsts_iff (W := A.W) (by omega) h.ats p]
  constructor
  · rintro ⟨h1, _, h3⟩; exact ⟨h1, by rw [fstA_find h su h1]; exact h3⟩
  · rintro ⟨h1, h3⟩; exact ⟨h1, rfl, by rw [fstA_find h su h1] at h3; exact h3⟩
theorem fsts_perm {A : AF} (h : LI A) (su : SU A) : (fsts A).Perm (frs A A.W) := (List.perm_ext_iff_of_nodup (firsts_nodup h.nd) (frs_nodup A A.W)).mpr (fun p => by
  show p ∈ fsts A ↔ _
  rw [fsts_iff h su, frs_mem])
theorem work_eq {A : AF} (h : LI A) (su : SU A) : (fsts A).foldl wk A = refW A A.W := by
  have hW := h.w12
  rw [refW_fold]
  refine perm_foldl wk (fsts_perm h su) (fun x hx y hy z => ?_) A
  have hx := (fsts_iff h su x).mp hx
  have hy := (fsts_iff h su y).mp hy
  have hx6 := (fstA_some hx.2).2.2.2
  have hy6 := (fstA_some hy.2).2.2.2
  by_cases e2 : x.2 = y.2
  · have : x.1 = y.1 := by
      have := hx.2
      rw [e2, hy.2] at this
      exact (Option.some.inj this).symm
    have : x = y := Prod.ext this e2
    rw [this]
  · have e1 : x.1 ≠ y.1 := fun e => by
      rw [e, hy6] at hx6
      exact e2 ((nI_eq (by omega) (by omega)).mp hx6).symm
    exact wk_comm z e1 e2
/-- who killed a worker -/
def killer (A : AF) (j : Nat) : Option Nat := match fstA A j with
  | none => none
  | some r => if kills1 A (r, j) then some r else none
theorem kb_killer (A : AF) (j : Nat) : kb A j = oI (killer A j) := by
  unfold kb killer
  cases fstA A j with
  | none => rfl
  | some r =>
    show (if kills1 A (r, j) = true then nI r else -1) = oI (if kills1 A (r, j) = true then some r else none)
    split <;> rfl
theorem refW_up {A : AF} (h : LI A) : ∀ i, i ≤ A.W → ∀ j, (refW A i).up j = (A.up j && !(decide (j < i) && (killer A j).isSome))
  | 0, _, j => by simp [refW]
  | i + 1, hi, j => by
    have hW := h.w12
    have ih := refW_up h i (by omega) j
    have I := refW_inv h i (by omega)
    have e : refW A (i + 1) = match fstA A i with | none => refW A i | some r => wk (refW A i) (r, i) := rfl
    cases hf : fstA A i with
    | none =>
      rw [hf] at e
      have e : refW A (i + 1) = refW A i := e
      rw [e, ih]
      by_cases hji : j = i
      · subst hji
        have : killer A j = none := by unfold killer; rw [hf]
        rw [this]; simp
      · have h1 : decide (j < i + 1) = decide (j < i) := by
          by_cases h : j < i
          · rw [decide_eq_true h, decide_eq_true (by omega)]
          · rw [decide_eq_false h, decide_eq_false (by omega)]
        rw [h1]
    | some r =>
      rw [hf] at e
      have e : refW A (i + 1) = wk (refW A i) (r, i) := e
      have h60 := (fstA_some hf).2.2.2
      have hQ : ∀ c, (refW A i).Q r c = A.Q r c := I.ne r (fun j hj ej => by
        have := (fstA_some ej).2.2.2
        rw [h60] at this
        have := (nI_eq (by omega) (by omega)).mp this
        omega)
      have hk1 : kills1 (refW A i) (r, i) = kills1 A (r, i) := by
        show (!decide (0 < (refW A i).Q r 2 - 1) && !decide ((refW A i).Q r 3 = 0)) = _
        rw [hQ, hQ]
        rfl
      rw [e, wk_up, hk1]
      show ((refW A i).up j && !(j == i && kills1 A (r, i))) = _
      rw [ih]
      by_cases hji : j = i
      · subst hji
        have hkl : (killer A j).isSome = kills1 A (r, j) := by
          unfold killer
          rw [hf]
          show (if kills1 A (r, j) = true then some r else none).isSome = _
          cases kills1 A (r, j) <;> rfl
        rw [hkl, decide_eq_false (Nat.lt_irrefl _), decide_eq_true (Nat.lt_succ_self _), beq_self_eq_true]
        simp
      · have h1 : decide (j < i + 1) = decide (j < i) := by
          by_cases h : j < i
          · rw [decide_eq_true h, decide_eq_true (by omega)]
          · rw [decide_eq_false h, decide_eq_false (by omega)]
        rw [h1, beq_false_of_ne hji]
        simp
section CLS
variable {F : VV} {A : AF} {fg : Nat → Nat} {ks : KL} {k : Nat}
theorem co_work (R : RelC F A fg ks) (h : LI A) (su : SU A) (hk : 20000 ≤ k) (hks : ks.length + (fsts A).length ≤ 360) :
    ∃ F', M_X0_work k F = some (nI (msk (fun j => (killer A j).isSome) A.W), F') ∧ RelC F' (refW A A.W) fg (ks ++ wkKills A (fsts A)) := by
  have hW := h.w12
  have hl60 := h.toAL.len h.toAW
  obtain ⟨F', e, R'⟩ := work_loop (fg := fg) hk (nI (msk A.up A.W)) A.ln A F ks [] (fun _ => false) k (by simp) (by omega) R h.toAW h.toAL h.ats hks
  have hz : msk (fun _ => false) A.W = 0 := by
    apply Nat.eq_of_testBit_eq
    intro i
    rw [msk_bit, Nat.zero_testBit, Bool.and_false]
  refine ⟨F', ?_, ?_⟩
  · simp only [M_X0_work, M_X0_work_0, lt_eq]
    rw [R.s5, R.s6]
    rw [hz, nI_0] at e
    have e2 : M_X0_work_15 k k (nI (msk A.up A.W)) 0 0 (nI A.ln.length) F = some (nI (msk A.up A.W) &&& (nI (msk (refW A A.W).up A.W) ^^^ (-1 : Int32)), F') := by rw [← work_eq h su]; exact e
    rw [e2, andnot_msk (by omega)]
    congr 2
    congr 1
    refine msk_ext (fun i hi => ?_)
    rw [refW_up h A.W (Nat.le_refl _) i, decide_eq_true hi, Bool.true_and]
    cases hkl : killer A i with
    | none => simp
    | some r =>
      have hu : A.up i = true := by
        unfold killer at hkl
        cases hf : fstA A i with
        | none => rw [hf] at hkl; cases hkl
        | some r' => exact (fstA_some hf).1
      rw [hu]; rfl
  · rw [← work_eq h su]; exact R'
end CLS
