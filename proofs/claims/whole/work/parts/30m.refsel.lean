-- ===== the reference: all of a queue, all parked =====
theorem lsum_b1 (p : Nat → Bool) (l : List Nat) : lsum (fun r => b1 (p r)) l = nI (l.countP p) := by
  induction l with
  | nil => rfl
  | cons r l ih =>
    show b1 (p r) + lsum _ l = _
    rw [ih, List.countP_cons]
    cases p r
    · simp [b1]
    · rw [if_pos rfl, ← nI_1, Int32.add_comm]; rfl
theorem cut_best (A : AF) (w : AW A) (t : Nat) : cut A t = (bestA A t).isNone := by
  have hiff : cut A t = true ↔ bestA A t = none := by
    unfold bestA
    rw [bestOf_none]
    unfold cut
    rw [beq_iff_eq]
    constructor
    · intro h i hi
      have hb := msk_bit (fun i => (A.sh t).testBit i && A.up i) A.W i
      rw [h, Nat.zero_testBit, decide_eq_true hi, Bool.true_and] at hb
      exact hb.symm
    · intro h
      apply Nat.eq_of_testBit_eq
      intro i
      rw [msk_bit, Nat.zero_testBit]
      by_cases hi : i < A.W
      · rw [decide_eq_true hi, Bool.true_and]; exact h i hi
      · rw [decide_eq_false hi, Bool.false_and]
  cases hb : bestA A t with
  | none => exact hiff.mpr hb
  | some b =>
    cases hc : cut A t with
    | false => rfl
    | true => rw [hiff.mp hc] at hb; cases hb
theorem find_skip {l1 l2 : List Nat} {p : Nat → Bool} (h : ∀ x, x ∈ l1 → p x = false) : (l1 ++ l2).find? p = l2.find? p := by
  rw [List.find?_append]
  have : l1.find? p = none := by
    rw [List.find?_eq_none]
    intro x hx
    rw [h x hx]
    decide
  rw [this]
  rfl
theorem find_ext {l : List Nat} {p q : Nat → Bool} (h : ∀ x, x ∈ l → p x = q x) : l.find? p = l.find? q := by
  induction l with
  | nil => rfl
  | cons x l ih =>
    rw [List.find?_cons, List.find?_cons, h x List.mem_cons_self, ih (fun y hy => h y (List.mem_cons_of_mem _ hy))]
section REF
variable {S : VV} {g : Nat} {A : AF} {mk : Nat → Nat} {ks : KL} {tk : Nat} {tkt : Nat → Nat} {k : Nat}
theorem routeA_ne (A : AF) {r x : Nat} (c : Nat) (h : x ≠ r) : (routeA A r).Q x c = A.Q x c := putR_ne A _ c h
theorem routeA_not (A : AF) (w : AW A) {r j : Nat} (hj : j < A.W) (hd : A.up j = false) : (routeA A r).Q r 6 ≠ nI j := by
  have hW := w.w12
  show putR A r _ r 6 ≠ nI j
  rw [putR_6]
  cases hb : bestA A (tnOf A r) with
  | none => exact fun e => m1_ne (by omega) e.symm
  | some b =>
    obtain ⟨h1, h2⟩ := bestOf_some hb
    intro e
    have : b = j := (nI_eq (by omega) (by omega)).mp e
    subst this
    unfold can at h2
    rw [Bool.and_eq_true, hd] at h2
    cases h2.2
theorem LI.at0 (h : LI A) {r j : Nat} (hr : r ∈ A.ln) (hj : j < A.W) (e : A.Q r 6 = nI j) : A.Q r 4 = 0 := by
  have hW := h.w12
  rcases ((h.wt r).mp hr).2 with h0 | h1
  · exact h0
  · rw [h.q1 r (h.me r hr) h1] at e
    exact absurd e.symm (m1_ne (by omega))
theorem routeAll_loop (hk : 20000 ≤ k) {j many : Nat} (hmany : many < 100) : ∀ (rest : List Nat) (A : AF) (S : VV) (tk : Nat) (tkt : Nat → Nat) (kept tail : List Nat) (fuel i : Nat), j < A.W → A.up j = false → A.ln = kept ++ (rest ++ tail) →
    (∀ x, x ∈ kept → A.Q x 6 ≠ nI j) → (∀ x, x ∈ tail → A.Q x 6 ≠ nI j) → i + rest.countP (fun r => A.Q r 6 == nI j) = many → rest.length < fuel → RelM S g A mk ks tk tkt → LI A → TO A tk tkt → tk + rest.length < 2 ^ 31 →
    ∃ S' tk' tkt', M_X10_routeAll_9 k fuel (nI j) (nI many) (nI i) S = some S' ∧ RelM S' g (selF (fun A r => A.Q r 6 == nI j) routeA rest A) mk ks tk' tkt' ∧ TO (selF (fun A r => A.Q r 6 == nI j) routeA rest A) tk' tkt' ∧ tk' ≤ tk + rest.length ∧ ∀ j, j ≠ g → S' j = S j := by
  intro rest
  induction rest with
  | nil =>
    intro A S tk tkt kept tail fuel i hj hd hl hkp htl hi hf R h t htk
    obtain ⟨f, rfl⟩ : ∃ f, fuel = f + 1 := ⟨fuel - 1, by simp at hf; omega⟩
    have hi : i = many := by simpa using hi
    subst hi
    refine ⟨S, tk, tkt, ?_, R, t, Nat.le_refl _, fun _ _ => rfl⟩
    simp only [M_X10_routeAll_9]
    rw [if_pos (nI_le (Nat.le_refl _) (by omega))]
  | cons r rest ih =>
    intro A S tk tkt kept tail fuel i hj hd hl hkp htl hi hf R h t htk
    have hf : rest.length + 1 < fuel := by simpa using hf
    have htk : tk + (rest.length + 1) < 2 ^ 31 := by simpa using htk
    have hl2 : A.ln = kept ++ r :: (rest ++ tail) := hl
    have hmem : r ∈ A.ln := by rw [hl2]; simp
    have hnd : (kept ++ r :: (rest ++ tail)).Nodup := hl2 ▸ h.nd
    by_cases hc : A.Q r 6 = nI j
    · obtain ⟨f, rfl⟩ : ∃ f, fuel = f + 1 := ⟨fuel - 1, by omega⟩
      have hcount : i + 1 + rest.countP (fun r => A.Q r 6 == nI j) = many := by
        rw [List.countP_cons, beq_iff_eq.mpr hc, if_pos rfl] at hi
        omega
      have hnext : A.ln.find? (fun x => A.Q x 4 == 0 && A.Q x 6 == nI j && decide (0 ≤ tkt x)) = some r := by
        rw [hl2, find_skip (fun x hx => by rw [beq_false_of_ne (hkp x hx), Bool.and_false, Bool.false_and]), List.find?_cons, h.at0 hmem hj hc, hc]
        simp
      obtain ⟨S1, e1, R1, f1⟩ := ro_route R h.toAW hk (h.me r hmem)
      have hl3 : (routeA A r).ln = kept ++ (rest ++ (tail ++ [r])) := by
        show A.ln.filter (fun x => x != r) ++ [r] = _
        rw [hl2, filter_ne hnd]
        simp only [List.append_assoc]
      have hxr : ∀ x, x ∈ kept ++ (rest ++ tail) → x ≠ r := fun x hx e => by
        subst e
        have := List.nodup_append.mp hnd
        rcases List.mem_append.mp hx with hx | hx
        · exact this.2.2 x hx x List.mem_cons_self rfl
        · exact (List.nodup_cons.mp this.2.1).1 hx
      have hcnt : rest.countP (fun x => (routeA A r).Q x 6 == nI j) = rest.countP (fun r => A.Q r 6 == nI j) := by
        refine List.countP_congr (fun x hx => ?_)
        rw [routeA_ne A 6 (hxr x (by simp [hx]))]
      obtain ⟨S2, tk2, tkt2, e2, R2, t2, hle, f2⟩ := ih (routeA A r) S1 (tk + 1) (newT tkt r tk) kept (tail ++ [r]) f (i + 1) hj hd hl3
        (fun x hx => by rw [routeA_ne A 6 (hxr x (by simp [hx]))]; exact hkp x hx)
        (fun x hx => by
          rcases List.mem_append.mp hx with hx | hx
          · rw [routeA_ne A 6 (hxr x (by simp [hx]))]; exact htl x hx
          · have : x = r := by simpa using hx
            subst this
            exact routeA_not A h.toAW hj hd)
        (by rw [hcnt]; exact hcount) (by omega) R1 (h.route hmem) t.route (by omega)
      refine ⟨S2, tk2, tkt2, ?_, ?_, ?_, by rw [List.length_cons]; omega, fun x hx => by rw [f2 x hx, f1 x hx]⟩
      · simp only [M_X10_routeAll_9]
        have hz := rq_next R h t (by omega) hk (x := 0) (Or.inl rfl) (nI j) (tic := 0) (by omega)
        rw [nI_0] at hz
        rw [if_neg (nI_ge (by omega) (by omega)), hz, hnext, Option.bind_some]
        show ((M_X10_route k S (nI r)).bind _) = _
        rw [e1, Option.bind_some, nI_1]
        exact e2
      · rw [selF, if_pos (beq_iff_eq.mpr hc)]; exact R2
      · rw [selF, if_pos (beq_iff_eq.mpr hc)]; exact t2
    · have hl3 : A.ln = (kept ++ [r]) ++ (rest ++ tail) := by rw [hl2]; simp
      obtain ⟨S2, tk2, tkt2, e2, R2, t2, hle, f2⟩ := ih A S tk tkt (kept ++ [r]) tail fuel i hj hd hl3
        (fun x hx => by
          rcases List.mem_append.mp hx with hx | hx
          · exact hkp x hx
          · have : x = r := by simpa using hx
            subst this; exact hc) htl
        (by rw [List.countP_cons, beq_false_of_ne hc] at hi; simpa using hi) (by omega) R h t (by omega)
      refine ⟨S2, tk2, tkt2, e2, ?_, ?_, by rw [List.length_cons]; omega, f2⟩
      · rw [selF, if_neg (by rw [beq_false_of_ne hc]; decide)]; exact R2
      · rw [selF, if_neg (by rw [beq_false_of_ne hc]; decide)]; exact t2
theorem ro_routeAll (R : RelM S g A mk ks tk tkt) (h : LI A) (t : TO A tk tkt) (htk : tk + 60 < 2 ^ 31) (hk : 20000 ≤ k) {j : Nat} (hj : j < A.W) (hd : A.up j = false) :
    ∃ S' tk' tkt', M_X10_routeAll k S (nI j) = some S' ∧ RelM S' g (routeQ A j) mk ks tk' tkt' ∧ TO (routeQ A j) tk' tkt' ∧ tk' ≤ tk + 60 ∧ ∀ j, j ≠ g → S' j = S j := by
  have hl60 := h.toAL.len h.toAW
  have hW := h.w12
  have hcount : sumI (fun r => b1 (A.Q r 4 == 0 && A.Q r 6 == nI j)) A.n = nI (A.ln.countP (fun r => A.Q r 6 == nI j)) := by
    rw [← lsum_b1, lsum_line (n := A.n) (fun r => b1 (A.Q r 6 == nI j)) (p := fun r => A.Q r 4 == 0 || A.Q r 4 == 1) h.nd (fun r => by rw [h.wt]; simp)]
    refine sumI_ext (fun r hr => ?_)
    by_cases h0 : A.Q r 4 = 0
    · simp [h0]
    · by_cases h1 : A.Q r 4 = 1
      · have h6 : (A.Q r 6 == nI j) = false := by rw [h.q1 r hr h1]; exact beq_false_of_ne (fun e => m1_ne (by omega) e.symm)
        simp [h0, h1, h6, b1]
      · simp [h0, h1, b1]
  have hle := List.countP_le_length (p := fun r => A.Q r 6 == nI j) (l := A.ln)
  obtain ⟨S', tk', tkt', e, R', t', hle', f'⟩ := routeAll_loop (g := g) (mk := mk) (ks := ks) hk (j := j) (many := A.ln.countP (fun r => A.Q r 6 == nI j)) (by omega) A.ln A S tk tkt [] [] k 0 hj hd (by simp) (fun x hx => by cases hx) (fun x hx => by cases hx) (by omega) (by omega) R h t (by omega)
  refine ⟨S', tk', tkt', ?_, R', t', by omega, f'⟩
  simp only [M_X10_routeAll, M_X10_routeAll_0]
  rw [rq_countIn R h.toAW hk, Option.bind_some, hcount]
  rw [nI_0] at e
  exact e
theorem routeParked_loop (hk : 20000 ≤ k) {before : Nat} : ∀ (rest : List Nat) (A : AF) (S : VV) (tk : Nat) (tkt : Nat → Nat) (kept tail : List Nat) (fuel : Nat), A.ln = kept ++ (rest ++ tail) →
    (∀ x, x ∈ rest → tkt x < before) → (∀ x, x ∈ tail → before ≤ tkt x) → before ≤ tk → rest.length < fuel → RelM S g A mk ks tk tkt → LI A → TO A tk tkt → tk + rest.length < 2 ^ 31 →
    ∃ S' tk' tkt', M_X10_routeParked_16 k fuel (nI before) (oI ((rest ++ tail).find? (fun r => A.Q r 4 == 1))) S = some S' ∧ RelM S' g (selF (fun A r => A.Q r 4 == 1 && !cut A (tnOf A r)) routeA rest A) mk ks tk' tkt' ∧ TO (selF (fun A r => A.Q r 4 == 1 && !cut A (tnOf A r)) routeA rest A) tk' tkt' ∧ tk' ≤ tk + rest.length ∧ ∀ j, j ≠ g → S' j = S j := by
  intro rest
  induction rest with
  | nil =>
    intro A S tk tkt kept tail fuel hl hr htl hbt hf R h t htk
    have hn60 := h.n60
    obtain ⟨f, rfl⟩ : ∃ f, fuel = f + 1 := ⟨fuel - 1, by simp at hf; omega⟩
    have htk : tk < 2 ^ 31 := by simpa using htk
    refine ⟨S, tk, tkt, ?_, R, t, Nat.le_refl _, fun _ _ => rfl⟩
    simp only [M_X10_routeParked_16]
    rw [List.nil_append]
    cases hfd : tail.find? (fun r => A.Q r 4 == 1) with
    | none => rw [if_pos (by rfl)]
    | some x =>
      have hx := List.mem_of_find?_eq_some hfd
      have hxl : x ∈ A.ln := by rw [hl]; simp [hx]
      have hxn := h.me x hxl
      have hne : ¬ oI (some x) = -1 := m1_ne (by omega)
      rw [if_neg hne]
      show ((M_X10_of k S (nI x) 8).bind _) = _
      have hlt := t.lt x hxl
      rw [R.tick h.toAW k hxn, Option.bind_some, if_pos (nI_le (htl x hx) (by omega))]
  | cons r rest ih =>
    intro A S tk tkt kept tail fuel hl hr htl hbt hf R h t htk
    have hn60 := h.n60
    have hf : rest.length + 1 < fuel := by simpa using hf
    have htk : tk + (rest.length + 1) < 2 ^ 31 := by simpa using htk
    have hl2 : A.ln = kept ++ r :: (rest ++ tail) := hl
    have hmem : r ∈ A.ln := by rw [hl2]; simp
    have hrn := h.me r hmem
    have hnd : (kept ++ r :: (rest ++ tail)).Nodup := hl2 ▸ h.nd
    have hl3 : A.ln = (kept ++ [r]) ++ (rest ++ tail) := by rw [hl2]; simp
    obtain ⟨htn, hq0⟩ := h.toAW.tn hrn
    by_cases h4 : A.Q r 4 = 1
    · obtain ⟨f, rfl⟩ : ∃ f, fuel = f + 1 := ⟨fuel - 1, by omega⟩
      have hfind : ((r :: rest) ++ tail).find? (fun r => A.Q r 4 == 1) = some r := by
        show (r :: (rest ++ tail)).find? _ = _
        rw [List.find?_cons, h4]
        rfl
      have hrb := hr r List.mem_cons_self
      have hrtk := t.lt r hmem
      have hne : ¬ oI (some r) = -1 := m1_ne (by omega)
      have hso := t.so
      rw [hl2] at hso
      have hk1 : ∀ x, x ∈ kept → tkt x < tkt r := fun x hx => (List.pairwise_append.mp hso).2.2 x hx r List.mem_cons_self
      have hk2 : ∀ x, x ∈ rest ++ tail → tkt r < tkt x := (List.pairwise_cons.mp (List.pairwise_append.mp hso).2.1).1
      have hxr : ∀ x, x ∈ kept ++ (rest ++ tail) → x ≠ r := fun x hx e => by
        subst e
        have := List.nodup_append.mp hnd
        rcases List.mem_append.mp hx with hx | hx
        · exact this.2.2 x hx x List.mem_cons_self rfl
        · exact (List.nodup_cons.mp this.2.1).1 hx
      by_cases hcut : cut A (tnOf A r) = true
      · have hbn : bestA A (tnOf A r) = none := by
          rw [cut_best A h.toAW] at hcut
          exact Option.isNone_iff_eq_none.mp hcut
        obtain ⟨S2, tk2, tkt2, e2, R2, t2, hle, f2⟩ := ih A S tk tkt (kept ++ [r]) tail f hl3 (fun x hx => hr x (List.mem_cons_of_mem _ hx)) htl hbt (by omega) R h t (by omega)
        refine ⟨S2, tk2, tkt2, ?_, ?_, ?_, by rw [List.length_cons]; omega, f2⟩
        · simp only [M_X10_routeParked_16]
          rw [hfind, if_neg hne, show oI (some r) = nI r from rfl]
          rw [R.tick h.toAW k hrn, Option.bind_some, if_neg (nI_ge hrb (by omega)), Option.bind_some, R.q h.toAW k hrn 0, Option.bind_some, hq0, ro_least R h.toAW hk htn, Option.bind_some, hbn, if_pos (by rfl), nI_1, rq_next R h t (by omega) hk (x := 1) (Or.inr rfl) (-1) (tic := tkt r + 1) (by omega), Option.bind_some]
          have hfd : A.ln.find? (fun x => A.Q x 4 == 1 && A.Q x 6 == -1 && decide (tkt r + 1 ≤ tkt x)) = (rest ++ tail).find? (fun x => A.Q x 4 == 1) := by
            rw [hl3, find_skip (fun x hx => by
              have : ¬ tkt r + 1 ≤ tkt x := by
                rcases List.mem_append.mp hx with hx | hx
                · have := hk1 x hx; omega
                · have : x = r := by simpa using hx
                  subst this; omega
              rw [decide_eq_false this, Bool.and_false])]
            refine find_ext (fun x hx => ?_)
            have hxl : x ∈ A.ln := by rw [hl2]; exact List.mem_append_right _ (List.mem_cons_of_mem _ hx)
            rw [decide_eq_true (show tkt r + 1 ≤ tkt x from hk2 x hx), Bool.and_true]
            by_cases h1 : A.Q x 4 = 1
            · rw [h.q1 x (h.me x hxl) h1, h1]; rfl
            · rw [beq_false_of_ne h1]; rfl
          rw [hfd]
          exact e2
        · rw [selF, if_neg (by rw [hcut]; simp)]; exact R2
        · rw [selF, if_neg (by rw [hcut]; simp)]; exact t2
      · have hcut : cut A (tnOf A r) = false := by simpa using hcut
        obtain ⟨b, hbs⟩ : ∃ b, bestA A (tnOf A r) = some b := by
          rw [cut_best A h.toAW] at hcut
          cases hb : bestA A (tnOf A r) with
          | none => rw [hb] at hcut; cases hcut
          | some b => exact ⟨b, rfl⟩
        have hbW := (bestOf_some hbs).1
        have hW := h.w12
        have hneb : ¬ oI (some b) = -1 := m1_ne (by omega)
        obtain ⟨S1, e1, R1, f1⟩ := ro_route R h.toAW hk hrn
        have hl4 : (routeA A r).ln = kept ++ (rest ++ (tail ++ [r])) := by
          show A.ln.filter (fun x => x != r) ++ [r] = _
          rw [hl2, filter_ne hnd]
          simp only [List.append_assoc]
        have hLI1 := h.route hmem
        have hTO1 : TO (routeA A r) (tk + 1) (newT tkt r tk) := t.route
        have hnt : ∀ x, x ∈ kept ++ (rest ++ tail) → newT tkt r tk x = tkt x := fun x hx => if_neg (hxr x hx)
        obtain ⟨S2, tk2, tkt2, e2, R2, t2, hle, f2⟩ := ih (routeA A r) S1 (tk + 1) (newT tkt r tk) kept (tail ++ [r]) f hl4
          (fun x hx => by rw [hnt x (by simp [hx])]; exact hr x (List.mem_cons_of_mem _ hx))
          (fun x hx => by
            rcases List.mem_append.mp hx with hx | hx
            · rw [hnt x (by simp [hx])]; exact htl x hx
            · have : x = r := by simpa using hx
              subst this
              unfold newT
              rw [if_pos rfl]; exact hbt) (by omega) (by omega) R1 hLI1 hTO1 (by omega)
        refine ⟨S2, tk2, tkt2, ?_, ?_, ?_, by rw [List.length_cons]; omega, fun x hx => by rw [f2 x hx, f1 x hx]⟩
        · simp only [M_X10_routeParked_16]
          rw [hfind, if_neg hne, show oI (some r) = nI r from rfl]
          rw [R.tick h.toAW k hrn, Option.bind_some, if_neg (nI_ge hrb (by omega)), Option.bind_some, R.q h.toAW k hrn 0, Option.bind_some, hq0, ro_least R h.toAW hk htn, Option.bind_some, hbs, if_neg hneb]
          rw [e1, Option.bind_some, nI_1, rq_next R1 hLI1 hTO1 (by omega) hk (x := 1) (Or.inr rfl) (-1) (tic := tkt r + 1) (by omega), Option.bind_some]
          have hfd : (routeA A r).ln.find? (fun x => (routeA A r).Q x 4 == 1 && (routeA A r).Q x 6 == -1 && decide (tkt r + 1 ≤ newT tkt r tk x)) = (rest ++ (tail ++ [r])).find? (fun x => (routeA A r).Q x 4 == 1) := by
            rw [hl4, find_skip (fun x hx => by
              have : ¬ tkt r + 1 ≤ newT tkt r tk x := by
                rw [hnt x (by simp [hx])]
                have := hk1 x hx; omega
              rw [decide_eq_false this, Bool.and_false])]
            refine find_ext (fun x hx => ?_)
            have hxl : x ∈ (routeA A r).ln := by rw [hl4]; exact List.mem_append_right _ hx
            have hge : tkt r + 1 ≤ newT tkt r tk x := by
              by_cases hxe : x = r
              · unfold newT; rw [if_pos hxe]; omega
              · have hx2 : x ∈ rest ++ tail := by
                  have : x ∈ rest ++ tail ++ [r] := by rw [List.append_assoc]; exact hx
                  rcases List.mem_append.mp this with h | h
                  · exact h
                  · exact absurd (by simpa using h) hxe
                rw [hnt x (List.mem_append_right _ hx2)]
                exact hk2 x hx2
            rw [decide_eq_true hge, Bool.and_true]
            by_cases h1 : (routeA A r).Q x 4 = 1
            · rw [hLI1.q1 x (hLI1.me x hxl) h1, h1]; rfl
            · rw [beq_false_of_ne h1]; rfl
          rw [hfd]
          exact e2
        · rw [selF, if_pos (by rw [h4, hcut]; rfl)]; exact R2
        · rw [selF, if_pos (by rw [h4, hcut]; rfl)]; exact t2
    · obtain ⟨S2, tk2, tkt2, e2, R2, t2, hle, f2⟩ := ih A S tk tkt (kept ++ [r]) tail fuel hl3 (fun x hx => hr x (List.mem_cons_of_mem _ hx)) htl hbt (by omega) R h t (by omega)
      have hfind : ((r :: rest) ++ tail).find? (fun r => A.Q r 4 == 1) = (rest ++ tail).find? (fun r => A.Q r 4 == 1) := by
        show (r :: (rest ++ tail)).find? _ = _
        rw [List.find?_cons, beq_false_of_ne h4]
      refine ⟨S2, tk2, tkt2, ?_, ?_, ?_, by rw [List.length_cons]; omega, f2⟩
      · rw [hfind]; exact e2
      · rw [selF, if_neg (by rw [beq_false_of_ne h4]; simp)]; exact R2
      · rw [selF, if_neg (by rw [beq_false_of_ne h4]; simp)]; exact t2
theorem ro_routeParked (R : RelM S g A mk ks tk tkt) (h : LI A) (t : TO A tk tkt) (htk : tk + 60 < 2 ^ 31) (hk : 20000 ≤ k) :
    ∃ S' tk' tkt', M_X10_routeParked k S = some S' ∧ RelM S' g (routeP A) mk ks tk' tkt' ∧ TO (routeP A) tk' tkt' ∧ tk' ≤ tk + 60 ∧ ∀ j, j ≠ g → S' j = S j := by
  have hl60 := h.toAL.len h.toAW
  obtain ⟨S', tk', tkt', e, R', t', hle', f'⟩ := routeParked_loop (g := g) (mk := mk) (ks := ks) hk (before := tk) A.ln A S tk tkt [] [] k (by simp) t.lt (fun x hx => by cases hx) (Nat.le_refl _) (by omega) R h t (by omega)
  refine ⟨S', tk', tkt', ?_, R', t', by omega, f'⟩
  simp only [M_X10_routeParked, M_X10_routeParked_0]
  have h10 : S g (Int32.toNatClampNeg 10) = nI tk := R.s10
  have hz := rq_next R h t (by omega) hk (x := 1) (Or.inr rfl) (-1) (tic := 0) (by omega)
  rw [nI_0] at hz
  rw [gG R.gs, ifin (i := 10) (x := 10) rfl (by decide), lt_eq, h10, hz, Option.bind_some]
  have hfd : A.ln.find? (fun x => A.Q x 4 == 1 && A.Q x 6 == -1 && decide (0 ≤ tkt x)) = (A.ln ++ []).find? (fun x => A.Q x 4 == 1) := by
    rw [List.append_nil]
    refine find_ext (fun x hx => ?_)
    rw [decide_eq_true (Nat.zero_le _), Bool.and_true]
    by_cases h1 : A.Q x 4 = 1
    · rw [h.q1 x (h.me x hx) h1, h1]; rfl
    · rw [beq_false_of_ne h1]; rfl
  rw [hfd]
  exact e
end REF
