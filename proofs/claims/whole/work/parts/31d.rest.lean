-- ===== a tick keeps what holds of a fleet at rest =====
theorem sr_of {A B : AF} (s : SR A) (hn : B.n = A.n) (h : ∀ r, r < A.n → B.Q r 4 = A.Q r 4 ∨ ∃ x, x ≤ 4 ∧ B.Q r 4 = nI x) : SR B := fun r hr => by
  have hr : r < A.n := hn ▸ hr
  rcases h r hr with e | ⟨x, hx, e⟩
  · obtain ⟨y, hy, e2⟩ := s r hr
    exact ⟨y, hy, e.trans e2⟩
  · exact ⟨x, hx, e⟩
theorem sr_route {A : AF} (s : SR A) (r : Nat) : SR (routeA A r) := sr_of (B := routeA A r) s rfl (fun x hx => by
  by_cases e : x = r
  · subst e
    right
    have e4 : (routeA A x).Q x 4 = if bestA A (tnOf A x) = none then 1 else 0 := putR_4 A x _
    rw [e4]
    by_cases hb : bestA A (tnOf A x) = none
    · rw [if_pos hb]; exact ⟨1, by decide, rfl⟩
    · rw [if_neg hb]; exact ⟨0, by decide, rfl⟩
  · left; exact routeA_ne A 4 e)
theorem sr_wk {A : AF} (s : SR A) (p : Nat × Nat) : SR (wk A p) := sr_of (B := wk A p) s (wk_n A p).1 (fun x hx => by
  rw [wk_Q]
  by_cases e : x = p.1
  · rw [if_pos e]
    unfold wkQ
    by_cases h1 : 0 < A.Q x 2 - 1
    · rw [if_pos h1, if_neg (by decide)]; exact Or.inl rfl
    · rw [if_neg h1]
      by_cases h2 : A.Q x 3 = 0
      · rw [if_pos h2]; right; exact ⟨2, by decide, by rw [if_neg (by decide), if_neg (by decide), if_pos rfl]; rfl⟩
      · rw [if_neg h2, if_neg (by decide)]; exact Or.inl rfl
  · rw [if_neg e]; exact Or.inl rfl)
theorem sr_refW {A : AF} (s : SR A) : ∀ i, SR (refW A i)
  | 0 => s
  | i + 1 => by
    have ih := sr_refW s i
    unfold refW
    cases fstA A i with
    | none => exact ih
    | some r => exact sr_wk ih _
theorem sr_att {A : AF} (s : SR A) (r : Nat) : SR (att A r) := sr_of (B := att A r) s rfl (fun x hx => Or.inl (att_q A r x (by decide)))
theorem sr_retry {A : AF} (s : SR A) (r : Nat) : SR (retry A r) := by
  unfold retry
  split
  · exact sr_route (sr_att s r) r
  · exact SR.endL (sr_att s r) r (x := 3) (by decide)
theorem sr_routeQ {A : AF} (h : LI A) (s : SR A) (j : Nat) : SR (routeQ A j) := (routeQ_inv h j SR s (fun B r _ _ _ _ sB => sr_route sB r)).2.2
theorem sr_routeP {A : AF} (h : LI A) (s : SR A) : SR (routeP A) := (routeP_inv h SR s (fun B r _ _ _ sB => sr_route sB r)).2.2
theorem sr_clear {K : Nat → Option Nat} {A : AF} (h : LI A) (s : SR A) (hK : ∀ j r, j < A.W → K j = some r → A.up j = false ∧ A.ln.find? (fun x => A.Q x 6 == nI j) = some r) : ∀ i, i ≤ A.W → SR (clearF K A i)
  | 0, _ => s
  | i + 1, hi => by
    have ih := sr_clear h s hK i (by omega)
    have I := clear_inv h hK i (by omega)
    have e : clearF K A (i + 1) = match K i with | none => clearF K A i | some r => clr (clearF K A i) r i := rfl
    cases hk : K i with
    | none => rw [hk] at e; rw [e]; exact ih
    | some r =>
      rw [hk] at e
      have e : clearF K A (i + 1) = clr (clearF K A i) r i := e
      have hm := List.mem_of_find?_eq_some (I.fr i r (Nat.le_refl _) (by omega) hk).2
      rw [e]
      exact sr_routeQ (retry_inv I.li hm).1 (sr_retry ih r) i
/-- a worker's queue is empty behind its routing -/
theorem routeQ_none {j : Nat} : ∀ (rest : List Nat) (A : AF), LI A → j < A.W → A.up j = false → (∀ x, x ∈ rest → x ∈ A.ln) → (∀ x, x ∈ A.ln → A.Q x 6 = nI j → x ∈ rest) →
    ∀ x, x ∈ (selF (fun A r => A.Q r 6 == nI j) routeA rest A).ln → (selF (fun A r => A.Q r 6 == nI j) routeA rest A).Q x 6 ≠ nI j
  | [], A, h, hj, hd, hr, hx => fun x hm e => by cases hx x hm e
  | r :: rest, A, h, hj, hd, hr, hx => by
    by_cases hc : A.Q r 6 = nI j
    · have hb : (A.Q r 6 == nI j) = true := beq_iff_eq.mpr hc
      rw [selF, if_pos hb]
      have hrl := hr r List.mem_cons_self
      have hmem : ∀ x, x ∈ (routeA A r).ln ↔ x ∈ A.ln := fun x => by
        show x ∈ A.ln.filter (fun y => y != r) ++ [r] ↔ x ∈ A.ln
        by_cases ex : x = r
        · subst ex; simp [hrl]
        · simp [ex]
      refine routeQ_none rest (routeA A r) (h.route hrl) hj hd (fun x hxr => (hmem x).mpr (hr x (List.mem_cons_of_mem _ hxr))) (fun x hxl h6 => ?_)
      by_cases ex : x = r
      · subst ex; exact absurd h6 (routeA_not A h.toAW hj hd)
      · rw [routeA_ne A 6 ex] at h6
        exact (List.mem_cons.mp (hx x ((hmem x).mp hxl) h6)).resolve_left ex
    · have hb : ¬ (A.Q r 6 == nI j) = true := fun e => hc (beq_iff_eq.mp e)
      rw [selF, if_neg hb]
      refine routeQ_none rest A h hj hd (fun x hxr => hr x (List.mem_cons_of_mem _ hxr)) (fun x hxl h6 => ?_)
      rcases List.mem_cons.mp (hx x hxl h6) with ex | h'
      · subst ex; exact absurd h6 hc
      · exact h'
/-- whoever is queued is so with a worker that is up, or with one whose turn is still to come -/
def SK (K : Nat → Option Nat) (i : Nat) (A : AF) : Prop := ∀ r j, r ∈ A.ln → j < A.W → A.Q r 6 = nI j → A.up j = true ∨ (i ≤ j ∧ (K j).isSome = true)
theorem sk_route {K : Nat → Option Nat} {i : Nat} {A : AF} (w : AW A) (s : SK K i A) (r : Nat) : SK K i (routeA A r) := fun x j hx hj hq => by
  by_cases e : x = r
  · subst e
    by_cases hu : A.up j = true
    · exact Or.inl hu
    · exact absurd hq (routeA_not A w hj (by simpa using hu))
  · rw [routeA_ne A 6 e] at hq
    have hx2 : x ∈ A.ln.filter (fun y => y != r) ++ [r] := hx
    have hx3 : x ∈ A.ln := by
      rcases List.mem_append.mp hx2 with h | h
      · exact (List.mem_filter.mp h).1
      · exact absurd (by simpa using h) e
    exact s x j hx3 hj hq
theorem sk_endL {K : Nat → Option Nat} {i : Nat} {A : AF} (s : SK K i A) (r : Nat) (v : Int32) : SK K i (endL A r v) := fun x j hx hj hq => by
  have hx2 := List.mem_filter.mp (show x ∈ A.ln.filter (fun y => y != r) from hx)
  have e : x ≠ r := bne_iff_ne.mp hx2.2
  rw [endL_Q, if_neg e] at hq
  exact s x j hx2.1 hj hq
theorem sk_att {K : Nat → Option Nat} {i : Nat} {A : AF} (s : SK K i A) (r : Nat) : SK K i (att A r) := fun x j hx hj hq => by
  rw [att_q A r x (by decide)] at hq
  exact s x j hx hj hq
theorem sk_retry {K : Nat → Option Nat} {i : Nat} {A : AF} (h : LI A) (s : SK K i A) (r : Nat) : SK K i (retry A r) := by
  unfold retry
  split
  · exact sk_route (h.att r).toAW (sk_att s r) r
  · exact sk_endL (sk_att s r) r 3
theorem sk_clr {K : Nat → Option Nat} {i : Nat} {A : AF} (h : LI A) (s : SK K i A) {r : Nat} (hr : r ∈ A.ln) (hi : i < A.W) (hd : A.up i = false) : SK K (i + 1) (clr A r i) := by
  obtain ⟨L1, M1⟩ := retry_inv h hr
  have s1 : SK K i (retry A r) := sk_retry h s r
  have s2 := (routeQ_inv L1 i (SK K i) s1 (fun B x hB _ _ _ sB => sk_route hB.toAW sB x)).2
  have hn := routeQ_none (retry A r).ln (retry A r) L1 (by rw [M1.W]; exact hi) (by rw [M1.up]; exact hd) (fun x hx => hx) (fun x hx _ => hx)
  intro x j hx hj hq
  rcases s2.2 x j hx hj hq with h | ⟨h1, h2⟩
  · exact Or.inl h
  · by_cases e : j = i
    · subst e; exact absurd hq (hn x hx)
    · exact Or.inr ⟨by omega, h2⟩
theorem sk_clear {K : Nat → Option Nat} {A : AF} (h : LI A) (hK : ∀ j r, j < A.W → K j = some r → A.up j = false ∧ A.ln.find? (fun x => A.Q x 6 == nI j) = some r) (s : SK K 0 A) : ∀ i, i ≤ A.W → SK K i (clearF K A i)
  | 0, _ => s
  | i + 1, hi => by
    have ih := sk_clear h hK s i (by omega)
    have I := clear_inv h hK i (by omega)
    have e : clearF K A (i + 1) = match K i with | none => clearF K A i | some r => clr (clearF K A i) r i := rfl
    cases hk : K i with
    | none =>
      rw [hk] at e
      have e : clearF K A (i + 1) = clearF K A i := e
      rw [e]
      intro x j hx hj hq
      rcases ih x j hx hj hq with h | ⟨h1, h2⟩
      · exact Or.inl h
      · by_cases ej : j = i
        · subst ej; rw [hk] at h2; cases h2
        · exact Or.inr ⟨by omega, h2⟩
    | some r =>
      rw [hk] at e
      have e : clearF K A (i + 1) = clr (clearF K A i) r i := e
      obtain ⟨hd, hf⟩ := I.fr i r (Nat.le_refl _) (by omega) hk
      rw [e]
      exact sk_clr I.li ih (List.mem_of_find?_eq_some hf) (by rw [I.sm.W]; omega) (by rw [I.sm.up]; exact hd)
/-- whoever is still in the line is where it was -/
theorem wk_stay {A : AF} {p : Nat × Nat} {x : Nat} (h : x ∈ (wk A p).ln) : x ∈ A.ln ∧ (wk A p).Q x 6 = A.Q x 6 := by
  rw [wk_line] at h
  obtain ⟨h1, h2⟩ := List.mem_filter.mp h
  refine ⟨h1, ?_⟩
  rw [wk_Q]
  by_cases e : x = p.1
  · rw [if_pos e]
    rw [e, beq_self_eq_true, Bool.true_and, Bool.not_eq_true'] at h2
    unfold wkDone at h2
    unfold wkQ
    by_cases h3 : 0 < A.Q x 2 - 1
    · rw [if_pos h3, if_neg (by decide)]
    · rw [if_neg h3]
      by_cases h4 : A.Q x 3 = 0
      · rw [e] at h3 h4
        rw [decide_eq_false h3, decide_eq_true h4] at h2
        cases h2
      · rw [if_neg h4, if_neg (by decide)]
  · rw [if_neg e]
theorem refW_stay {A : AF} : ∀ i {x : Nat}, x ∈ (refW A i).ln → x ∈ A.ln ∧ (refW A i).Q x 6 = A.Q x 6
  | 0, _, h => ⟨h, rfl⟩
  | i + 1, x, h => by
    have ih := refW_stay (A := A) i (x := x)
    have e : refW A (i + 1) = match fstA A i with | none => refW A i | some r => wk (refW A i) (r, i) := rfl
    cases hf : fstA A i with
    | none => rw [hf] at e; rw [e] at h ⊢; exact ih h
    | some r =>
      rw [hf] at e
      have e : refW A (i + 1) = wk (refW A i) (r, i) := e
      rw [e] at h ⊢
      obtain ⟨h1, h2⟩ := wk_stay h
      obtain ⟨h3, h4⟩ := ih h1
      exact ⟨h3, h2.trans h4⟩
theorem refW_SK {A : AF} (h : LI A) (su : SU A) : SK (killer A) 0 (refW A A.W) := fun x j hx hj hq => by
  have I := refW_inv h A.W (Nat.le_refl _)
  obtain ⟨h1, h2⟩ := refW_stay A.W hx
  have hj2 : j < A.W := by rw [← I.W]; exact hj
  have hu := su x j h1 hj2 (h2.symm.trans hq)
  rw [refW_up h A.W (Nat.le_refl _) j, hu]
  cases hk : (killer A j).isSome with
  | false => left; simp
  | true => right; exact ⟨Nat.zero_le _, rfl⟩
theorem su_endL {A : AF} (s : SU A) (r : Nat) (v : Int32) : SU (endL A r v) := fun x j hx hj hq => by
  have hx2 := List.mem_filter.mp (show x ∈ A.ln.filter (fun y => y != r) from hx)
  have e : x ≠ r := bne_iff_ne.mp hx2.2
  rw [endL_Q, if_neg e] at hq
  exact s x j hx2.1 hj hq
theorem SU.sameE {A B : AF} (h : SU A) (s : SameE A B) : SU B := fun r j hr hj hq => by
  rw [s.up]
  exact h r j (by rw [← s.ln]; exact hr) (by rw [← s.W]; exact hj) (by rw [← s.Q]; exact hq)
theorem SR.sameE {A B : AF} (h : SR A) (s : SameE A B) : SR B := fun r hr => by
  rw [s.Q]
  exact h r (by rw [← s.n]; exact hr)
theorem AT.sameE {A B : AF} {len : Nat} (h : AT A len) (s : SameE A B) : AT B len := h.of s.n (fun r _ => by rw [s.Q]) (fun r _ hw => by
  unfold waits at hw ⊢
  rw [s.Q] at hw
  exact hw)
theorem begA_more {A : AF} {len : Nat} (h : LI A) (su : SU A) (a : AT A len) (t : Nat) : SU (begA A t) ∧ AT (begA A t) len := by
  have s := SameE.wE A (up1 A.qe t (nI (A.t + A.st 4)))
  have h2 := h.sameE s
  exact ⟨(refuse_inv h2 t SU (su.sameE s) (fun B r _ _ _ sB => su_endL sB r 4)).2.2, (a.sameE s).refuse h2 t⟩
theorem beg_more {A : AF} {fg : Nat → Nat} {ks : KL} {len : Nat} (h : LI A) (s : SR A) (hfg : ∀ t, t < A.m → fg t ≤ A.t) (su : SU A) (a : AT A len) : ∀ i, SU (begF A fg ks i).1 ∧ AT (begF A fg ks i).1 len
  | 0 => ⟨su, a⟩
  | i + 1 => by
    have ih := beg_more h s hfg su a (ks := ks) i
    have I := beg_inv h s hfg (ks := ks) i
    have e : begF A fg ks (i + 1) = if begC (begF A fg ks i).1 (begF A fg ks i).2 ks i then (begA (begF A fg ks i).1 i, up1 (begF A fg ks i).2 i A.t) else begF A fg ks i := rfl
    by_cases hc : begC (begF A fg ks i).1 (begF A fg ks i).2 ks i = true
    · rw [if_pos hc] at e
      rw [e]
      exact begA_more I.li ih.1 ih.2 i
    · rw [if_neg hc] at e
      rw [e]
      exact ih
theorem pw_all {α : Type} {R : α → α → Prop} : ∀ {l : List α}, (∀ a, a ∈ l → ∀ b, b ∈ l → R a b) → l.Pairwise R
  | [], _ => List.Pairwise.nil
  | a :: l, h => List.Pairwise.cons (fun b hb => h a List.mem_cons_self b (List.mem_cons_of_mem _ hb)) (pw_all fun x hx y hy => h x (List.mem_cons_of_mem _ hx) y (List.mem_cons_of_mem _ hy))
/-- what no tick changes -/
def SameZ (A B : AF) : Prop := (B.W = A.W) ∧ (B.Z = A.Z) ∧ (B.m = A.m) ∧ (B.n = A.n) ∧ (B.st = A.st) ∧ (B.sh = A.sh)
theorem SameZ.W {A B : AF} (R__ : SameZ A B) : B.W = A.W := R__.1
theorem SameZ.Z {A B : AF} (R__ : SameZ A B) : B.Z = A.Z := R__.2.1
theorem SameZ.m {A B : AF} (R__ : SameZ A B) : B.m = A.m := R__.2.2.1
theorem SameZ.n {A B : AF} (R__ : SameZ A B) : B.n = A.n := R__.2.2.2.1
theorem SameZ.st {A B : AF} (R__ : SameZ A B) : B.st = A.st := R__.2.2.2.2.1
theorem SameZ.sh {A B : AF} (R__ : SameZ A B) : B.sh = A.sh := R__.2.2.2.2.2
theorem SameZ.ofs {A B : AF} (W : B.W = A.W) (Z : B.Z = A.Z) (m : B.m = A.m) (n : B.n = A.n) (st : B.st = A.st) (sh : B.sh = A.sh) : SameZ A B := ⟨W, Z, m, n, st, sh⟩
theorem SameZ.refl (A : AF) : SameZ A A := ⟨rfl, rfl, rfl, rfl, rfl, rfl⟩
theorem SameZ.trans {A B C : AF} (h : SameZ A B) (g : SameZ B C) : SameZ A C := ⟨g.W.trans h.W, g.Z.trans h.Z, g.m.trans h.m, g.n.trans h.n, g.st.trans h.st, g.sh.trans h.sh⟩
theorem refW_sm (A : AF) : ∀ i, SameZ A (refW A i) ∧ (refW A i).t = A.t
  | 0 => ⟨SameZ.refl A, rfl⟩
  | i + 1 => by
    obtain ⟨ih, it⟩ := refW_sm A i
    have e : refW A (i + 1) = match fstA A i with | none => refW A i | some r => wk (refW A i) (r, i) := rfl
    cases hf : fstA A i with
    | none => rw [hf] at e; rw [e]; exact ⟨ih, it⟩
    | some r =>
      rw [hf] at e
      have e : refW A (i + 1) = wk (refW A i) (r, i) := e
      rw [e]
      obtain ⟨h1, h2, h3, h4, h5, h6, h7⟩ := wk_n (refW A i) (r, i)
      exact ⟨ih.trans ⟨h2, wk_Z _ _, h3, h1, h5, h6⟩, h4.trans it⟩
