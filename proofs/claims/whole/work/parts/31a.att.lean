-- ===== attempts and the number of kills =====
def sumN (f : Nat → Nat) : Nat → Nat
  | 0 => 0
  | n + 1 => sumN f n + f n
theorem sumN_ext {f g : Nat → Nat} {n : Nat} (h : ∀ i, i < n → f i = g i) : sumN f n = sumN g n := by
  induction n with
  | zero => rfl
  | succ n ih => unfold sumN; rw [ih (fun i hi => h i (by omega)), h n (by omega)]
theorem sumN_le {f : Nat → Nat} {n c : Nat} (h : ∀ i, i < n → f i ≤ c) : sumN f n ≤ c * n := by
  induction n with
  | zero => exact Nat.zero_le _
  | succ n ih =>
    have h1 := ih (fun i hi => h i (by omega))
    have h2 := h n (by omega)
    unfold sumN
    rw [Nat.mul_succ]
    omega
theorem sumN_add (f g : Nat → Nat) (n : Nat) : sumN (fun i => f i + g i) n = sumN f n + sumN g n := by
  induction n with
  | zero => rfl
  | succ n ih => unfold sumN; rw [ih]; omega
theorem sumN_one {f g : Nat → Nat} {n r : Nat} (hr : r < n) (h : g r = f r + 1) (ho : ∀ i, i < n → i ≠ r → g i = f i) : sumN g n = sumN f n + 1 := by
  induction n with
  | zero => omega
  | succ n ih =>
    unfold sumN
    by_cases e : r = n
    · subst e
      rw [sumN_ext (fun i hi => ho i (by omega) (by omega)), h]
      omega
    · rw [ih (by omega) (fun i hi hne => ho i (by omega) hne), ho n (by omega) (by omega)]
      omega
theorem sumN_mem {l : List Nat} {n : Nat} (hd : l.Nodup) (hm : ∀ r, r ∈ l → r < n) : sumN (fun r => if r ∈ l then 1 else 0) n = l.length := by
  have h : l.Perm ((List.range n).filter (fun r => decide (r ∈ l))) := (List.perm_ext_iff_of_nodup hd (nodup_filter List.nodup_range _)).mpr (fun r => by
    rw [List.mem_filter, List.mem_range, decide_eq_true_eq]
    exact ⟨fun h => ⟨hm r h, h⟩, fun h => h.2⟩)
  rw [h.length_eq]
  clear h hm
  induction n with
  | zero => rfl
  | succ n ih =>
    unfold sumN
    rw [ih, List.range_succ, List.filter_append, List.length_append, List.filter_cons]
    by_cases e : n ∈ l
    · rw [if_pos e, if_pos (decide_eq_true e)]; rfl
    · rw [if_neg e, if_neg (by rw [decide_eq_false e]; decide)]; rfl
def atn (A : AF) (r : Nat) : Nat := (A.Q r 5).toNatClampNeg
def AT (A : AF) (len : Nat) : Prop := (∀ r, r < A.n → A.Q r 5 = nI (atn A r) ∧ atn A r ≤ 6 ∧ (waits A r = true → atn A r ≤ 5)) ∧ (sumN (atn A) A.n = len)
theorem AT.q5 {A : AF} {len : Nat} (R__ : AT A len) : ∀ r, r < A.n → A.Q r 5 = nI (atn A r) ∧ atn A r ≤ 6 ∧ (waits A r = true → atn A r ≤ 5) := R__.1
theorem AT.su {A : AF} {len : Nat} (R__ : AT A len) : sumN (atn A) A.n = len := R__.2
theorem AT.ofs {A : AF} {len : Nat} (q5 : ∀ r, r < A.n → A.Q r 5 = nI (atn A r) ∧ atn A r ≤ 6 ∧ (waits A r = true → atn A r ≤ 5)) (su : sumN (atn A) A.n = len) : AT A len := ⟨q5, su⟩
theorem AT.of {A B : AF} {len : Nat} (h : AT A len) (hn : B.n = A.n) (h5 : ∀ r, r < A.n → B.Q r 5 = A.Q r 5) (hw : ∀ r, r < A.n → waits B r = true → waits A r = true) : AT B len := by
  have he : ∀ r, r < A.n → atn B r = atn A r := fun r hr => by unfold atn; rw [h5 r hr]
  refine ⟨fun r hr => ?_, ?_⟩
  · rw [hn] at hr
    rw [he r hr, h5 r hr]
    exact ⟨(h.q5 r hr).1, (h.q5 r hr).2.1, fun hb => (h.q5 r hr).2.2 (hw r hr hb)⟩
  · rw [hn, sumN_ext he]; exact h.su
theorem waits_mem {A : AF} (h : LI A) {r : Nat} (hr : r ∈ A.ln) : waits A r = true := by
  unfold waits
  rw [Bool.or_eq_true, beq_iff_eq, beq_iff_eq]
  exact ((h.wt r).mp hr).2
theorem mem_waits {A : AF} (h : LI A) {r : Nat} (hr : r < A.n) (hw : waits A r = true) : r ∈ A.ln := by
  unfold waits at hw
  rw [Bool.or_eq_true, beq_iff_eq, beq_iff_eq] at hw
  exact (h.wt r).mpr ⟨hr, hw⟩
theorem AT.route {A : AF} {len : Nat} (a : AT A len) (h : LI A) {r : Nat} (hr : r ∈ A.ln) : AT (routeA A r) len := a.of rfl (fun x _ => putR_c A r _ x (by decide) (by decide) (by decide)) (fun x hx hw => by
  by_cases e : x = r
  · rw [e]; exact waits_mem h hr
  · unfold waits at hw ⊢
    rw [routeA_ne A 4 e] at hw
    exact hw)
theorem AT.endL {A : AF} {len : Nat} (a : AT A len) (r : Nat) {s : Int32} (hs : s ≠ 0 ∧ s ≠ 1) : AT (endL A r s) len := a.of rfl (fun x _ => endA_c A r s x (by decide) (by decide) (by decide)) (fun x hx hw => by
  unfold waits at hw ⊢
  rw [endL_Q] at hw
  by_cases e : x = r
  · rw [if_pos e, if_neg (by decide), if_neg (by decide), if_pos rfl] at hw
    simp [hs.1, hs.2] at hw
  · rw [if_neg e] at hw; exact hw)
theorem AT.retry {A : AF} {len : Nat} (a : AT A len) (h : LI A) (h1 : A.st 1 ≤ 5) {r : Nat} (hr : r ∈ A.ln) : AT (retry A r) (len + 1) := by
  have hrn := h.me r hr
  obtain ⟨g1, g2, g3⟩ := a.q5 r hrn
  have g3 := g3 (waits_mem h hr)
  have hq : (att A r).Q r 5 = nI (atn A r + 1) := by
    show setQ A.Q r 5 (A.Q r 5 + 1) r 5 = _
    rw [setQ_self, g1, nI_1]
  have hqo : ∀ x, x ≠ r → (att A r).Q x 5 = A.Q x 5 := fun x hx => setQ_ne (fun e => hx e.1)
  have h4 : ∀ x, (att A r).Q x 4 = A.Q x 4 := fun x => att_q A r x (by decide)
  have hat : ∀ B : AF, B.n = A.n → (∀ x, x < A.n → B.Q x 5 = (att A r).Q x 5) → (∀ x, x < A.n → x ≠ r → waits B x = true → waits A x = true) → (waits B r = true → atn A r + 1 ≤ 5) → AT B (len + 1) := by
    intro B hn hb hw hwr
    have er : atn B r = atn A r + 1 := by unfold atn; rw [hb r hrn, hq, nI_clamp (by unfold atn at g2; omega)]; rfl
    have eo : ∀ x, x < A.n → x ≠ r → atn B x = atn A x := fun x hx hne => by unfold atn; rw [hb x hx, hqo x hne]
    refine ⟨fun x hx => ?_, ?_⟩
    · rw [hn] at hx
      by_cases e : x = r
      · subst e
        rw [er, hb x hx, hq]
        exact ⟨rfl, by omega, hwr⟩
      · rw [eo x hx e, hb x hx, hqo x e]
        exact ⟨(a.q5 x hx).1, (a.q5 x hx).2.1, fun hh => (a.q5 x hx).2.2 (hw x hx e hh)⟩
    · rw [hn, sumN_one hrn er (fun x hx hne => eo x hx hne), a.su]
  rw [retry_un]
  by_cases hc : (att A r).Q r 5 ≤ nI (A.st 1)
  · rw [if_pos hc]
    rw [hq] at hc
    have hc := (nI_leI (by omega) (by omega)).mp hc
    refine hat _ rfl (fun x _ => putR_c (att A r) r _ x (by decide) (by decide) (by decide)) (fun x hx hne hw => ?_) (fun _ => by omega)
    unfold waits at hw ⊢
    rw [routeA_ne (att A r) 4 hne, h4] at hw
    exact hw
  · rw [if_neg hc]
    refine hat _ rfl (fun x _ => endA_c (att A r) r 3 x (by decide) (by decide) (by decide)) (fun x hx hne hw => ?_) (fun hw => ?_)
    · unfold waits at hw ⊢
      rw [endL_Q, if_neg hne, h4] at hw
      exact hw
    · unfold waits at hw
      rw [endL_Q, if_pos rfl, if_neg (by decide), if_neg (by decide), if_pos rfl] at hw
      simp at hw
theorem AT.wk {A : AF} {len : Nat} (a : AT A len) (p : Nat × Nat) : AT (wk A p) len := a.of (wk_n A p).1 (fun x _ => by
  rw [wk_Q]
  by_cases h : x = p.1
  · rw [if_pos h, h]
    unfold wkQ
    simp
  · rw [if_neg h]) (fun x hx hw => by
  unfold waits at hw ⊢
  rw [wk_Q] at hw
  by_cases h : x = p.1
  · rw [if_pos h] at hw
    unfold wkQ at hw
    by_cases h1 : 0 < A.Q x 2 - 1
    · rw [if_pos h1, if_neg (by decide)] at hw; exact hw
    · rw [if_neg h1] at hw
      by_cases h2 : A.Q x 3 = 0
      · rw [if_pos h2] at hw; simp at hw
      · rw [if_neg h2, if_neg (by decide)] at hw; exact hw
  · rw [if_neg h] at hw; exact hw)
theorem AT.refW {A : AF} {len : Nat} (a : AT A len) : ∀ i, AT (refW A i) len
  | 0 => a
  | i + 1 => by
    have ih := a.refW i
    rw [refW_un]
    cases fstA A i with
    | none => exact ih
    | some r => exact ih.wk _
theorem AT.routeQ {A : AF} {len : Nat} (a : AT A len) (h : LI A) (j : Nat) : AT (routeQ A j) len := (routeQ_inv h j (fun B => AT B len) a (fun B r hB _ hr _ aB => aB.route hB hr)).2.2
theorem AT.routeP {A : AF} {len : Nat} (a : AT A len) (h : LI A) : AT (routeP A) len := (routeP_inv h (fun B => AT B len) a (fun B r hB _ hr aB => aB.route hB hr)).2.2
theorem AT.refuse {A : AF} {len : Nat} (a : AT A len) (h : LI A) (t : Nat) : AT (refuseA A t) len := (refuse_inv h t (fun B => AT B len) a (fun B r _ _ _ aB => aB.endL r (by decide))).2.2
theorem AT.clear {K : Nat → Option Nat} {A : AF} {len : Nat} (a : AT A len) (h : LI A) (h1 : A.st 1 ≤ 5) (hK : ∀ j r, j < A.W → K j = some r → A.up j = false ∧ A.ln.find? (fun x => A.Q x 6 == nI j) = some r) : ∀ i, i ≤ A.W → AT (clearF K A i) (len + (killsK K A i).length)
  | 0, _ => a
  | i + 1, hi => by
    have ih := a.clear h h1 hK i (by omega)
    have I := clear_inv h hK i (by omega)
    have e : clearF K A (i + 1) = match K i with | none => clearF K A i | some r => clr (clearF K A i) r i := rfl
    have e2 : killsK K A (i + 1) = match K i with | none => killsK K A i | some r => killsK K A i ++ [(A.t, tnOf A r, i)] := rfl
    cases hk : K i with
    | none => rw [hk] at e e2; rw [e, e2]; exact ih
    | some r =>
      rw [hk] at e e2
      have e : clearF K A (i + 1) = clr (clearF K A i) r i := e
      have e2 : killsK K A (i + 1) = killsK K A i ++ [(A.t, tnOf A r, i)] := e2
      have hm := List.mem_of_find?_eq_some (I.fr i r (Nat.le_refl _) (by omega) hk).2
      have a1 := ih.retry I.li (by rw [I.sm.st]; exact h1) hm
      have a2 := a1.routeQ (retry_inv I.li hm).1 i
      rw [e, e2, List.length_append]
      exact a2
/-- there is room for the kills of a tick -/
theorem AT.room {A : AF} {len : Nat} (a : AT A len) (h : LI A) : len + (fsts A).length ≤ 360 := by
  have hn := h.n60
  have hW := h.w12
  have hln : ∀ r, r ∈ (fsts A).map Prod.fst → r ∈ A.ln := fun r hr => by
    obtain ⟨p, hp, rfl⟩ := List.mem_map.mp hr
    exact firsts_mem hp
  have hnd : ((fsts A).map Prod.fst).Nodup := by
    have : ∀ (l : List Nat) (B : Nat → Bool), l.Nodup → ((firsts A.Q B l).map Prod.fst).Nodup := by
      intro l
      induction l with
      | nil => intro B _; exact List.nodup_nil
      | cons r l ih =>
        intro B hd
        have hr := (List.nodup_cons.mp hd).1
        have hl := (List.nodup_cons.mp hd).2
        unfold firsts
        split
        · exact ih B hl
        · split
          · exact ih B hl
          · rw [List.map_cons]
            refine List.nodup_cons.mpr ⟨fun hm => hr ?_, ih _ hl⟩
            obtain ⟨p, hp, e⟩ := List.mem_map.mp hm
            have := firsts_mem hp
            rw [e] at this
            exact this
    exact this A.ln _ h.nd
  have hlen := sumN_mem (n := A.n) hnd (fun r hr => h.me r (hln r hr))
  have hsum := sumN_add (atn A) (fun r => if r ∈ (fsts A).map Prod.fst then 1 else 0) A.n
  have hle := sumN_le (f := fun i => atn A i + (if i ∈ (fsts A).map Prod.fst then 1 else 0)) (n := A.n) (c := 6) (fun r hr => by
    obtain ⟨g1, g2, g3⟩ := a.q5 r hr
    by_cases e : r ∈ (fsts A).map Prod.fst
    · have := g3 (waits_mem h (hln r e))
      simp only [if_pos e]
      omega
    · simp only [if_neg e]
      omega)
  rw [hsum, hlen, a.su, List.length_map] at hle
  omega
