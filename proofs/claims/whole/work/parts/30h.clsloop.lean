-- ===== the line's loops =====
/-- what holds of the line and of the marks of those in it -/
def LI (A : AF) : Prop := (AW A) ∧ (AL A) ∧ (∀ r, r ∈ A.ln ↔ r < A.n ∧ (A.Q r 4 = 0 ∨ A.Q r 4 = 1)) ∧ (∀ r, r < A.n → A.Q r 4 = 0 → ∃ j, j < A.W ∧ A.Q r 6 = nI j) ∧ (∀ r, r < A.n → A.Q r 4 = 1 → A.Q r 6 = -1)
theorem LI.toAW {A : AF} (R__ : LI A) : AW A := R__.1
theorem LI.toAL {A : AF} (R__ : LI A) : AL A := R__.2.1
theorem LI.wt {A : AF} (R__ : LI A) : ∀ r, r ∈ A.ln ↔ r < A.n ∧ (A.Q r 4 = 0 ∨ A.Q r 4 = 1) := R__.2.2.1
theorem LI.q0 {A : AF} (R__ : LI A) : ∀ r, r < A.n → A.Q r 4 = 0 → ∃ j, j < A.W ∧ A.Q r 6 = nI j := R__.2.2.2.1
theorem LI.q1 {A : AF} (R__ : LI A) : ∀ r, r < A.n → A.Q r 4 = 1 → A.Q r 6 = -1 := R__.2.2.2.2
theorem LI.ofs {A : AF} (toAW : AW A) (toAL : AL A) (wt : ∀ r, r ∈ A.ln ↔ r < A.n ∧ (A.Q r 4 = 0 ∨ A.Q r 4 = 1)) (q0 : ∀ r, r < A.n → A.Q r 4 = 0 → ∃ j, j < A.W ∧ A.Q r 6 = nI j) (q1 : ∀ r, r < A.n → A.Q r 4 = 1 → A.Q r 6 = -1) : LI A := ⟨toAW, toAL, wt, q0, q1⟩
theorem LI.w2 {A : AF} (R__ : LI A) : 2 ≤ A.W := R__.toAW.w2
theorem LI.w12 {A : AF} (R__ : LI A) : A.W ≤ 12 := R__.toAW.w12
theorem LI.z1 {A : AF} (R__ : LI A) : 1 ≤ A.Z := R__.toAW.z1
theorem LI.zw {A : AF} (R__ : LI A) : A.Z ≤ A.W := R__.toAW.zw
theorem LI.m12 {A : AF} (R__ : LI A) : A.m ≤ 12 := R__.toAW.m12
theorem LI.n60 {A : AF} (R__ : LI A) : A.n ≤ 60 := R__.toAW.n60
theorem LI.t4 {A : AF} (R__ : LI A) : A.t < 20000 := R__.toAW.t4
theorem LI.se {A : AF} (R__ : LI A) : ∀ i, i < 5 → A.st i < 1000 := R__.toAW.se
theorem LI.sh {A : AF} (R__ : LI A) : ∀ t, t < A.m → A.sh t < 2 ^ A.W := R__.toAW.sh
theorem LI.ten {A : AF} (R__ : LI A) : ∀ r, r < A.n → ∃ t, t < A.m ∧ A.Q r 0 = nI t := R__.toAW.ten
theorem LI.nd {A : AF} (R__ : LI A) : A.ln.Nodup := R__.toAL.nd
theorem LI.me {A : AF} (R__ : LI A) : ∀ r, r ∈ A.ln → r < A.n := R__.toAL.me
theorem lsum_minus {g : Nat → Int32} {l : List Nat} {r : Nat} (h : g r = 0) : lsum g (l.filter (fun x => x != r)) = lsum g l := by
  rw [lsum_filter]
  refine lsum_ext (fun x _ => ?_)
  by_cases e : x = r
  · subst e; rw [h]; split <;> rfl
  · rw [if_pos (bne_iff_ne.mpr e)]
theorem LI.load {A : AF} (h : LI A) {j : Nat} (hj : j < A.W) : lload A (nI j) = rload A j := by
  have := h.w12
  unfold lload rload
  rw [lsum_line (n := A.n) (fun r => if A.Q r 6 = nI j then A.Q r 2 else 0) (p := fun r => A.Q r 4 == 0 || A.Q r 4 == 1) h.nd (fun r => by
    rw [h.wt]; simp)]
  refine sumI_ext (fun r hr => ?_)
  by_cases h0 : A.Q r 4 = 0
  · rw [if_pos (by simp [h0])]
    simp [h0]
  · rw [if_neg (c := A.Q r 4 = 0 ∧ A.Q r 6 = nI j) (fun e => h0 e.1)]
    by_cases h1 : A.Q r 4 = 1
    · rw [if_pos (by simp [h1]), h.q1 r hr h1, if_neg (fun e => m1_ne (by omega) e.symm)]
    · rw [if_neg (by simp [h0, h1])]
theorem filter_ne {l1 l2 : List Nat} {r : Nat} (h : (l1 ++ r :: l2).Nodup) : (l1 ++ r :: l2).filter (fun x => x != r) = l1 ++ l2 := by
  rw [← List.Nodup.erase_eq_filter h]
  have hn : r ∉ l1 := fun hm => (List.nodup_append.mp h).2.2 r hm r List.mem_cons_self rfl
  rw [List.erase_append_right _ hn, List.erase_cons_head]
theorem eraseIdx_mid (l1 l2 : List Nat) (r : Nat) : (l1 ++ r :: l2).eraseIdx l1.length = l1 ++ l2 := by
  rw [List.eraseIdx_append_of_length_le (Nat.le_refl _), Nat.sub_self]
  rfl
theorem getD_mid (l1 l2 : List Nat) (r : Nat) : (l1 ++ r :: l2).getD l1.length 0 = r := by
  rw [List.getD_eq_getElem?_getD, List.getElem?_append_right (Nat.le_refl _), Nat.sub_self]
  rfl
theorem AW.wL {A : AF} (w : AW A) (l : List Nat) : AW (A.wL l) := ⟨w.w2, w.w12, w.z1, w.zw, w.m12, w.n60, w.t4, w.se, w.sh, w.ten⟩
section CLS
variable {F : VV} {A : AF} {fg : Nat → Nat} {ks : KL} {k : Nat}
/-- a request out of the line, and routed -/
theorem co_reroute (R : RelC F A fg ks) (h : LI A) (hk : 20000 ≤ k) {kept rest : List Nat} {r : Nat} (hl : A.ln = kept ++ r :: rest) (hat : ∀ j, j < A.W → A.up j = true → A.Q r 6 ≠ nI j) :
    ∃ F', ((M_X0_leaveLine k F (nI kept.length)).bind fun q => M_X0_route k q (nI r)) = some F' ∧ RelC F' (routeA A r) fg ks := by
  have hi : kept.length < A.ln.length := by rw [hl, List.length_append, List.length_cons]; omega
  obtain ⟨F1, e1, R1⟩ := co_leave (k := k) R h.toAW h.toAL hi
  have hnd : (kept ++ r :: rest).Nodup := hl ▸ h.nd
  have he : A.ln.eraseIdx kept.length = A.ln.filter (fun x => x != r) := by rw [hl, eraseIdx_mid, filter_ne hnd]
  rw [he] at R1
  have hrn : r < A.n := h.me r (by rw [hl]; simp)
  have l1 : AL (A.wL (A.ln.filter (fun x => x != r))) := ⟨nodup_filter h.nd _, fun x hx => h.me x (List.mem_filter.mp hx).1⟩
  obtain ⟨F2, e2, R2⟩ := co_route R1 (h.toAW.wL _) l1 hk (r := r) hrn (fun hm => by
    have := (List.mem_filter.mp hm).2
    simp at this) (fun j hj hu => by
    have e : lload (A.wL (A.ln.filter (fun x => x != r))) (nI j) = lload A (nI j) := lsum_minus (g := fun r => if A.Q r 6 = nI j then A.Q r 2 else 0) (if_neg (hat j hj hu))
    rw [e, h.load hj]
    rfl)
  exact ⟨F2, by rw [e1, Option.bind_some, e2], R2⟩
theorem putR_4 (A : AF) (r : Nat) (b : Option Nat) : putR A r b r 4 = if b = none then 1 else 0 := by
  unfold putR
  rw [setQ_ne (by omega), setQ_self]
theorem putR_6 (A : AF) (r : Nat) (b : Option Nat) : putR A r b r 6 = oI b := by
  unfold putR
  rw [setQ_self]
theorem putR_ne (A : AF) {r r' : Nat} (b : Option Nat) (c : Nat) (h : r' ≠ r) : putR A r b r' c = A.Q r' c := by
  unfold putR
  rw [setQ_ne (fun e => h e.1), setQ_ne (fun e => h e.1), setQ_ne (fun e => h e.1)]
theorem putR_c (A : AF) (r : Nat) (b : Option Nat) (r' : Nat) {c : Nat} (h2 : c ≠ 2) (h4 : c ≠ 4) (h6 : c ≠ 6) : putR A r b r' c = A.Q r' c := by
  unfold putR
  rw [setQ_ne (fun e => h6 e.2), setQ_ne (fun e => h4 e.2), setQ_ne (fun e => h2 e.2)]
/-- the invariant goes on behind a route of one that was in the line -/
theorem LI.routeN (h : LI A) {r : Nat} (hrn : r < A.n) : LI (routeA A r) := by
  refine (LI.ofs (toAW := AW.ofs (w2 := h.w2) (w12 := h.w12) (z1 := h.z1) (zw := h.zw) (m12 := h.m12) (n60 := h.n60) (t4 := h.t4) (se := h.se) (sh := h.sh) (ten := ?_)) (toAL := AL.ofs (nd := ?_) (me := ?_)) (wt := ?_) (q0 := ?_) (q1 := ?_))
  · intro x hx
    obtain ⟨t, h1, h2⟩ := h.ten x hx
    exact ⟨t, h1, by show putR A r _ x 0 = nI t; rw [putR_c A r _ x (by decide) (by decide) (by decide)]; exact h2⟩
  · refine List.nodup_append.mpr ⟨nodup_filter h.nd _, by simp, fun a ha b hb => ?_⟩
    have hb2 : b = r := by simpa using hb
    have ha2 := (List.mem_filter.mp ha).2
    subst hb2
    exact bne_iff_ne.mp ha2
  · intro x hx
    rcases List.mem_append.mp hx with hx | hx
    · exact h.me x (List.mem_filter.mp hx).1
    · have : x = r := by simpa using hx
      subst this; exact hrn
  · intro x
    show x ∈ A.ln.filter (fun x => x != r) ++ [r] ↔ x < A.n ∧ (putR A r (bestA A (tnOf A r)) x 4 = 0 ∨ putR A r (bestA A (tnOf A r)) x 4 = 1)
    by_cases e : x = r
    · subst e
      rw [putR_4]
      constructor
      · intro _
        refine ⟨hrn, ?_⟩
        split
        · exact Or.inr rfl
        · exact Or.inl rfl
      · intro _; simp
    · rw [putR_ne A _ 4 e, ← h.wt x]
      simp [e]
  · intro x hx
    show putR A r _ x 4 = 0 → ∃ j, j < A.W ∧ putR A r _ x 6 = nI j
    by_cases e : x = r
    · subst e
      rw [putR_4, putR_6]
      cases hb : bestA A (tnOf A x) with
      | none => intro h0; exact absurd h0 (by decide)
      | some b => intro _; exact ⟨b, (bestOf_some hb).1, rfl⟩
    · rw [putR_ne A _ 4 e, putR_ne A _ 6 e]; exact h.q0 x hx
  · intro x hx
    show putR A r _ x 4 = 1 → putR A r _ x 6 = -1
    by_cases e : x = r
    · subst e
      rw [putR_4, putR_6]
      cases hb : bestA A (tnOf A x) with
      | none => intro _; rfl
      | some b => intro h0; rw [if_neg (fun e => by cases e)] at h0; exact absurd h0 (by decide)
    · rw [putR_ne A _ 4 e, putR_ne A _ 6 e]; exact h.q1 x hx
theorem LI.route (h : LI A) {r : Nat} (hr : r ∈ A.ln) : LI (routeA A r) := h.routeN (h.me r hr)
end CLS
