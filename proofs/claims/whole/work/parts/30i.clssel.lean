-- ===== loops over the line with leaving =====
def selF (c : AF → Nat → Bool) (f : AF → Nat → AF) : List Nat → AF → AF
  | [], A => A
  | r :: l, A => if c A r then selF c f l (f A r) else selF c f l A
section CLS
variable {F : VV} {A : AF} {fg : Nat → Nat} {ks : KL} {k : Nat}
theorem cls_sel (M : Nat → Int32 → Int32 → VV → Option VV) (c : AF → Nat → Bool) (f : AF → Nat → AF) (ext : Nat → List Nat) (Inv : AF → Prop)
    (hI : ∀ A, Inv A → LI A)
    (hend : ∀ n p S, M (n + 1) p 0 S = some S)
    (hyes : ∀ n F A kept r rest left, Inv A → RelC F A fg ks → A.ln = kept ++ r :: rest → left < 60 → c A r = true → ∃ F', RelC F' (f A r) fg ks ∧ M (n + 1) (nI kept.length) (nI (left + 1)) F = M n (nI kept.length) (nI left) F')
    (hno : ∀ n F A kept r rest left, Inv A → RelC F A fg ks → A.ln = kept ++ r :: rest → left < 60 → c A r = false → M (n + 1) (nI kept.length) (nI (left + 1)) F = M n (nI (kept.length + 1)) (nI left) F)
    (hinv : ∀ A r, Inv A → r ∈ A.ln → c A r = true → Inv (f A r))
    (hln : ∀ A r, (f A r).ln = A.ln.filter (fun x => x != r) ++ ext r) :
    ∀ (rest : List Nat) (A : AF) (F : VV) (kept tail : List Nat) (n : Nat), A.ln = kept ++ (rest ++ tail) → rest.length < n → RelC F A fg ks → Inv A → ∃ F', M n (nI kept.length) (nI rest.length) F = some F' ∧ RelC F' (selF c f rest A) fg ks ∧ Inv (selF c f rest A) := by
  intro rest
  induction rest with
  | nil =>
    intro A F kept tail n hl hn R hv
    obtain ⟨g, rfl⟩ : ∃ g, n = g + 1 := ⟨n - 1, by simp at hn; omega⟩
    exact ⟨F, hend g _ F, R, hv⟩
  | cons r rest ih =>
    intro A F kept tail n hl hn R hv
    have hn : rest.length + 1 < n := by simpa using hn
    obtain ⟨g, rfl⟩ : ∃ g, n = g + 1 := ⟨n - 1, by omega⟩
    have hL := hI A hv
    have hl60 := hL.toAL.len hL.toAW
    have h60 : rest.length < 60 := by rw [hl] at hl60; simp at hl60; omega
    have hl2 : A.ln = kept ++ r :: (rest ++ tail) := hl
    have hmem : r ∈ A.ln := by rw [hl2]; simp
    by_cases hc : c A r = true
    · obtain ⟨F1, R1, e1⟩ := hyes g F A kept r (rest ++ tail) rest.length hv R hl2 h60 hc
      have hnd : (kept ++ r :: (rest ++ tail)).Nodup := hl2 ▸ hL.nd
      have hl3 : (f A r).ln = kept ++ (rest ++ (tail ++ ext r)) := by
        rw [hln, hl2, filter_ne hnd]
        simp only [List.append_assoc]
      obtain ⟨F2, e2, R2, hv2⟩ := ih (f A r) F1 kept (tail ++ ext r) g hl3 (by omega) R1 (hinv A r hv hmem hc)
      refine ⟨F2, ?_, ?_, ?_⟩
      · rw [List.length_cons, e1, e2]
      · rw [selF, if_pos hc]; exact R2
      · rw [selF, if_pos hc]; exact hv2
    · have hc2 : c A r = false := by simpa using hc
      have e1 := hno g F A kept r (rest ++ tail) rest.length hv R hl2 h60 hc2
      have hl3 : A.ln = (kept ++ [r]) ++ (rest ++ tail) := by rw [hl2]; simp
      obtain ⟨F2, e2, R2, hv2⟩ := ih A F (kept ++ [r]) tail g hl3 (by omega) R hv
      refine ⟨F2, ?_, ?_, ?_⟩
      · rw [List.length_cons, e1, ← e2, List.length_append]; rfl
      · rw [selF, if_neg hc]; exact R2
      · rw [selF, if_neg hc]; exact hv2
theorem R_ln_mid (R : RelC F A fg ks) (h : LI A) {kept rest : List Nat} {r : Nat} (hl : A.ln = kept ++ r :: rest) : M_X5_at k 60 (F 5) (nI kept.length) = some (nI r) := by
  have hi : kept.length < A.ln.length := by rw [hl, List.length_append, List.length_cons]; omega
  rw [R.ln h.toAW h.toAL k hi, hl, getD_mid]
theorem mid_mem {kept rest : List Nat} {r : Nat} (hl : A.ln = kept ++ r :: rest) : r ∈ A.ln := by rw [hl]; simp
/-- routes all requests of a worker that is down -/
def routeQ (A : AF) (j : Nat) : AF := selF (fun A r => A.Q r 6 == nI j) routeA A.ln A
theorem co_routeQueue (R : RelC F A fg ks) (h : LI A) (hk : 20000 ≤ k) {j : Nat} (hj : j < A.W) (hd : A.up j = false) : ∃ F', M_X0_routeQueue k F (nI j) = some F' ∧ RelC F' (routeQ A j) fg ks ∧ LI (routeQ A j) := by
  have hl60 := h.toAL.len h.toAW
  have hw := h.w12
  have key := cls_sel (fg := fg) (ks := ks) (fun n p l S => M_X0_routeQueue_7 k n (nI j) p l S) (fun A r => A.Q r 6 == nI j) routeA (fun r => [r]) (fun B => LI B ∧ B.up j = false ∧ B.W = A.W)
    (fun B hB => hB.1)
    (fun n p S => by simp only [M_X0_routeQueue_7]; rw [if_pos (by decide)])
    (fun n F B kept r rest left hB RB hlB hleft hc => by
      have hrn := hB.1.me r (mid_mem hlB)
      have hc : B.Q r 6 = nI j := by simpa using hc
      obtain ⟨F', e, R'⟩ := co_reroute (k := k) RB hB.1 hk hlB (fun i hi hu e => by
        have hwB := hB.2.2
        rw [hc] at e
        have : j = i := (nI_eq (by omega) (by omega)).mp e
        subst this
        rw [hB.2.1] at hu
        cases hu)
      refine ⟨F', R', ?_⟩
      simp only [M_X0_routeQueue_7]
      rw [if_neg (nI_nle (by omega) (by omega)), R_ln_mid RB hB.1 hlB, Option.bind_some, RB.q hB.1.toAW k hrn 6, Option.bind_some, if_pos hc, nI_sub1, ← Option.bind_assoc, e, Option.bind_some])
    (fun n F B kept r rest left hB RB hlB hleft hc => by
      have hrn := hB.1.me r (mid_mem hlB)
      have hc : ¬ B.Q r 6 = nI j := by simpa using hc
      simp only [M_X0_routeQueue_7]
      rw [if_neg (nI_nle (by omega) (by omega)), R_ln_mid RB hB.1 hlB, Option.bind_some, RB.q hB.1.toAW k hrn 6, Option.bind_some, if_neg hc, nI_sub1, nI_1])
    (fun B r hB hr _ => ⟨hB.1.route hr, hB.2.1, hB.2.2⟩)
    (fun B r => rfl)
  obtain ⟨F', e, R', h'⟩ := key A.ln A F [] [] k (by simp) (by omega) R ⟨h, hd, rfl⟩
  refine ⟨F', ?_, R', h'.1⟩
  simp only [M_X0_routeQueue, M_X0_routeQueue_0, lt_eq]
  rw [R.s6]
  exact e
def routeP (A : AF) : AF := selF (fun A r => A.Q r 4 == 1 && !cut A (tnOf A r)) routeA A.ln A
theorem co_routeParked (R : RelC F A fg ks) (h : LI A) (hk : 20000 ≤ k) : ∃ F', M_X0_routeParked k F = some F' ∧ RelC F' (routeP A) fg ks ∧ LI (routeP A) := by
  have hl60 := h.toAL.len h.toAW
  have key := cls_sel (fg := fg) (ks := ks) (fun n p l S => M_X0_routeParked_7 k n p l S) (fun A r => A.Q r 4 == 1 && !cut A (tnOf A r)) routeA (fun r => [r]) LI
    (fun B hB => hB)
    (fun n p S => by simp only [M_X0_routeParked_7]; rw [if_pos (by decide)])
    (fun n F B kept r rest left hB RB hlB hleft hc => by
      have hrn := hB.me r (mid_mem hlB)
      have hw := hB.w12
      rw [Bool.and_eq_true, beq_iff_eq, Bool.not_eq_true'] at hc
      obtain ⟨htn, hq0⟩ := hB.toAW.tn hrn
      obtain ⟨F', e, R'⟩ := co_reroute (k := k) RB hB hk hlB (fun i hi hu e => by
        rw [hB.q1 r hrn hc.1] at e
        exact m1_ne (by omega) e.symm)
      refine ⟨F', R', ?_⟩
      simp only [M_X0_routeParked_7]
      rw [if_neg (nI_nle (by omega) (by omega)), R_ln_mid RB hB hlB, Option.bind_some, RB.q hB.toAW k hrn 4, Option.bind_some, if_pos hc.1, RB.q hB.toAW k hrn 0, Option.bind_some, hq0, RB.cut hB.toAW k htn, Option.bind_some, hc.2, if_pos (by rfl), nI_sub1, ← Option.bind_assoc, e, Option.bind_some])
    (fun n F B kept r rest left hB RB hlB hleft hc => by
      have hrn := hB.me r (mid_mem hlB)
      obtain ⟨htn, hq0⟩ := hB.toAW.tn hrn
      simp only [M_X0_routeParked_7]
      rw [if_neg (nI_nle (by omega) (by omega)), R_ln_mid RB hB hlB, Option.bind_some, RB.q hB.toAW k hrn 4, Option.bind_some]
      by_cases h4 : B.Q r 4 = 1
      · have hcut : cut B (tnOf B r) = true := by simpa [h4] using hc
        rw [if_pos h4, RB.q hB.toAW k hrn 0, Option.bind_some, hq0, RB.cut hB.toAW k htn, Option.bind_some, hcut, if_neg (by decide), nI_sub1, nI_1]
      · rw [if_neg h4, nI_sub1, nI_1])
    (fun B r hB hr _ => hB.route hr)
    (fun B r => rfl)
  obtain ⟨F', e, R', h'⟩ := key A.ln A F [] [] k (by simp) (by omega) R h
  refine ⟨F', ?_, R', h'⟩
  simp only [M_X0_routeParked, M_X0_routeParked_0, lt_eq]
  rw [R.s6]
  exact e
/-- a waiting request comes to its end -/
def endL (A : AF) (r : Nat) (s : Int32) : AF := (endA A r s).wL (A.ln.filter (fun x => x != r))
theorem endA_4 (A : AF) (r : Nat) (s : Int32) : (endA A r s).Q r 4 = s := by
  show setQ (setQ (setQ A.Q r 4 s) r 6 (-1)) r 7 (nI A.t) r 4 = s
  rw [setQ_ne (by omega), setQ_ne (by omega), setQ_self]
theorem endA_ne (A : AF) {r r' : Nat} (s : Int32) (c : Nat) (h : r' ≠ r) : (endA A r s).Q r' c = A.Q r' c := by
  show setQ (setQ (setQ A.Q r 4 s) r 6 (-1)) r 7 (nI A.t) r' c = A.Q r' c
  rw [setQ_ne (fun e => h e.1), setQ_ne (fun e => h e.1), setQ_ne (fun e => h e.1)]
theorem endA_c (A : AF) (r : Nat) (s : Int32) (r' : Nat) {c : Nat} (h4 : c ≠ 4) (h6 : c ≠ 6) (h7 : c ≠ 7) : (endA A r s).Q r' c = A.Q r' c := by
  show setQ (setQ (setQ A.Q r 4 s) r 6 (-1)) r 7 (nI A.t) r' c = A.Q r' c
  rw [setQ_ne (fun e => h7 e.2), setQ_ne (fun e => h6 e.2), setQ_ne (fun e => h4 e.2)]
theorem LI.endN (h : LI A) {r : Nat} (hrn : r < A.n) {s : Int32} (hs : s ≠ 0 ∧ s ≠ 1) : LI (endL A r s) := by
  refine (LI.ofs (toAW := AW.ofs (w2 := h.w2) (w12 := h.w12) (z1 := h.z1) (zw := h.zw) (m12 := h.m12) (n60 := h.n60) (t4 := h.t4) (se := h.se) (sh := h.sh) (ten := ?_)) (toAL := AL.ofs (nd := nodup_filter h.nd _) (me := fun x hx => h.me x (List.mem_filter.mp hx).1)) (wt := ?_) (q0 := ?_) (q1 := ?_))
  · intro x hx
    obtain ⟨t, h1, h2⟩ := h.ten x hx
    exact ⟨t, h1, by show (endA A r s).Q x 0 = nI t; rw [endA_c A r s x (by decide) (by decide) (by decide)]; exact h2⟩
  · intro x
    show x ∈ A.ln.filter (fun x => x != r) ↔ x < A.n ∧ ((endA A r s).Q x 4 = 0 ∨ (endA A r s).Q x 4 = 1)
    by_cases e : x = r
    · subst e
      rw [endA_4]
      simp [hs.1, hs.2]
    · rw [endA_ne A s 4 e, ← h.wt x]
      simp [e]
  · intro x hx
    show (endA A r s).Q x 4 = 0 → ∃ j, j < A.W ∧ (endA A r s).Q x 6 = nI j
    by_cases e : x = r
    · subst e; rw [endA_4]; intro h0; exact absurd h0 hs.1
    · rw [endA_ne A s 4 e, endA_ne A s 6 e]; exact h.q0 x hx
  · intro x hx
    show (endA A r s).Q x 4 = 1 → (endA A r s).Q x 6 = -1
    by_cases e : x = r
    · subst e; rw [endA_4]; intro h0; exact absurd h0 hs.2
    · rw [endA_ne A s 4 e, endA_ne A s 6 e]; exact h.q1 x hx
theorem LI.endL (h : LI A) {r : Nat} (hr : r ∈ A.ln) {s : Int32} (hs : s ≠ 0 ∧ s ≠ 1) : LI (endL A r s) := h.endN (h.me r hr) hs
theorem co_leaveEnd (R : RelC F A fg ks) (h : LI A) {kept rest : List Nat} {r : Nat} (hl : A.ln = kept ++ r :: rest) (s : Int32) :
    ∃ F', ((M_X0_leaveLine k F (nI kept.length)).bind fun q => M_X0_end k q (nI r) s) = some F' ∧ RelC F' (endL A r s) fg ks := by
  have hi : kept.length < A.ln.length := by rw [hl, List.length_append, List.length_cons]; omega
  obtain ⟨F1, e1, R1⟩ := co_leave (k := k) R h.toAW h.toAL hi
  have hnd : (kept ++ r :: rest).Nodup := hl ▸ h.nd
  have he : A.ln.eraseIdx kept.length = A.ln.filter (fun x => x != r) := by rw [hl, eraseIdx_mid, filter_ne hnd]
  rw [he] at R1
  obtain ⟨F2, e2, R2⟩ := co_end (k := k) R1 (h.toAW.wL _) (r := r) (h.me r (mid_mem hl)) s
  exact ⟨F2, by rw [e1, Option.bind_some, e2], R2⟩
def refuseA (A : AF) (t : Nat) : AF := selF (fun A r => A.Q r 0 == nI t) (fun A r => endL A r 4) A.ln A
theorem co_refuseAll (R : RelC F A fg ks) (h : LI A) (hk : 20000 ≤ k) (t : Nat) : ∃ F', M_X0_refuseAll k F (nI t) = some F' ∧ RelC F' (refuseA A t) fg ks ∧ LI (refuseA A t) := by
  have hl60 := h.toAL.len h.toAW
  have key := cls_sel (fg := fg) (ks := ks) (fun n p l S => M_X0_refuseAll_7 k n (nI t) p l S) (fun A r => A.Q r 0 == nI t) (fun A r => endL A r 4) (fun r => []) LI
    (fun B hB => hB)
    (fun n p S => by simp only [M_X0_refuseAll_7]; rw [if_pos (by decide)])
    (fun n F B kept r rest left hB RB hlB hleft hc => by
      have hrn := hB.me r (mid_mem hlB)
      have hc : B.Q r 0 = nI t := by simpa using hc
      obtain ⟨F', e, R'⟩ := co_leaveEnd (k := k) RB hB hlB 4
      refine ⟨F', R', ?_⟩
      simp only [M_X0_refuseAll_7]
      rw [if_neg (nI_nle (by omega) (by omega)), R_ln_mid RB hB hlB, Option.bind_some, RB.q hB.toAW k hrn 0, Option.bind_some, if_pos hc, nI_sub1, ← Option.bind_assoc, e, Option.bind_some])
    (fun n F B kept r rest left hB RB hlB hleft hc => by
      have hrn := hB.me r (mid_mem hlB)
      have hc : ¬ B.Q r 0 = nI t := by simpa using hc
      simp only [M_X0_refuseAll_7]
      rw [if_neg (nI_nle (by omega) (by omega)), R_ln_mid RB hB hlB, Option.bind_some, RB.q hB.toAW k hrn 0, Option.bind_some, if_neg hc, nI_sub1, nI_1])
    (fun B r hB hr _ => hB.endL hr (by decide))
    (fun B r => by rw [List.append_nil]; rfl)
  obtain ⟨F', e, R', h'⟩ := key A.ln A F [] [] k (by simp) (by omega) R h
  refine ⟨F', ?_, R', h'⟩
  simp only [M_X0_refuseAll, M_X0_refuseAll_0, lt_eq]
  rw [R.s6]
  exact e
end CLS
