-- ===== clearing up behind the kills =====
theorem selF_inv (c : AF → Nat → Bool) (f : AF → Nat → AF) (ext : Nat → List Nat) (Inv : AF → Prop) (hnd : ∀ A, Inv A → A.ln.Nodup)
    (hinv : ∀ A r, Inv A → r ∈ A.ln → c A r = true → Inv (f A r)) (hln : ∀ A r, (f A r).ln = A.ln.filter (fun x => x != r) ++ ext r) :
    ∀ (rest : List Nat) (A : AF) (kept tail : List Nat), A.ln = kept ++ (rest ++ tail) → Inv A → Inv (selF c f rest A) := by
  intro rest
  induction rest with
  | nil => intro A kept tail hl hv; exact hv
  | cons r rest ih =>
    intro A kept tail hl hv
    have hl2 : A.ln = kept ++ r :: (rest ++ tail) := hl
    have hmem : r ∈ A.ln := by rw [hl2]; simp
    by_cases hc : c A r = true
    · have hnd2 : (kept ++ r :: (rest ++ tail)).Nodup := hl2 ▸ hnd A hv
      have hl3 : (f A r).ln = kept ++ (rest ++ (tail ++ ext r)) := by
        rw [hln, hl2, filter_ne hnd2]
        simp only [List.append_assoc]
      rw [selF, if_pos hc]
      exact ih (f A r) kept (tail ++ ext r) hl3 (hinv A r hv hmem hc)
    · have hl3 : A.ln = (kept ++ [r]) ++ (rest ++ tail) := by rw [hl2]; simp
      rw [selF, if_neg hc]
      exact ih A (kept ++ [r]) tail hl3 hv
/-- what stays in a fleet while requests are routed -/
def Same (A B : AF) : Prop := (B.W = A.W) ∧ (B.Z = A.Z) ∧ (B.m = A.m) ∧ (B.n = A.n) ∧ (B.t = A.t) ∧ (B.up = A.up) ∧ (B.again = A.again) ∧ (B.st = A.st) ∧ (B.sh = A.sh) ∧ (B.qe = A.qe)
theorem Same.W {A B : AF} (R__ : Same A B) : B.W = A.W := R__.1
theorem Same.Z {A B : AF} (R__ : Same A B) : B.Z = A.Z := R__.2.1
theorem Same.m {A B : AF} (R__ : Same A B) : B.m = A.m := R__.2.2.1
theorem Same.n {A B : AF} (R__ : Same A B) : B.n = A.n := R__.2.2.2.1
theorem Same.t {A B : AF} (R__ : Same A B) : B.t = A.t := R__.2.2.2.2.1
theorem Same.up {A B : AF} (R__ : Same A B) : B.up = A.up := R__.2.2.2.2.2.1
theorem Same.again {A B : AF} (R__ : Same A B) : B.again = A.again := R__.2.2.2.2.2.2.1
theorem Same.st {A B : AF} (R__ : Same A B) : B.st = A.st := R__.2.2.2.2.2.2.2.1
theorem Same.sh {A B : AF} (R__ : Same A B) : B.sh = A.sh := R__.2.2.2.2.2.2.2.2.1
theorem Same.qe {A B : AF} (R__ : Same A B) : B.qe = A.qe := R__.2.2.2.2.2.2.2.2.2
theorem Same.ofs {A B : AF} (W : B.W = A.W) (Z : B.Z = A.Z) (m : B.m = A.m) (n : B.n = A.n) (t : B.t = A.t) (up : B.up = A.up) (again : B.again = A.again) (st : B.st = A.st) (sh : B.sh = A.sh) (qe : B.qe = A.qe) : Same A B := ⟨W, Z, m, n, t, up, again, st, sh, qe⟩
theorem Same.refl (A : AF) : Same A A := ⟨rfl, rfl, rfl, rfl, rfl, rfl, rfl, rfl, rfl, rfl⟩
theorem Same.trans {A B C : AF} (h : Same A B) (g : Same B C) : Same A C := ⟨g.W.trans h.W, g.Z.trans h.Z, g.m.trans h.m, g.n.trans h.n, g.t.trans h.t, g.up.trans h.up, g.again.trans h.again, g.st.trans h.st, g.sh.trans h.sh, g.qe.trans h.qe⟩
theorem Same.route (A : AF) (r : Nat) : Same A (routeA A r) := ⟨rfl, rfl, rfl, rfl, rfl, rfl, rfl, rfl, rfl, rfl⟩
theorem Same.endL (A : AF) (r : Nat) (s : Int32) : Same A (endL A r s) := ⟨rfl, rfl, rfl, rfl, rfl, rfl, rfl, rfl, rfl, rfl⟩
theorem routeQ_inv {A : AF} (h : LI A) (j : Nat) (Inv : AF → Prop) (h0 : Inv A) (hs : ∀ B r, LI B → Same A B → r ∈ B.ln → B.Q r 6 = nI j → Inv B → Inv (routeA B r)) : LI (routeQ A j) ∧ Same A (routeQ A j) ∧ Inv (routeQ A j) :=
  selF_inv (fun A r => A.Q r 6 == nI j) routeA (fun r => [r]) (fun B => LI B ∧ Same A B ∧ Inv B) (fun B hB => hB.1.nd)
    (fun B r hB hr hc => ⟨hB.1.route hr, hB.2.1.trans (Same.route B r), hs B r hB.1 hB.2.1 hr (beq_iff_eq.mp hc) hB.2.2⟩) (fun B r => rfl) A.ln A [] [] (by simp) ⟨h, Same.refl A, h0⟩
theorem routeP_inv {A : AF} (h : LI A) (Inv : AF → Prop) (h0 : Inv A) (hs : ∀ B r, LI B → Same A B → r ∈ B.ln → Inv B → Inv (routeA B r)) : LI (routeP A) ∧ Same A (routeP A) ∧ Inv (routeP A) :=
  selF_inv (fun A r => A.Q r 4 == 1 && !cut A (tnOf A r)) routeA (fun r => [r]) (fun B => LI B ∧ Same A B ∧ Inv B) (fun B hB => hB.1.nd)
    (fun B r hB hr hc => ⟨hB.1.route hr, hB.2.1.trans (Same.route B r), hs B r hB.1 hB.2.1 hr hB.2.2⟩) (fun B r => rfl) A.ln A [] [] (by simp) ⟨h, Same.refl A, h0⟩
theorem refuse_inv {A : AF} (h : LI A) (t : Nat) (Inv : AF → Prop) (h0 : Inv A) (hs : ∀ B r, LI B → Same A B → r ∈ B.ln → Inv B → Inv (endL B r 4)) : LI (refuseA A t) ∧ Same A (refuseA A t) ∧ Inv (refuseA A t) :=
  selF_inv (fun A r => A.Q r 0 == nI t) (fun A r => endL A r 4) (fun r => []) (fun B => LI B ∧ Same A B ∧ Inv B) (fun B hB => hB.1.nd)
    (fun B r hB hr hc => ⟨hB.1.endL hr (by decide), hB.2.1.trans (Same.endL B r 4), hs B r hB.1 hB.2.1 hr hB.2.2⟩) (fun B r => by rw [List.append_nil]; rfl) A.ln A [] [] (by simp) ⟨h, Same.refl A, h0⟩
theorem find_one {p : Nat → Bool} {l : List Nat} {r : Nat} (h : p r = false) : (l ++ [r]).find? p = l.find? p := by
  rw [List.find?_append, List.find?_cons, h]
  simp
/-- who is first with a worker stays so while others are routed -/
theorem find_route {A : AF} (w : AW A) {r j : Nat} (hj : j < A.W) (hd : A.up j = false) (h6 : A.Q r 6 ≠ nI j) : (routeA A r).ln.find? (fun x => (routeA A r).Q x 6 == nI j) = A.ln.find? (fun x => A.Q x 6 == nI j) := by
  show (A.ln.filter (fun x => x != r) ++ [r]).find? _ = _
  rw [find_one (by exact beq_false_of_ne (routeA_not A w hj hd))]
  rw [find_ext (q := fun x => A.Q x 6 == nI j) (fun x hx => by
    have := (List.mem_filter.mp hx).2
    rw [routeA_ne A 6 (bne_iff_ne.mp this)])]
  exact find_filter (fun x _ hq => by
    have : x = r := by simpa using hq
    rw [this]; exact beq_false_of_ne h6)
theorem find_endL {A : AF} {r j : Nat} {s : Int32} (hj : j < 2 ^ 31) (h6 : A.Q r 6 ≠ nI j) : (endL A r s).ln.find? (fun x => (endL A r s).Q x 6 == nI j) = A.ln.find? (fun x => A.Q x 6 == nI j) := by
  show (A.ln.filter (fun x => x != r)).find? _ = _
  rw [find_ext (q := fun x => A.Q x 6 == nI j) (fun x hx => by
    have := (List.mem_filter.mp hx).2
    rw [show (endL A r s).Q x 6 = A.Q x 6 from endA_ne A s 6 (bne_iff_ne.mp this)])]
  exact find_filter (fun x _ hq => by
    have : x = r := by simpa using hq
    rw [this]; exact beq_false_of_ne h6)
def att (A : AF) (r : Nat) : AF := A.wQ (setQ A.Q r 5 (A.Q r 5 + 1))
def retry (A : AF) (r : Nat) : AF := if (att A r).Q r 5 ≤ nI (A.st 1) then routeA (att A r) r else endL (att A r) r 3
def clr (A : AF) (r j : Nat) : AF := routeQ (retry A r) j
def clearF (K : Nat → Option Nat) (A : AF) : Nat → AF
  | 0 => A
  | i + 1 => match K i with
    | none => clearF K A i
    | some r => clr (clearF K A i) r i
theorem att_q (A : AF) (r x : Nat) {c : Nat} (h : c ≠ 5) : (att A r).Q x c = A.Q x c := setQ_ne (fun e => h e.2)
theorem att_4 (A : AF) (r x : Nat) : (att A r).Q x 4 = A.Q x 4 := att_q A r x (by decide)
theorem att_6 (A : AF) (r x : Nat) : (att A r).Q x 6 = A.Q x 6 := att_q A r x (by decide)
theorem retry_un (A : AF) (r : Nat) : retry A r = if (att A r).Q r 5 ≤ nI (A.st 1) then routeA (att A r) r else endL (att A r) r 3 := rfl
theorem LI.att {A : AF} (h : LI A) (r : Nat) : LI (att A r) := by
  have e4 := att_4 A r
  have e6 := att_6 A r
  exact (LI.ofs (toAW := h.toAW.sq) (toAL := ⟨h.nd, h.me⟩) (wt := fun x => by rw [e4]; exact h.wt x) (q0 := fun x hx => by rw [e4, e6]; exact h.q0 x hx) (q1 := fun x hx => by rw [e4, e6]; exact h.q1 x hx))
theorem Same.att (A : AF) (r : Nat) : Same A (att A r) := ⟨rfl, rfl, rfl, rfl, rfl, rfl, rfl, rfl, rfl, rfl⟩
theorem retry_inv {A : AF} (h : LI A) {r : Nat} (hr : r ∈ A.ln) : LI (retry A r) ∧ Same A (retry A r) := by
  unfold retry
  split
  · exact ⟨(h.att r).route hr, (Same.att A r).trans (Same.route _ r)⟩
  · exact ⟨(h.att r).endL hr (by decide), (Same.att A r).trans (Same.endL _ r 3)⟩
theorem find_retry {A : AF} (w : AW A) {r j : Nat} (hj : j < A.W) (hd : A.up j = false) (h6 : A.Q r 6 ≠ nI j) : (retry A r).ln.find? (fun x => (retry A r).Q x 6 == nI j) = A.ln.find? (fun x => A.Q x 6 == nI j) := by
  have hW := w.w12
  have e : (att A r).ln.find? (fun x => (att A r).Q x 6 == nI j) = A.ln.find? (fun x => A.Q x 6 == nI j) := find_ext (fun x _ => by rw [att_q A r x (by decide)])
  have h6' : (att A r).Q r 6 ≠ nI j := by rw [att_q A r r (by decide)]; exact h6
  unfold retry
  split
  · rw [find_route (A := att A r) w.sq hj hd h6', e]
  · rw [find_endL (by omega) h6', e]
/-- at a worker's turn: those to come still have their killers in front -/
def CInv (K : Nat → Option Nat) (A : AF) (i : Nat) : Prop := (LI (clearF K A i)) ∧ (Same A (clearF K A i)) ∧ (∀ j r, i ≤ j → j < A.W → K j = some r → A.up j = false ∧ (clearF K A i).ln.find? (fun x => (clearF K A i).Q x 6 == nI j) = some r)
theorem CInv.li {K : Nat → Option Nat} {A : AF} {i : Nat} (R__ : CInv K A i) : LI (clearF K A i) := R__.1
theorem CInv.sm {K : Nat → Option Nat} {A : AF} {i : Nat} (R__ : CInv K A i) : Same A (clearF K A i) := R__.2.1
theorem CInv.fr {K : Nat → Option Nat} {A : AF} {i : Nat} (R__ : CInv K A i) : ∀ j r, i ≤ j → j < A.W → K j = some r → A.up j = false ∧ (clearF K A i).ln.find? (fun x => (clearF K A i).Q x 6 == nI j) = some r := R__.2.2
theorem CInv.ofs {K : Nat → Option Nat} {A : AF} {i : Nat} (li : LI (clearF K A i)) (sm : Same A (clearF K A i)) (fr : ∀ j r, i ≤ j → j < A.W → K j = some r → A.up j = false ∧ (clearF K A i).ln.find? (fun x => (clearF K A i).Q x 6 == nI j) = some r) : CInv K A i := ⟨li, sm, fr⟩
theorem clear_inv {K : Nat → Option Nat} {A : AF} (h : LI A) (hK : ∀ j r, j < A.W → K j = some r → A.up j = false ∧ A.ln.find? (fun x => A.Q x 6 == nI j) = some r) : ∀ i, i ≤ A.W → CInv K A i
  | 0, _ => ⟨h, Same.refl A, fun j r _ hj hk => hK j r hj hk⟩
  | i + 1, hi => by
    have hW := h.w12
    have I := clear_inv h hK i (by omega)
    have e : clearF K A (i + 1) = match K i with | none => clearF K A i | some r => clr (clearF K A i) r i := rfl
    cases hk : K i with
    | none =>
      rw [hk] at e
      have e : clearF K A (i + 1) = clearF K A i := e
      exact ⟨by rw [e]; exact I.li, by rw [e]; exact I.sm, fun j r h1 h2 h3 => by rw [e]; exact I.fr j r (by omega) h2 h3⟩
    | some r =>
      rw [hk] at e
      have e : clearF K A (i + 1) = clr (clearF K A i) r i := e
      obtain ⟨hd, hf⟩ := I.fr i r (Nat.le_refl _) (by omega) hk
      have hm := List.mem_of_find?_eq_some hf
      have h6 : (clearF K A i).Q r 6 = nI i := by simpa using List.find?_some hf
      obtain ⟨L1, M1⟩ := retry_inv I.li hm
      have M2 := I.sm.trans M1
      have key := routeQ_inv L1 i (fun B => ∀ j r', i + 1 ≤ j → j < A.W → K j = some r' → B.ln.find? (fun x => B.Q x 6 == nI j) = some r')
        (fun j r' h1 h2 h3 => by
          obtain ⟨g1, g2⟩ := I.fr j r' (by omega) h2 h3
          rw [find_retry I.li.toAW (by rw [I.sm.W]; exact h2) (by rw [I.sm.up]; exact g1) (by
            rw [h6]
            intro e
            have := (nI_eq (by omega) (by omega)).mp e
            omega)]
          exact g2)
        (fun B x LB MB hx hx6 hB j r' h1 h2 h3 => by
          have MB2 := M2.trans MB
          rw [find_route LB.toAW (by rw [MB2.W]; exact h2) (by rw [MB2.up]; exact (I.fr j r' (by omega) h2 h3).1) (by
            rw [hx6]
            intro e
            have := (nI_eq (by omega) (by omega)).mp e
            omega)]
          exact hB j r' h1 h2 h3)
      have e3 : clr (clearF K A i) r i = routeQ (retry (clearF K A i) r) i := rfl
      rw [e3] at e
      exact ⟨by rw [e]; exact key.1, by rw [e]; exact M2.trans key.2.1, fun j r' h1 h2 h3 => ⟨(I.fr j r' (by omega) h2 h3).1, by rw [e]; exact key.2.2 j r' h1 h2 h3⟩⟩
