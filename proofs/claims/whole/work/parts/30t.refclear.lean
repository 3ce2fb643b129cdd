-- ===== the reference clears up =====
/-- what routes and ends leave of the requests -/
def Fix (A B : AF) : Prop := ∀ x c, c = 0 ∨ c = 1 ∨ c = 3 → B.Q x c = A.Q x c
theorem Fix.refl (A : AF) : Fix A A := fun _ _ _ => rfl
theorem Fix.trans {A B C : AF} (h : Fix A B) (g : Fix B C) : Fix A C := fun x c hc => (g x c hc).trans (h x c hc)
theorem Fix.route (A : AF) (r : Nat) : Fix A (routeA A r) := fun x c hc => putR_c A r _ x (by omega) (by omega) (by omega)
theorem Fix.endL (A : AF) (r : Nat) (s : Int32) : Fix A (endL A r s) := fun x c hc => endA_c A r s x (by omega) (by omega) (by omega)
theorem Fix.att (A : AF) (r : Nat) : Fix A (att A r) := fun x c hc => att_q A r x (by omega)
theorem Fix.retry (A : AF) (r : Nat) : Fix A (retry A r) := by
  rw [retry_un]
  split
  · exact (Fix.att A r).trans (Fix.route _ r)
  · exact (Fix.att A r).trans (Fix.endL _ r 3)
theorem Fix.routeQ {A : AF} (h : LI A) (j : Nat) : Fix A (routeQ A j) := (routeQ_inv h j (fun B => Fix A B) (Fix.refl A) (fun B r _ _ _ _ hB => hB.trans (Fix.route B r))).2.2
theorem clear_fix {K : Nat → Option Nat} {A : AF} (h : LI A) (hK : ∀ j r, j < A.W → K j = some r → A.up j = false ∧ A.ln.find? (fun x => A.Q x 6 == nI j) = some r) : ∀ i, i ≤ A.W → Fix A (clearF K A i)
  | 0, _ => Fix.refl A
  | i + 1, hi => by
    have ih := clear_fix h hK i (by omega)
    have I := clear_inv h hK i (by omega)
    have e : clearF K A (i + 1) = match K i with | none => clearF K A i | some r => clr (clearF K A i) r i := rfl
    cases hk : K i with
    | none => rw [hk] at e; rw [e]; exact ih
    | some r =>
      rw [hk] at e
      have e : clearF K A (i + 1) = routeQ (retry (clearF K A i) r) i := e
      have hm := List.mem_of_find?_eq_some (I.fr i r (Nat.le_refl _) (by omega) hk).2
      rw [e]
      exact (ih.trans (Fix.retry _ r)).trans (Fix.routeQ (retry_inv I.li hm).1 i)
/-- the kills in the order of the workers -/
def killsK (K : Nat → Option Nat) (A : AF) : Nat → KL
  | 0 => []
  | i + 1 => match K i with
    | none => killsK K A i
    | some r => killsK K A i ++ [(A.t, tnOf A r, i)]
theorem killsK_len (K : Nat → Option Nat) (A : AF) : ∀ i, (killsK K A i).length ≤ i
  | 0 => Nat.le_refl _
  | i + 1 => by
    have ih := killsK_len K A i
    unfold killsK
    cases K i with
    | none => exact Nat.le_succ_of_le ih
    | some r =>
      show (killsK K A i ++ [(A.t, tnOf A r, i)]).length ≤ i + 1
      rw [List.length_append]
      simp
      omega
section REF
variable {S : VV} {g : Nat} {A : AF} {mk : Nat → Nat} {ks : KL} {tk : Nat} {tkt : Nat → Nat} {k : Nat}
theorem ro_noteKill (R : RelM S g A mk ks tk tkt) (w : AW A) (hl : ks.length < 360) (t j : Nat) : ∃ S', M_X10_noteKill k S (nI t) (nI j) = some S' ∧ RelM S' g A mk (ks ++ [(A.t, t, j)]) tk tkt ∧ ∀ i, i ≠ g → S' i = S i := by
  have hW := w.w12
  have hm := w.m12
  have hn := w.n60
  refine ⟨va_up S g (upd (upd (upd (upd (S g) (612 + 3 * ks.length + 0) (nI A.t)) (612 + 3 * ks.length + 1) (nI t)) (612 + 3 * ks.length + 2) (nI j)) 11 (nI (ks.length + 1))), ?_, ?_, fun i hi => vaN _ _ hi⟩
  · have h11 : S g (Int32.toNatClampNeg 11) = nI ks.length := R.s11
    have h4 : S g (Int32.toNatClampNeg 4) = nI A.t := R.s4
    have ev : (612 : Int32) + 3 * nI ks.length = nI (612 + 3 * ks.length) := by
      rw [show (612 : Int32) = nI 612 from rfl, show (3 : Int32) = nI 3 from rfl, nI_mul, nI_add]
    have e0 : nI (612 + 3 * ks.length) + (0 : Int32) = nI (612 + 3 * ks.length + 0) := by rw [show (0 : Int32) = nI 0 from rfl, nI_add]
    have e1 : nI (612 + 3 * ks.length) + (1 : Int32) = nI (612 + 3 * ks.length + 1) := nI_1 _
    have e2 : nI (612 + 3 * ks.length) + (2 : Int32) = nI (612 + 3 * ks.length + 2) := by rw [show (2 : Int32) = nI 2 from rfl, nI_add]
    simp only [M_X10_noteKill, M_X10_noteKill_0]
    rw [gG R.gs, ifin (i := 11) (x := 11) rfl (by decide), h11, lt_eq, ev, gG R.gs, gG R.gs, ifin (i := 4) (x := 4) rfl (by decide), e0, ifin rfl (by omega), nI_clamp (by omega), h4, lt_eq]
    rw [gG (R.gs.up _), e1, ifin rfl (by omega), nI_clamp (by omega), lt_eq, vaS, va_up_up]
    rw [gG (R.gs.up _), e2, ifin rfl (by omega), nI_clamp (by omega), lt_eq, vaS, va_up_up]
    rw [gG (R.gs.up _), ifin (i := 11) (x := 11) rfl (by decide), ifin (i := 11) (x := 11) rfl (by decide), lt_eq, vaS, va_up_up]
    have e11 : Int32.toNatClampNeg 11 = 11 := by decide
    rw [e11, upd_ne _ _ (by omega), upd_ne _ _ (by omega), upd_ne _ _ (by omega), R.s11, nI_1]
  · have ne : ∀ i, i ≠ 11 → i ≠ 612 + 3 * ks.length + 0 → i ≠ 612 + 3 * ks.length + 1 → i ≠ 612 + 3 * ks.length + 2 → va_up S g (upd (upd (upd (upd (S g) (612 + 3 * ks.length + 0) (nI A.t)) (612 + 3 * ks.length + 1) (nI t)) (612 + 3 * ks.length + 2) (nI j)) 11 (nI (ks.length + 1))) g i = S g i := fun i h1 h2 h3 h4 => by rw [vaS, upd_ne _ _ h1, upd_ne _ _ h4, upd_ne _ _ h3, upd_ne _ _ h2]
    exact (RelM.ofs
      (gs := R.gs.up _)
      (s0 := (ne 0 (by omega) (by omega) (by omega) (by omega)).trans R.s0)
      (s1 := (ne 1 (by omega) (by omega) (by omega) (by omega)).trans R.s1)
      (s2 := (ne 2 (by omega) (by omega) (by omega) (by omega)).trans R.s2)
      (s3 := (ne 3 (by omega) (by omega) (by omega) (by omega)).trans R.s3)
      (s4 := (ne 4 (by omega) (by omega) (by omega) (by omega)).trans R.s4)
      (se := fun i hi => (ne (5 + i) (by omega) (by omega) (by omega) (by omega)).trans (R.se i hi))
      (s10 := (ne 10 (by omega) (by omega) (by omega) (by omega)).trans R.s10)
      (s11 := by rw [vaS, upd_self, List.length_append]; rfl)
      (wo := fun i hi => ⟨(ne _ (by omega) (by omega) (by omega) (by omega)).trans (R.wo i hi).1, (ne _ (by omega) (by omega) (by omega) (by omega)).trans (R.wo i hi).2⟩)
      (te := fun t ht => ⟨(ne _ (by omega) (by omega) (by omega) (by omega)).trans (R.te t ht).1, (ne _ (by omega) (by omega) (by omega) (by omega)).trans (R.te t ht).2.1, (ne _ (by omega) (by omega) (by omega) (by omega)).trans (R.te t ht).2.2⟩)
      (rq := fun r' c' hr' hc' => (ne _ (by omega) (by omega) (by omega) (by omega)).trans (R.rq r' c' hr' hc'))
      (ti := fun r' hr' => (ne _ (by omega) (by omega) (by omega) (by omega)).trans (R.ti r' hr'))
      (ki := fun i hi => by
        have hi2 : i < ks.length + 1 := by simpa using hi
        by_cases h : i < ks.length
        · rw [List.getElem_append_left h]
          exact ⟨(ne _ (by omega) (by omega) (by omega) (by omega)).trans (R.ki i h).1, (ne _ (by omega) (by omega) (by omega) (by omega)).trans (R.ki i h).2.1, (ne _ (by omega) (by omega) (by omega) (by omega)).trans (R.ki i h).2.2⟩
        · have : i = ks.length := by omega
          subst this
          rw [List.getElem_append_right (Nat.le_refl _)]
          refine ⟨?_, ?_, ?_⟩
          · rw [vaS, upd_ne _ _ (by omega), upd_ne _ _ (by omega), upd_ne _ _ (by omega), upd_self]; simp
          · rw [vaS, upd_ne _ _ (by omega), upd_ne _ _ (by omega), upd_self]; simp
          · rw [vaS, upd_ne _ _ (by omega), upd_self]; simp))
theorem ro_clearUp (R : RelM S g A mk ks tk tkt) (h : LI A) (t : TO A tk tkt) (htk : tk + 1000 < 2 ^ 31) (hk : 20000 ≤ k) {K : Nat → Option Nat} (hK : ∀ j r, j < A.W → K j = some r → A.up j = false ∧ A.ln.find? (fun x => A.Q x 6 == nI j) = some r)
    (h6 : ∀ j, j < A.W → S 6 j = oI (K j)) (hks : ks.length + (killsK K A A.W).length ≤ 360) :
    ∃ S' tk' tkt', M_X10_clearUp k S = some S' ∧ RelM S' g (clearF K A A.W) mk (ks ++ killsK K A A.W) tk' tkt' ∧ TO (clearF K A A.W) tk' tkt' ∧ tk' ≤ tk + 1000 ∧ ∀ j, j ≠ g → S' j = S j := by
  have hW := h.w12
  have hn := h.n60
  have mono : ∀ i, i ≤ A.W → (killsK K A i).length ≤ (killsK K A A.W).length := by
    have step : ∀ i, (killsK K A i).length ≤ (killsK K A (i + 1)).length := fun i => by
      have e : killsK K A (i + 1) = match K i with | none => killsK K A i | some r => killsK K A i ++ [(A.t, tnOf A r, i)] := rfl
      rw [e]
      cases K i with
      | none => exact Nat.le_refl _
      | some r => show (killsK K A i).length ≤ (killsK K A i ++ [(A.t, tnOf A r, i)]).length; rw [List.length_append]; omega
    intro i hi
    obtain ⟨d, hd⟩ : ∃ d, A.W = i + d := ⟨A.W - i, by omega⟩
    rw [hd]
    clear hd
    induction d with
    | zero => exact Nat.le_refl _
    | succ d ih => exact Nat.le_trans ih (step (i + d))
  have key : ∀ m i (S : VV) (tk2 : Nat) (tkt2 : Nat → Nat), i + m = A.W → tk2 ≤ tk + 61 * i → RelM S g (clearF K A i) mk (ks ++ killsK K A i) tk2 tkt2 → TO (clearF K A i) tk2 tkt2 → (∀ j, j < A.W → S 6 j = oI (K j)) → ∀ fuel, m < fuel →
      ∃ S' tk' tkt', M_X10_clearUp_2 k fuel (nI i) S = some S' ∧ RelM S' g (clearF K A A.W) mk (ks ++ killsK K A A.W) tk' tkt' ∧ TO (clearF K A A.W) tk' tkt' ∧ tk' ≤ tk + 1000 ∧ ∀ j, j ≠ g → S' j = S j := by
    intro m
    induction m with
    | zero =>
      intro i S tk2 tkt2 hi hle R T hS fuel hf
      obtain ⟨f, rfl⟩ : ∃ f, fuel = f + 1 := ⟨fuel - 1, by omega⟩
      have : i = A.W := by omega
      subst this
      have I := clear_inv h hK A.W (Nat.le_refl _)
      refine ⟨S, tk2, tkt2, ?_, R, T, by omega, fun _ _ => rfl⟩
      simp only [M_X10_clearUp_2]
      rw [R.workers k, Option.bind_some, I.sm.W, if_pos (nI_le (Nat.le_refl _) (by omega))]
    | succ m ih =>
      intro i S tk2 tkt2 hi hle R T hS fuel hf
      obtain ⟨f, rfl⟩ : ∃ f, fuel = f + 1 := ⟨fuel - 1, by omega⟩
      have hiW : i < A.W := by omega
      have I := clear_inv h hK i (by omega)
      have e : clearF K A (i + 1) = match K i with | none => clearF K A i | some r => clr (clearF K A i) r i := rfl
      have ek : killsK K A (i + 1) = match K i with | none => killsK K A i | some r => killsK K A i ++ [(A.t, tnOf A r, i)] := rfl
      have hS6 := hS i hiW
      have h6c : (S 6) (nI i).toNatClampNeg = oI (K i) := by rw [nI_clamp (by omega)]; exact hS6
      cases hki : K i with
      | none =>
        rw [hki] at e ek h6c
        have e : clearF K A (i + 1) = clearF K A i := e
        have ek : killsK K A (i + 1) = killsK K A i := ek
        obtain ⟨S', tk', tkt', e1, R1, T1, h1, f1⟩ := ih (i + 1) S tk2 tkt2 (by omega) (by omega) (by rw [e, ek]; exact R) (by rw [e]; exact T) hS f (by omega)
        refine ⟨S', tk', tkt', ?_, R1, T1, h1, f1⟩
        simp only [M_X10_clearUp_2, lt_eq]
        rw [R.workers k, Option.bind_some, I.sm.W, if_neg (nI_ge hiW (by omega)), if_pos (inb_nI (by omega) (by decide)), h6c, if_pos (by rfl), nI_1]
        exact e1
      | some r =>
        rw [hki] at e ek h6c
        have e : clearF K A (i + 1) = routeQ (retry (clearF K A i) r) i := e
        have ek : killsK K A (i + 1) = killsK K A i ++ [(A.t, tnOf A r, i)] := ek
        have hmono := mono (i + 1) (by omega)
        rw [ek, List.length_append] at hmono
        have hmono : (killsK K A i).length + 1 ≤ (killsK K A A.W).length := hmono
        obtain ⟨hd, hfd⟩ := I.fr i r (Nat.le_refl _) hiW hki
        have hm := List.mem_of_find?_eq_some hfd
        have hrn := I.li.me r hm
        have hrn2 : r < 60 := by have := I.li.n60; omega
        have hne : ¬ oI (some r) = -1 := m1_ne (by omega)
        have hdn : (clearF K A i).up i = false := by rw [I.sm.up]; exact hd
        obtain ⟨htn, hq0⟩ := I.li.toAW.tn hrn
        have htn2 : tnOf (clearF K A i) r = tnOf A r := by unfold tnOf; rw [clear_fix h hK i (by omega) r 0 (Or.inl rfl)]
        obtain ⟨S1, e1, R1, f1⟩ := ro_noteKill (k := k) R I.li.toAW (by rw [List.length_append]; omega) (tnOf A r) i
        rw [I.sm.t, List.append_assoc, ← ek] at R1
        obtain ⟨S2, e2, R2, f2⟩ := R1.putQ I.li.toAW k hrn 5 ((clearF K A i).Q r 5 + 1) (x := 5)
        have R2 : RelM S2 g (att (clearF K A i) r) mk (ks ++ killsK K A (i + 1)) tk2 tkt2 := R2
        have L2 := I.li.att r
        have T2 : TO (att (clearF K A i) r) tk2 tkt2 := ⟨T.so, T.lt⟩
        obtain ⟨L3, M3⟩ := retry_inv I.li hm
        have start : M_X10_clearUp_2 k (f + 1) (nI i) S = (if (att (clearF K A i) r).Q r 5 ≤ nI ((clearF K A i).st 1) then ((M_X10_route k S2 (nI r)).bind fun q13 => (M_X10_routeAll k q13 (nI i)).bind fun q14 => M_X10_clearUp_2 k f (nI (i + 1)) q14) else ((M_X10_end k S2 (nI r) 3).bind fun q15 => (M_X10_routeAll k q15 (nI i)).bind fun q16 => M_X10_clearUp_2 k f (nI (i + 1)) q16)) := by
          simp only [M_X10_clearUp_2, lt_eq]
          rw [R.workers k, Option.bind_some, I.sm.W, if_neg (nI_ge hiW (by omega)), if_pos (inb_nI (by omega) (by decide)), h6c, if_neg hne, show oI (some r) = nI r from rfl, R.q I.li.toAW k hrn 0, Option.bind_some, hq0, htn2, e1, Option.bind_some, R1.q I.li.toAW k hrn 5, Option.bind_some, e2, Option.bind_some, R2.q L2.toAW k (r := r) hrn 5, Option.bind_some, R2.told k 1 (x := 1), Option.bind_some, nI_1]
          rfl
        have go : ∀ (S3 : VV) (tk3 : Nat) (tkt3 : Nat → Nat), RelM S3 g (retry (clearF K A i) r) mk (ks ++ killsK K A (i + 1)) tk3 tkt3 → TO (retry (clearF K A i) r) tk3 tkt3 → tk3 ≤ tk2 + 1 → (∀ j, j ≠ g → S3 j = S2 j) →
            M_X10_clearUp_2 k (f + 1) (nI i) S = ((M_X10_routeAll k S3 (nI i)).bind fun q14 => M_X10_clearUp_2 k f (nI (i + 1)) q14) →
            ∃ S' tk' tkt', M_X10_clearUp_2 k (f + 1) (nI i) S = some S' ∧ RelM S' g (clearF K A A.W) mk (ks ++ killsK K A A.W) tk' tkt' ∧ TO (clearF K A A.W) tk' tkt' ∧ tk' ≤ tk + 1000 ∧ ∀ j, j ≠ g → S' j = S j := by
          intro S3 tk3 tkt3 R3 T3 h3 f3 hst
          obtain ⟨S4, tk4, tkt4, e4, R4, T4, h4, f4⟩ := ro_routeAll R3 L3 T3 (by omega) hk (j := i) (by rw [M3.W, I.sm.W]; exact hiW) (by rw [M3.up]; exact hdn)
          have fr : ∀ j, j ≠ g → S4 j = S j := fun j hj => by rw [f4 j hj, f3 j hj, f2 j hj, f1 j hj]
          obtain ⟨S', tk', tkt', e5, R5, T5, h5, f5⟩ := ih (i + 1) S4 tk4 tkt4 (by omega) (by omega) (by rw [e]; exact R4) (by rw [e]; exact T4) (fun j hj => by rw [fr 6 R.gs.ne6]; exact hS j hj) f (by omega)
          exact ⟨S', tk', tkt', by rw [hst, e4, Option.bind_some]; exact e5, R5, T5, h5, fun j hj => by rw [f5 j hj, fr j hj]⟩
        by_cases hc : (att (clearF K A i) r).Q r 5 ≤ nI ((clearF K A i).st 1)
        · have er : retry (clearF K A i) r = routeA (att (clearF K A i) r) r := if_pos hc
          obtain ⟨S3, e3, R3, f3⟩ := ro_route R2 L2.toAW hk (r := r) hrn
          have T3 : TO (routeA (att (clearF K A i) r) r) (tk2 + 1) (newT tkt2 r tk2) := T2.route
          refine go S3 (tk2 + 1) (newT tkt2 r tk2) (by rw [er]; exact R3) (by rw [er]; exact T3) (Nat.le_refl _) f3 ?_
          rw [start, if_pos hc, e3, Option.bind_some]
        · have er : retry (clearF K A i) r = endL (att (clearF K A i) r) r 3 := if_neg hc
          obtain ⟨S3, e3, R3, f3⟩ := ro_end (k := k) R2 L2.toAW (r := r) hrn 3
          have T3 : TO (endL (att (clearF K A i) r) r 3) tk2 tkt2 := ⟨List.Pairwise.filter _ T2.so, fun x hx => T2.lt x (List.mem_filter.mp hx).1⟩
          refine go S3 tk2 tkt2 (by rw [er]; exact R3.wL _) (by rw [er]; exact T3) (by omega) f3 ?_
          rw [start, if_neg hc, e3, Option.bind_some]
  obtain ⟨S', tk', tkt', e1, R1, T1, h1, f1⟩ := key A.W 0 S tk tkt (by omega) (by omega) (by rw [show killsK K A 0 = [] from rfl, List.append_nil]; exact R) t h6 k (by omega)
  rw [nI_0] at e1
  exact ⟨S', tk', tkt', e1, R1, T1, h1, f1⟩
end REF
