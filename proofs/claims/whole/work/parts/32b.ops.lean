-- ===== what the operations change, on both sides =====
def AF.wS (A : AF) (sh : Nat → Nat) : AF := mkA A.W A.Z A.m A.n A.t A.up A.again A.st sh A.qe A.Q A.ln
def AF.wSt (A : AF) (st : Nat → Nat) : AF := mkA A.W A.Z A.m A.n A.t A.up A.again st A.sh A.qe A.Q A.ln
theorem RST.sameE {A B : AF} {fg mk : Nat → Nat} {ks ks' : KL} {tk : Nat} {tkt : Nat → Nat} (I : RST A fg mk ks ks' tk tkt) (s : SameE A B) : RST B fg mk ks ks' tk tkt :=
  RST.ofs (li := I.li.sameE s) (su := I.su.sameE s) (sr := I.sr.sameE s) (tt := I.tt.mono s.ln) (ko := ⟨I.ko.so, by rw [s.t, s.m, s.W]; exact I.ko.le⟩) (pm := I.pm) (km := fun t ht => I.km t (by rw [← s.m]; exact ht)) (fl := by rw [s.m, s.t]; exact I.fl) (ac := I.ac.sameE s) (r5 := by rw [s.st]; exact I.r5) (pc := by rw [s.m, s.sh, s.Z]; exact I.pc) (z4 := by rw [s.Z]; exact I.z4)
theorem jr_release {F S : VV} {g N : Nat} {A : AF} (J : JR F S g A N) {t : Nat} (ht : t < A.m) : JR (va_up F 3 (upd (F 3) (t * 3 + 1) (-1))) (va_up S g (upd (S g) (36 + 3 * t + 1) (-1))) g (A.wE (up1 A.qe t (-1))) N := by
  obtain ⟨fg, mk, ks, ks', tk, tkt, R, M, I, hN⟩ := J
  exact ⟨fg, mk, ks, ks', tk, tkt, R.putE (-1), M.putE I.li.toAW ht (-1), I.sameE (SameE.wE A _), hN⟩
section CLS
variable {F : VV} {A : AF} {fg : Nat → Nat} {ks : KL} {k : Nat}
theorem RelC.putS (R : RelC F A fg ks) {t : Nat} (v : Nat) : RelC (va_up F 3 (upd (F 3) (t * 3 + 0) (nI v))) (A.wS (up1 A.sh t v)) fg ks :=
  (RelC.ofs
      (s0 := R.s0)
      (s1 := R.s1)
      (s2 := R.s2)
      (s3 := R.s3)
      (s4 := R.s4)
      (s5 := R.s5)
      (s6 := R.s6)
      (se := R.se)
      (ag := R.ag)
      (te := fun x hx => by
      have hx : x < A.m := hx
      show upd (F 3) (t * 3 + 0) (nI v) (x * 3 + 0) = nI (up1 A.sh t v x) ∧ upd (F 3) (t * 3 + 0) (nI v) (x * 3 + 1) = _ ∧ upd (F 3) (t * 3 + 0) (nI v) (x * 3 + 2) = _
      obtain ⟨h1, h2, h3⟩ := R.te x hx
      refine ⟨?_, by rw [upd_ne _ _ (by omega)]; exact h2, by rw [upd_ne _ _ (by omega)]; exact h3⟩
      by_cases e : x = t
      · subst e; rw [upd_self, up1_self]
      · rw [upd_ne _ _ (by omega), up1_ne _ _ e]; exact h1)
      (rq := R.rq)
      (li := R.li)
      (k0 := R.k0)
      (k1 := R.k1)
      (kp := R.kp))
theorem RelC.putSt (R : RelC F A fg ks) {i : Nat} (v : Nat) : RelC (va_up F 1 (upd (F 1) i (nI v))) (A.wSt (up1 A.st i v)) fg ks :=
  (RelC.ofs
      (s0 := R.s0)
      (s1 := R.s1)
      (s2 := R.s2)
      (s3 := R.s3)
      (s4 := R.s4)
      (s5 := R.s5)
      (s6 := R.s6)
      (se := fun x hx => by
      show upd (F 1) i (nI v) x = nI (up1 A.st i v x)
      by_cases e : x = i
      · subst e; rw [upd_self, up1_self]
      · rw [upd_ne _ _ e, up1_ne _ _ e]; exact R.se x hx)
      (ag := R.ag)
      (te := R.te)
      (rq := R.rq)
      (li := R.li)
      (k0 := R.k0)
      (k1 := R.k1)
      (kp := R.kp))
end CLS
section REF
variable {S : VV} {g : Nat} {A : AF} {mk : Nat → Nat} {ks : KL} {tk : Nat} {tkt : Nat → Nat} {k : Nat}
theorem RelM.putS (R : RelM S g A mk ks tk tkt) (w : AW A) {t : Nat} (ht : t < A.m) (v : Nat) : RelM (va_up S g (upd (S g) (36 + 3 * t + 0) (nI v))) g (A.wS (up1 A.sh t v)) mk ks tk tkt := by
  have hW := w.w12
  have hm := w.m12
  have ne : ∀ i, i ≠ 36 + 3 * t + 0 → va_up S g (upd (S g) (36 + 3 * t + 0) (nI v)) g i = S g i := fun i hi => by rw [vaS, upd_ne _ _ hi]
  refine RelM.ofs (gs := R.gs.up _) (s0 := (ne 0 (by omega)).trans R.s0) (s1 := (ne 1 (by omega)).trans R.s1) (s2 := (ne 2 (by omega)).trans R.s2) (s3 := (ne 3 (by omega)).trans R.s3) (s4 := (ne 4 (by omega)).trans R.s4)
    (se := fun i hi => (ne (5 + i) (by omega)).trans (R.se i hi)) (s10 := (ne 10 (by omega)).trans R.s10) (s11 := (ne 11 (by omega)).trans R.s11)
    (wo := fun j hj => ?_) (te := fun x hx => ?_) (rq := fun r c hr hc => (ne _ (by omega)).trans (R.rq r c hr hc)) (ti := fun r hr => (ne _ (by omega)).trans (R.ti r hr)) (ki := fun i hi => ⟨(ne _ (by omega)).trans (R.ki i hi).1, (ne _ (by omega)).trans (R.ki i hi).2.1, (ne _ (by omega)).trans (R.ki i hi).2.2⟩)
  · have hj : j < A.W := hj
    exact ⟨(ne _ (by omega)).trans (R.wo j hj).1, (ne _ (by omega)).trans (R.wo j hj).2⟩
  · have hx : x < A.m := hx
    show _ = nI (up1 A.sh t v x) ∧ _ = _ ∧ _ = _
    obtain ⟨h1, h2, h3⟩ := R.te x hx
    refine ⟨?_, (ne _ (by omega)).trans h2, (ne _ (by omega)).trans h3⟩
    by_cases e : x = t
    · subst e; rw [vaS, upd_self, up1_self]
    · rw [ne _ (by omega), up1_ne _ _ e]; exact h1
theorem RelM.putSt (R : RelM S g A mk ks tk tkt) (w : AW A) {i : Nat} (hi : i < 5) (v : Nat) : RelM (va_up S g (upd (S g) (5 + i) (nI v))) g (A.wSt (up1 A.st i v)) mk ks tk tkt := by
  have hW := w.w12
  have hm := w.m12
  have ne : ∀ x, x ≠ 5 + i → va_up S g (upd (S g) (5 + i) (nI v)) g x = S g x := fun x hx => by rw [vaS, upd_ne _ _ hx]
  refine RelM.ofs (gs := R.gs.up _) (s0 := (ne 0 (by omega)).trans R.s0) (s1 := (ne 1 (by omega)).trans R.s1) (s2 := (ne 2 (by omega)).trans R.s2) (s3 := (ne 3 (by omega)).trans R.s3) (s4 := (ne 4 (by omega)).trans R.s4)
    (se := fun x hx => ?_) (s10 := (ne 10 (by omega)).trans R.s10) (s11 := (ne 11 (by omega)).trans R.s11)
    (wo := fun j hj => ?_) (te := fun x hx => ?_) (rq := fun r c hr hc => (ne _ (by omega)).trans (R.rq r c hr hc)) (ti := fun r hr => (ne _ (by omega)).trans (R.ti r hr)) (ki := fun x hx => ⟨(ne _ (by omega)).trans (R.ki x hx).1, (ne _ (by omega)).trans (R.ki x hx).2.1, (ne _ (by omega)).trans (R.ki x hx).2.2⟩)
  · show _ = nI (up1 A.st i v x)
    by_cases e : x = i
    · subst e; rw [vaS, upd_self, up1_self]
    · rw [ne _ (by omega), up1_ne _ _ e]; exact R.se x hx
  · have hj : j < A.W := hj
    exact ⟨(ne _ (by omega)).trans (R.wo j hj).1, (ne _ (by omega)).trans (R.wo j hj).2⟩
  · have hx : x < A.m := hx
    exact ⟨(ne _ (by omega)).trans (R.te x hx).1, (ne _ (by omega)).trans (R.te x hx).2.1, (ne _ (by omega)).trans (R.te x hx).2.2⟩
end REF
section RS
variable {A : AF} {fg mk : Nat → Nat} {ks ks' : KL} {tk : Nat} {tkt : Nat → Nat}
theorem RST.wS (I : RST A fg mk ks ks' tk tkt) (sh : Nat → Nat) (hs : ∀ t, t < A.m → sh t < 2 ^ A.W) (hp : ∀ t, t < A.m → pcn (sh t) 12 = A.Z) : RST (A.wS sh) fg mk ks ks' tk tkt :=
  RST.ofs (li := LI.ofs (toAW := ⟨I.li.w2, I.li.w12, I.li.z1, I.li.zw, I.li.m12, I.li.n60, I.li.t4, I.li.se, hs, I.li.ten⟩) (toAL := ⟨I.li.nd, I.li.me⟩) (wt := I.li.wt) (q0 := I.li.q0) (q1 := I.li.q1)) (su := I.su) (sr := I.sr) (tt := ⟨I.tt.so, I.tt.lt⟩) (ko := ⟨I.ko.so, I.ko.le⟩) (pm := I.pm) (km := I.km) (fl := I.fl) (ac := ⟨I.ac.q5, I.ac.su⟩) (r5 := I.r5) (pc := hp) (z4 := I.z4)
theorem RST.wSt (I : RST A fg mk ks ks' tk tkt) (st : Nat → Nat) (hs : ∀ i, i < 5 → st i < 1000) (h1 : st 1 ≤ 5) : RST (A.wSt st) fg mk ks ks' tk tkt :=
  RST.ofs (li := LI.ofs (toAW := ⟨I.li.w2, I.li.w12, I.li.z1, I.li.zw, I.li.m12, I.li.n60, I.li.t4, hs, I.li.sh, I.li.ten⟩) (toAL := ⟨I.li.nd, I.li.me⟩) (wt := I.li.wt) (q0 := I.li.q0) (q1 := I.li.q1)) (su := I.su) (sr := I.sr) (tt := ⟨I.tt.so, I.tt.lt⟩) (ko := ⟨I.ko.so, I.ko.le⟩) (pm := I.pm) (km := I.km) (fl := I.fl) (ac := ⟨I.ac.q5, I.ac.su⟩) (r5 := h1) (pc := I.pc) (z4 := I.z4)
end RS
theorem jr_move {F S : VV} {g N : Nat} {A : AF} (J : JR F S g A N) {t : Nat} (ht : t < A.m) {v : Nat} (hv : v < 2 ^ A.W) (hp : pcn v 12 = A.Z) : JR (va_up F 3 (upd (F 3) (t * 3 + 0) (nI v))) (va_up S g (upd (S g) (36 + 3 * t + 0) (nI v))) g (A.wS (up1 A.sh t v)) N := by
  obtain ⟨fg, mk, ks, ks', tk, tkt, R, M, I, hN⟩ := J
  refine ⟨fg, mk, ks, ks', tk, tkt, R.putS v, M.putS I.li.toAW ht v, I.wS _ (fun x hx => ?_) (fun x hx => ?_), hN⟩
  · unfold up1
    split
    · exact hv
    · exact I.li.sh x hx
  · unfold up1
    split
    · exact hp
    · exact I.pc x hx
theorem jr_set {F S : VV} {g N : Nat} {A : AF} (J : JR F S g A N) {i : Nat} (hi : i < 5) {v : Nat} (hv : v < 1000) (h1 : i = 1 → v ≤ 5) : JR (va_up F 1 (upd (F 1) i (nI v))) (va_up S g (upd (S g) (5 + i) (nI v))) g (A.wSt (up1 A.st i v)) N := by
  obtain ⟨fg, mk, ks, ks', tk, tkt, R, M, I, hN⟩ := J
  refine ⟨fg, mk, ks, ks', tk, tkt, R.putSt v, M.putSt I.li.toAW hi v, I.wSt _ (fun x hx => ?_) ?_, hN⟩
  · unfold up1
    split
    · exact hv
    · exact I.li.se x hx
  · unfold up1
    split
    · rename_i e; exact h1 e.symm
    · exact I.r5
/-- a worker goes down, and its queue is routed -/
theorem sk_routeQ {K : Nat → Option Nat} {i : Nat} {A : AF} (h : LI A) (s : SK K i A) (hi : i < A.W) (hd : A.up i = false) : SK K (i + 1) (routeQ A i) := by
  have s2 := (routeQ_inv h i (SK K i) s (fun B x hB _ _ _ sB => sk_route hB.toAW sB x)).2
  have hn := routeQ_none A.ln A h hi hd (fun x hx => hx) (fun x hx _ => hx)
  intro x j hx hj hq
  rcases s2.2 x j hx hj hq with h | ⟨h1, h2⟩
  · exact Or.inl h
  · by_cases e : j = i
    · subst e; exact absurd hq (hn x hx)
    · exact Or.inr ⟨by omega, h2⟩
theorem jr_kill {F S : VV} {g N k : Nat} {A : AF} (J : JR F S g A N) (hN : N + 1000 < 2 ^ 31) (hk : 20000 ≤ k) {j : Nat} (hj : j < A.W) :
    ∃ F1 F' S1 S' A', M_X0_takeDown k F (nI j) = some F1 ∧ M_X0_routeQueue k F1 (nI j) = some F' ∧ M_X10_takeDown k S (nI j) = some S1 ∧ M_X10_routeAll k S1 (nI j) = some S' ∧ JR F' S' g A' (N + 60) ∧ A'.t = A.t ∧ ∀ i, i ≠ g → S' i = S i := by
  obtain ⟨fg, mk, ks, ks', tk, tkt, R, M, I, hN2⟩ := J
  have h := I.li
  obtain ⟨F1, e1, R1⟩ := co_down (k := k) R h.toAW hj
  obtain ⟨S1, e2, M1, f1⟩ := ro_down (k := k) M h.toAW hj
  have h1 : LI (down A j) := h.down j
  have hd : (down A j).up j = false := by
    show (A.up j && !(j == j)) = false
    simp
  have t1 : TO (down A j) tk tkt := I.tt.mono (A := A) rfl
  obtain ⟨F', e3, R3, L3⟩ := co_routeQueue (k := k) R1 h1 hk (j := j) hj hd
  obtain ⟨S', tk', tkt', e4, M4, T4, b4, f4⟩ := ro_routeAll (k := k) M1 h1 t1 (by omega) hk (j := j) hj hd
  have key := routeQ_inv h1 j (fun _ => True) trivial (fun _ _ _ _ _ _ _ => trivial)
  have m3 : Same (down A j) (routeQ (down A j) j) := key.2.1
  have sk0 : SK (fun i => if i = j then some 0 else none) j (down A j) := fun r i hr hi hq => by
    by_cases e : i = j
    · right; exact ⟨Nat.le_of_eq e.symm, by simp [e]⟩
    · left
      have hu := I.su r i hr hi hq
      show (A.up i && !(i == j)) = true
      rw [hu]
      simp [e]
  have sk1 := sk_routeQ h1 sk0 (show j < (down A j).W from hj) hd
  refine ⟨F1, F', S1, S', routeQ (down A j) j, e1, e3, e2, e4, ⟨fg, mk, ks, ks', tk', tkt', R3, M4, RST.ofs (li := L3) (su := ?_) (sr := sr_routeQ h1 (A := down A j) I.sr j) (tt := T4) (ko := ?_) (pm := I.pm) (km := ?_) (fl := ?_) (ac := ?_) (r5 := ?_) (pc := ?_) (z4 := by rw [m3.Z]; exact I.z4), by omega⟩, m3.t, fun i hi => (f4 i hi).trans (f1 i hi)⟩
  · intro r i hr hi hq
    rcases sk1 r i hr hi hq with e | ⟨e1, e2⟩
    · exact e
    · have e2 : (if i = j then some 0 else none : Option Nat).isSome = true := e2
      have hne : ¬ i = j := by omega
      rw [if_neg hne] at e2
      cases e2
  · refine ⟨I.ko.so, ?_⟩
    rw [m3.t, m3.m, m3.W]
    exact I.ko.le
  · intro t ht
    rw [m3.m] at ht
    exact I.km t ht
  · rw [m3.m, m3.t]
    exact I.fl
  · have a1 : AT (down A j) ks.length := ⟨I.ac.q5, I.ac.su⟩
    exact a1.routeQ h1 j
  · rw [m3.st]; exact I.r5
  · rw [m3.m, m3.sh, m3.Z]; exact I.pc
