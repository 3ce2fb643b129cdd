-- ===== a request is made =====
section CLS
variable {F : VV} {A : AF} {fg : Nat → Nat} {ks : KL} {k : Nat}
def bestL (A : AF) (r : Nat) : Option Nat := bestOf (fun j => lload A (nI j)) (can A (A.sh (tnOf A r))) A.W
/-- the class routes a request that is not in its line, by the loads of its line -/
theorem co_routeL (R : RelC F A fg ks) (w : AW A) (l : AL A) (hk : 20000 ≤ k) {r : Nat} (hr : r < A.n) (hrl : r ∉ A.ln) : ∃ F', M_X0_route k F (nI r) = some F' ∧ RelC F' ((A.wQ (putR A r (bestL A r))).wL (A.ln ++ [r])) fg ks := by
  have h60 := w.n60
  have := w.w12
  obtain ⟨htn, hq0⟩ := w.tn hr
  have hlen : A.ln.length + 1 ≤ A.n := by
    have := length_line (l := r :: A.ln) (n := A.n) (List.nodup_cons.mpr ⟨hrl, l.nd⟩) (fun x hx => by
      rcases List.mem_cons.mp hx with rfl | h
      · exact hr
      · exact l.me x h)
    simpa using this
  have hb : bestOf (fun j => lload A (nI j)) (can A (A.sh (tnOf A r))) A.W = bestL A r := rfl
  have R1 := R.putQ (r := r) (c := 2) (by decide) (A.Q r 1)
  have R2 := R1.putQ (r := r) (c := 4) (by decide) (if bestL A r = none then 1 else 0)
  have R3 := R2.putQ (r := r) (c := 6) (by decide) (oI (bestL A r))
  have fin : ∀ v : Int32, v = (if bestL A r = none then 1 else 0) → ∃ F', M_X0_route_52 k (nI r) (oI (bestL A r)) (nI r) 4 v (va_up F 4 (upd (F 4) (r * 8 + 2) (A.Q r 1))) = some F' ∧ RelC F' ((A.wQ (putR A r (bestL A r))).wL (A.ln ++ [r])) fg ks := by
    intro v hv
    subst hv
    have R4 := R3.pushLn (r := r)
    refine ⟨_, ?_, R4⟩
    simp only [M_X0_route_52, lt_eq]
    rw [TQ_putI k (r := r) (c := 4) (x := 4) (by omega) (by decide) rfl, Option.bind_some, TQ_putI k (r := r) (c := 6) (x := 6) (by omega) (by decide) rfl, Option.bind_some]
    exact R3.push (r := r) (show A.ln.length < 60 by omega)
  simp only [M_X0_route, M_X0_route_0, lt_eq]
  rw [R.q w k hr 0, Option.bind_some, hq0, R.shard w k htn, Option.bind_some, co_least R w l hk (w.sh _ htn), Option.bind_some, hb, R.q w k hr 1, Option.bind_some, TQ_putI k (r := r) (c := 2) (x := 2) (by omega) (by decide) rfl, Option.bind_some]
  cases hbb : bestL A r with
  | none =>
    rw [hbb] at fin
    rw [if_pos (by rfl)]
    exact fin 1 rfl
  | some b =>
    rw [hbb] at fin
    obtain ⟨h1, h2⟩ := bestOf_some hbb
    have hne : ¬ oI (some b) = -1 := m1_ne (by omega)
    rw [if_neg hne]
    exact fin 0 rfl
end CLS
/-- the cells of a new request -/
def layQ (Q : Nat → Nat → Int32) (n : Nat) (t c p v4 v6 : Int32) : Nat → Nat → Int32 := fun r x => if r = n then (if x = 0 then t else if x = 1 then c else if x = 2 then c else if x = 3 then p else if x = 4 then v4 else if x = 5 then 0 else if x = 6 then v6 else if x = 7 then -1 else 0) else Q r x
def layA (A : AF) (t : Nat) (c p v4 v6 : Int32) : AF := mkA A.W A.Z A.m (A.n + 1) A.t A.up A.again A.st A.sh A.qe (layQ A.Q A.n (nI t) c p v4 v6) A.ln
theorem layQ_n (Q : Nat → Nat → Int32) (n : Nat) (t c p v4 v6 : Int32) (x : Nat) : layQ Q n t c p v4 v6 n x = if x = 0 then t else if x = 1 then c else if x = 2 then c else if x = 3 then p else if x = 4 then v4 else if x = 5 then 0 else if x = 6 then v6 else if x = 7 then -1 else 0 := if_pos rfl
theorem layQ_ne (Q : Nat → Nat → Int32) {n r : Nat} (t c p v4 v6 : Int32) (x : Nat) (h : r ≠ n) : layQ Q n t c p v4 v6 r x = Q r x := if_neg h
section LAY
variable {A : AF} {t : Nat} {c p v4 v6 : Int32}
theorem layA_AW (w : AW A) (ht : t < A.m) (hn : A.n < 60) : AW (layA A t c p v4 v6) := ⟨w.w2, w.w12, w.z1, w.zw, w.m12, hn, w.t4, w.se, w.sh, fun r hr => by
  have hr : r < A.n + 1 := hr
  by_cases e : r = A.n
  · exact ⟨t, ht, by rw [e]; exact layQ_n _ _ _ _ _ _ _ 0⟩
  · obtain ⟨t', h1, h2⟩ := w.ten r (by omega)
    exact ⟨t', h1, (layQ_ne _ _ _ _ _ _ 0 e).trans h2⟩⟩
theorem layA_AL (l : AL A) : AL (layA A t c p v4 v6) := ⟨l.nd, fun r hr => Nat.lt_succ_of_lt (l.me r hr)⟩
theorem layA_not (l : AL A) : A.n ∉ A.ln := fun h => Nat.lt_irrefl _ (l.me _ h)
theorem layA_tn (w : AW A) (ht : t < A.m) : tnOf (layA A t c p v4 v6) A.n = t := by
  have := w.m12
  unfold tnOf
  rw [show (layA A t c p v4 v6).Q A.n 0 = nI t from layQ_n _ _ _ _ _ _ _ 0, nI_clamp (by omega)]
/-- a request that is refused at once -/
theorem layA_LI (h : LI A) (ht : t < A.m) (hn : A.n < 60) : LI (layA A t c p 4 (-1)) := LI.ofs (toAW := layA_AW h.toAW ht hn) (toAL := layA_AL h.toAL)
  (wt := fun r => by
    show r ∈ A.ln ↔ r < A.n + 1 ∧ (layQ A.Q A.n (nI t) c p 4 (-1) r 4 = 0 ∨ layQ A.Q A.n (nI t) c p 4 (-1) r 4 = 1)
    by_cases e : r = A.n
    · subst e
      rw [layQ_n]
      constructor
      · intro hm; exact absurd hm (layA_not h.toAL)
      · intro hm
        have := hm.2
        simp at this
    · rw [layQ_ne _ _ _ _ _ _ 4 e, h.wt r]
      constructor
      · intro hm; exact ⟨by omega, hm.2⟩
      · intro hm; exact ⟨by omega, hm.2⟩)
  (q0 := fun r hr h0 => by
    have hr : r < A.n + 1 := hr
    have h0 : layQ A.Q A.n (nI t) c p 4 (-1) r 4 = 0 := h0
    show ∃ j, j < A.W ∧ layQ A.Q A.n (nI t) c p 4 (-1) r 6 = nI j
    by_cases e : r = A.n
    · subst e; rw [layQ_n] at h0; simp at h0
    · rw [layQ_ne _ _ _ _ _ _ _ e] at h0 ⊢
      exact h.q0 r (by omega) h0)
  (q1 := fun r hr h0 => by
    have hr : r < A.n + 1 := hr
    have h0 : layQ A.Q A.n (nI t) c p 4 (-1) r 4 = 1 := h0
    show layQ A.Q A.n (nI t) c p 4 (-1) r 6 = -1
    by_cases e : r = A.n
    · subst e; rw [layQ_n] at h0; simp at h0
    · rw [layQ_ne _ _ _ _ _ _ _ e] at h0 ⊢
      exact h.q1 r (by omega) h0)
theorem layA_SU (h : LI A) (su : SU A) : SU (layA A t c p v4 v6) := fun r j hr hj hq => by
  have hr : r ∈ A.ln := hr
  have hq : layQ A.Q A.n (nI t) c p v4 v6 r 6 = nI j := hq
  have e : r ≠ A.n := fun e => layA_not h.toAL (e ▸ hr)
  rw [layQ_ne _ _ _ _ _ _ _ e] at hq
  exact su r j hr hj hq
theorem layA_SR (s : SR A) : SR (layA A t c p 4 v6) := fun r hr => by
  have hr : r < A.n + 1 := hr
  show ∃ s, s ≤ 4 ∧ layQ A.Q A.n (nI t) c p 4 v6 r 4 = nI s
  by_cases e : r = A.n
  · subst e; rw [layQ_n]; exact ⟨4, by decide, rfl⟩
  · rw [layQ_ne _ _ _ _ _ _ _ e]; exact s r (by omega)
theorem layA_atn : atn (layA A t c p v4 v6) A.n = 0 := by
  unfold atn
  rw [show (layA A t c p v4 v6).Q A.n 5 = 0 from layQ_n _ _ _ _ _ _ _ 5]
  decide
theorem layA_AT {len : Nat} (a : AT A len) : AT (layA A t c p 4 v6) len := by
  have he : ∀ r, r ≠ A.n → atn (layA A t c p 4 v6) r = atn A r := fun r hr => by
    unfold atn
    rw [show (layA A t c p 4 v6).Q r 5 = A.Q r 5 from layQ_ne _ _ _ _ _ _ _ hr]
  refine ⟨fun r hr => ?_, ?_⟩
  · have hr : r < A.n + 1 := hr
    by_cases e : r = A.n
    · subst e
      rw [layA_atn]
      exact ⟨layQ_n _ _ _ _ _ _ _ 5, by decide, fun _ => by decide⟩
    · rw [he r e]
      obtain ⟨h1, h2, h3⟩ := a.q5 r (by omega)
      refine ⟨(layQ_ne _ _ _ _ _ _ _ e).trans h1, h2, fun hw => h3 ?_⟩
      unfold waits at hw ⊢
      rw [show (layA A t c p 4 v6).Q r 4 = A.Q r 4 from layQ_ne _ _ _ _ _ _ _ e] at hw
      exact hw
  · show sumN (atn (layA A t c p 4 v6)) A.n + atn (layA A t c p 4 v6) A.n = len
    rw [layA_atn, sumN_ext (g := atn A) (fun r hr => he r (by omega)), a.su]
    rfl
theorem AT.routeN {A : AF} {len : Nat} (a : AT A len) {r : Nat} (h5 : atn A r ≤ 5) : AT (routeA A r) len := by
  have he : ∀ x, (routeA A r).Q x 5 = A.Q x 5 := fun x => putR_c A r _ x (by decide) (by decide) (by decide)
  have ha : ∀ x, atn (routeA A r) x = atn A x := fun x => by unfold atn; rw [he x]
  refine ⟨fun x hx => ?_, ?_⟩
  · rw [ha x, he x]
    refine ⟨(a.q5 x hx).1, (a.q5 x hx).2.1, fun hw => ?_⟩
    by_cases e : x = r
    · rw [e]; exact h5
    · refine (a.q5 x hx).2.2 ?_
      unfold waits at hw ⊢
      rw [routeA_ne A 4 e] at hw
      exact hw
  · show sumN (atn (routeA A r)) A.n = len
    rw [sumN_ext (g := atn A) (fun x _ => ha x)]
    exact a.su
theorem su_route {A : AF} (w : AW A) (su : SU A) (r : Nat) : SU (routeA A r) := fun x j hx hj hq => by
  by_cases e : x = r
  · subst e
    by_cases hu : A.up j = true
    · exact hu
    · exact absurd hq (routeA_not A w hj (by simpa using hu))
  · rw [routeA_ne A 6 e] at hq
    have hx2 : x ∈ A.ln.filter (fun y => y != r) ++ [r] := hx
    have hx3 : x ∈ A.ln := by
      rcases List.mem_append.mp hx2 with h | h
      · exact (List.mem_filter.mp h).1
      · exact absurd (by simpa using h) e
    exact su x j hx3 hj hq
theorem filter_not {l : List Nat} {r : Nat} (h : r ∉ l) : l.filter (fun x => x != r) = l := List.filter_eq_self.mpr (fun x hx => bne_iff_ne.mpr (fun e => h (e ▸ hx)))
/-- who is best, by the line of the class and by the requests of the reference -/
theorem layA_best (h : LI A) (ht : t < A.m) (hn : A.n < 60) : bestL (layA A t c p v4 v6) A.n = bestA (layA A t c p 4 (-1)) t := by
  unfold bestL bestA
  rw [layA_tn h.toAW ht]
  refine bestOf_ext (fun j hj hc => ?_)
  have hj : j < A.W := hj
  have h1 : lload (layA A t c p v4 v6) (nI j) = lload A (nI j) := lsum_ext (fun r hr => by
    have e : r ≠ A.n := fun e => layA_not h.toAL (e ▸ hr)
    rw [show (layA A t c p v4 v6).Q r 6 = A.Q r 6 from layQ_ne _ _ _ _ _ _ _ e, show (layA A t c p v4 v6).Q r 2 = A.Q r 2 from layQ_ne _ _ _ _ _ _ _ e])
  have h2 : lload (layA A t c p 4 (-1)) (nI j) = lload A (nI j) := lsum_ext (fun r hr => by
    have e : r ≠ A.n := fun e => layA_not h.toAL (e ▸ hr)
    rw [show (layA A t c p 4 (-1)).Q r 6 = A.Q r 6 from layQ_ne _ _ _ _ _ _ _ e, show (layA A t c p 4 (-1)).Q r 2 = A.Q r 2 from layQ_ne _ _ _ _ _ _ _ e])
  show lload (layA A t c p v4 v6) (nI j) = rload (layA A t c p 4 (-1)) j
  rw [h1, ← h2]
  exact (layA_LI h ht hn).load hj
theorem putR_2 (A : AF) (r : Nat) (b : Option Nat) : putR A r b r 2 = A.Q r 1 := by
  unfold putR
  rw [setQ_ne (by omega), setQ_ne (by omega), setQ_self]
theorem layA_route (h : LI A) (ht : t < A.m) (hn : A.n < 60) : ((layA A t c p v4 v6).wQ (putR (layA A t c p v4 v6) A.n (bestL (layA A t c p v4 v6) A.n))).wL ((layA A t c p v4 v6).ln ++ [A.n]) = routeA (layA A t c p 4 (-1)) A.n := by
  refine AF_ext (Eq.trans (b := A.W) rfl rfl) (Eq.trans (b := A.Z) rfl rfl) (Eq.trans (b := A.m) rfl rfl) (Eq.trans (b := A.n + 1) rfl rfl) (Eq.trans (b := A.t) rfl rfl) (Eq.trans (b := A.up) rfl rfl) (Eq.trans (b := A.again) rfl rfl) (Eq.trans (b := A.st) rfl rfl) (Eq.trans (b := A.sh) rfl rfl) (Eq.trans (b := A.qe) rfl rfl) ?_ ?_
  · show putR (layA A t c p v4 v6) A.n (bestL (layA A t c p v4 v6) A.n) = putR (layA A t c p 4 (-1)) A.n (bestA (layA A t c p 4 (-1)) (tnOf (layA A t c p 4 (-1)) A.n))
    rw [layA_best h ht hn, layA_tn h.toAW ht]
    funext r x
    by_cases er : r = A.n
    · subst er
      by_cases e6 : x = 6
      · subst e6; rw [putR_6, putR_6]
      · by_cases e4 : x = 4
        · subst e4; rw [putR_4, putR_4]
        · by_cases e2 : x = 2
          · subst e2
            rw [putR_2, putR_2]
            exact (layQ_n _ _ _ _ _ _ _ 1).trans (layQ_n _ _ _ _ _ _ _ 1).symm
          · rw [putR_c _ _ _ _ e2 e4 e6, putR_c _ _ _ _ e2 e4 e6]
            show layQ A.Q A.n (nI t) c p v4 v6 A.n x = layQ A.Q A.n (nI t) c p 4 (-1) A.n x
            rw [layQ_n, layQ_n]
            simp [e6, e4]
    · rw [putR_ne _ _ x er, putR_ne _ _ x er]
      exact (layQ_ne _ _ _ _ _ _ x er).trans (layQ_ne _ _ _ _ _ _ x er).symm
  · show A.ln ++ [A.n] = A.ln.filter (fun x => x != A.n) ++ [A.n]
    rw [filter_not (layA_not h.toAL)]
theorem endA_Q (A : AF) (r : Nat) (s : Int32) (x c : Nat) : (endA A r s).Q x c = if x = r then (if c = 7 then nI A.t else if c = 6 then -1 else if c = 4 then s else A.Q x c) else A.Q x c := endL_Q A r s x c
theorem layA_end (h : LI A) : endA (layA A t c p v4 v6) A.n 4 = endL (layA A t c p 4 (-1)) A.n 4 := by
  refine AF_ext (Eq.trans (b := A.W) rfl rfl) (Eq.trans (b := A.Z) rfl rfl) (Eq.trans (b := A.m) rfl rfl) (Eq.trans (b := A.n + 1) rfl rfl) (Eq.trans (b := A.t) rfl rfl) (Eq.trans (b := A.up) rfl rfl) (Eq.trans (b := A.again) rfl rfl) (Eq.trans (b := A.st) rfl rfl) (Eq.trans (b := A.sh) rfl rfl) (Eq.trans (b := A.qe) rfl rfl) ?_ ?_
  · funext r x
    rw [endA_Q, endL_Q]
    by_cases er : r = A.n
    · subst er
      rw [if_pos rfl, if_pos rfl]
      show (if x = 7 then nI A.t else if x = 6 then -1 else if x = 4 then 4 else layQ A.Q A.n (nI t) c p v4 v6 A.n x) = (if x = 7 then nI A.t else if x = 6 then -1 else if x = 4 then 4 else layQ A.Q A.n (nI t) c p 4 (-1) A.n x)
      by_cases e7 : x = 7
      · rw [if_pos e7, if_pos e7]
      · rw [if_neg e7, if_neg e7]
        by_cases e6 : x = 6
        · rw [if_pos e6, if_pos e6]
        · rw [if_neg e6, if_neg e6]
          by_cases e4 : x = 4
          · rw [if_pos e4, if_pos e4]
          · rw [if_neg e4, if_neg e4, layQ_n, layQ_n]
            simp [e6, e4]
    · rw [if_neg er, if_neg er]
      exact (layQ_ne _ _ _ _ _ _ x er).trans (layQ_ne _ _ _ _ _ _ x er).symm
  · show A.ln = A.ln.filter (fun x => x != A.n)
    rw [filter_not (layA_not h.toAL)]
end LAY
