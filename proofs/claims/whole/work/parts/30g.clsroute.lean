-- ===== routing =====
/-- the load of a worker, by its requests -/
def rload (A : AF) (j : Nat) : Int32 := sumI (fun r => if A.Q r 4 = 0 ∧ A.Q r 6 = nI j then A.Q r 2 else 0) A.n
def tnOf (A : AF) (r : Nat) : Nat := (A.Q r 0).toNatClampNeg
def bestA (A : AF) (t : Nat) : Option Nat := bestOf (rload A) (can A (A.sh t)) A.W
def putR (A : AF) (r : Nat) (b : Option Nat) : Nat → Nat → Int32 := setQ (setQ (setQ A.Q r 2 (A.Q r 1)) r 4 (if b = none then 1 else 0)) r 6 (oI b)
def routeA (A : AF) (r : Nat) : AF := (A.wQ (putR A r (bestA A (tnOf A r)))).wL (A.ln.filter (fun x => x != r) ++ [r])
section CLS
variable {F : VV} {A : AF} {fg : Nat → Nat} {ks : KL} {k : Nat}
theorem AW.tn {A : AF} (w : AW A) {r : Nat} (hr : r < A.n) : tnOf A r < A.m ∧ A.Q r 0 = nI (tnOf A r) := by
  obtain ⟨t, h1, h2⟩ := w.ten r hr
  have := w.m12
  unfold tnOf
  rw [h2, nI_clamp (by omega)]
  exact ⟨h1, rfl⟩
theorem RelC.pushLn (R : RelC F A fg ks) {r : Nat} : RelC (va_up (va_up F 5 (upd (F 5) A.ln.length (nI r))) 0 (upd (F 0) 6 (nI (A.ln.length + 1)))) (A.wL (A.ln ++ [r])) fg ks :=
  (RelC.ofs
      (s0 := R.s0)
      (s1 := R.s1)
      (s2 := R.s2)
      (s3 := R.s3)
      (s4 := R.s4)
      (s5 := R.s5)
      (s6 := by
      show nI (A.ln.length + 1) = nI (A.ln ++ [r]).length
      rw [List.length_append]
      rfl)
      (se := R.se)
      (ag := R.ag)
      (te := R.te)
      (rq := R.rq)
      (li := fun i hi => by
      have hi : i < (A.ln ++ [r]).length := hi
      show upd (F 5) A.ln.length (nI r) i = nI (A.ln ++ [r])[i]
      have hi2 : i < A.ln.length + 1 := by simpa using hi
      by_cases h : i < A.ln.length
      · rw [upd_ne _ _ (by omega), List.getElem_append_left h, R.li i h]
      · have : i = A.ln.length := by omega
        subst this
        rw [upd_self]
        simp)
      (k0 := R.k0)
      (k1 := R.k1)
      (kp := R.kp))
theorem RelC.push (R : RelC F A fg ks) {r : Nat} (h : A.ln.length < 60) : ((M_X5_put k 60 (F 5) (F 0 6) (nI r)).bind fun q5 => lt (va_up F 5 q5) fun F6 => lt (va_up F6 0 (upd (F6 0) 6 (F6 0 6 + 1))) fun F7 => some F7) = some (va_up (va_up F 5 (upd (F 5) A.ln.length (nI r))) 0 (upd (F 0) 6 (nI (A.ln.length + 1)))) := by
  simp only [lt_eq]
  have e : va_up F 5 (upd (F 5) A.ln.length (nI r)) 0 6 = nI A.ln.length := R.s6
  rw [R.s6, R_putI k (i := A.ln.length) (by omega) (by decide), Option.bind_some, e, nI_1]
  rfl
/-- the class routes a request that is not in its line; B is what the reference sees -/
theorem co_route (R : RelC F A fg ks) (w : AW A) (l : AL A) (hk : 20000 ≤ k) {r : Nat} (hr : r < A.n) (hrl : r ∉ A.ln) (hld : ∀ j, j < A.W → A.up j = true → lload A (nI j) = rload A j) : ∃ F', M_X0_route k F (nI r) = some F' ∧ RelC F' ((A.wQ (putR A r (bestA A (tnOf A r)))).wL (A.ln ++ [r])) fg ks := by
  have h60 := w.n60
  have := w.w12
  obtain ⟨htn, hq0⟩ := w.tn hr
  have hlen : A.ln.length + 1 ≤ A.n := by
    have := length_line (l := r :: A.ln) (n := A.n) (List.nodup_cons.mpr ⟨hrl, l.nd⟩) (fun x hx => by
      rcases List.mem_cons.mp hx with rfl | h
      · exact hr
      · exact l.me x h)
    simpa using this
  have hb : bestOf (fun j => lload A (nI j)) (can A (A.sh (tnOf A r))) A.W = bestA A (tnOf A r) := bestOf_ext (fun j hj hc => hld j hj (by
    unfold can at hc
    rw [Bool.and_eq_true] at hc
    exact hc.2))
  have R1 := R.putQ (r := r) (c := 2) (by decide) (A.Q r 1)
  have R2 := R1.putQ (r := r) (c := 4) (by decide) (if bestA A (tnOf A r) = none then 1 else 0)
  have R3 := R2.putQ (r := r) (c := 6) (by decide) (oI (bestA A (tnOf A r)))
  have fin : ∀ v : Int32, v = (if bestA A (tnOf A r) = none then 1 else 0) → ∃ F', M_X0_route_52 k (nI r) (oI (bestA A (tnOf A r))) (nI r) 4 v (va_up F 4 (upd (F 4) (r * 8 + 2) (A.Q r 1))) = some F' ∧ RelC F' ((A.wQ (putR A r (bestA A (tnOf A r)))).wL (A.ln ++ [r])) fg ks := by
    intro v hv
    subst hv
    have R4 := R3.pushLn (r := r)
    refine ⟨_, ?_, R4⟩
    simp only [M_X0_route_52, lt_eq]
    rw [TQ_putI k (r := r) (c := 4) (x := 4) (by omega) (by decide) rfl, Option.bind_some, TQ_putI k (r := r) (c := 6) (x := 6) (by omega) (by decide) rfl, Option.bind_some]
    exact R3.push (r := r) (show A.ln.length < 60 by omega)
  simp only [M_X0_route, M_X0_route_0, lt_eq]
  rw [R.q w k hr 0, Option.bind_some, hq0, R.shard w k htn, Option.bind_some, co_least R w l hk (w.sh _ htn), Option.bind_some, hb, R.q w k hr 1, Option.bind_some, TQ_putI k (r := r) (c := 2) (x := 2) (by omega) (by decide) rfl, Option.bind_some]
  cases hbb : bestA A (tnOf A r) with
  | none =>
    rw [hbb] at fin
    rw [if_pos (by rfl)]
    exact fin 1 rfl
  | some b =>
    rw [hbb] at fin
    obtain ⟨h1, h2⟩ := bestOf_some hbb
    have hne : ¬ oI (some b) = -1 := m1_ne (by omega)
    rw [if_neg hne]
    exact fin 0 rfl
end CLS
