-- ===== a tick =====
def AF.wT (A : AF) (t : Nat) : AF := mkA A.W A.Z A.m A.n t A.up A.again A.st A.sh A.qe A.Q A.ln
def tk1 (A : AF) : AF := stF (A.wT (A.t + 1)) A.W
def tk2 (A : AF) : AF := routeP (tk1 A)
def tk3 (A : AF) : AF := refW (tk2 A) (tk2 A).W
def tk4 (A : AF) : AF := clearF (killer (tk2 A)) (tk3 A) (tk3 A).W
def tk5 (A : AF) : AF := endF (tk4 A) (tk4 A).m
theorem SU.routeP {A : AF} (h : LI A) (su : SU A) : SU (routeP A) := by
  have key := routeP_inv h (fun B => SU B) su (fun B r LB MB hr hB => by
    intro x j hx hj hq
    have hW := LB.w12
    by_cases e : x = r
    · subst e
      by_cases hu : B.up j = true
      · exact hu
      · exact absurd hq (routeA_not B LB.toAW hj (by simpa using hu))
    · rw [routeA_ne B 6 e] at hq
      have hx2 : x ∈ B.ln.filter (fun y => y != r) ++ [r] := hx
      have hx3 : x ∈ B.ln := by
        rcases List.mem_append.mp hx2 with h | h
        · exact (List.mem_filter.mp h).1
        · exact absurd (by simpa using h) e
      exact hB x j hx3 hj hq)
  exact key.2.2
theorem wT_LI {A : AF} (h : LI A) {t : Nat} (ht : t < 20000) : LI (A.wT t) := (LI.ofs (toAW := ⟨h.w2, h.w12, h.z1, h.zw, h.m12, h.n60, ht, h.se, h.sh, h.ten⟩) (toAL := ⟨h.nd, h.me⟩) (wt := h.wt) (q0 := h.q0) (q1 := h.q1))
section CLS
variable {F : VV} {A : AF} {fg : Nat → Nat} {ks : KL} {k : Nat}
theorem RelC.time (R : RelC F A fg ks) : RelC (va_up F 0 (upd (F 0) 4 (nI (A.t + 1)))) (A.wT (A.t + 1)) fg ks := (RelC.ofs (s0 := R.s0) (s1 := R.s1) (s2 := R.s2) (s3 := R.s3) (s4 := rfl) (s5 := R.s5) (s6 := R.s6) (se := R.se) (ag := R.ag) (te := R.te) (rq := R.rq) (li := R.li) (k0 := R.k0) (k1 := R.k1) (kp := R.kp))
theorem co_tick (R : RelC F A fg ks) (h : LI A) (su : SU A) (s3 : SR (tk5 A)) (ht : A.t + 1 < 20000) (hk : 20000 ≤ k) (hroom : ks.length + (fsts (tk2 A)).length ≤ 360)
    (ko : KO (tk5 A) (ks ++ wkKills (tk2 A) (fsts (tk2 A)))) (hfg : ∀ t, t < (tk5 A).m → fg t ≤ (tk5 A).t) (hl : (ks ++ wkKills (tk2 A) (fsts (tk2 A))).length ≤ 360) :
    ∃ F', M_X0_tick k F = some F' ∧ RelC F' (begF (tk5 A) fg (ks ++ wkKills (tk2 A) (fsts (tk2 A))) (tk5 A).m).1 (begF (tk5 A) fg (ks ++ wkKills (tk2 A) (fsts (tk2 A))) (tk5 A).m).2 (ks ++ wkKills (tk2 A) (fsts (tk2 A))) := by
  have h0 := wT_LI h ht
  obtain ⟨F1, e1, R1⟩ := co_start (k := k) R.time h0.toAW hk
  have R1 : RelC F1 (tk1 A) fg ks := R1
  have sU := stF_same (A.wT (A.t + 1)) A.W
  have h1 : LI (tk1 A) := h0.sameU sU
  have su1 : SU (tk1 A) := SU.sameU (A := A.wT (A.t + 1)) su sU
  obtain ⟨F2, e2, R2, h2⟩ := co_routeParked (k := k) R1 h1 hk
  have su2 : SU (tk2 A) := SU.routeP h1 su1
  obtain ⟨F3, e3, R3⟩ := co_work (k := k) R2 h2 su2 hk hroom
  have I3 := refW_inv h2 (tk2 A).W (Nat.le_refl _)
  have hK := killer_hK h2 su2
  obtain ⟨F4, R4, e4⟩ := clear_loop (k := k) R3 I3.li hk (K := killer (tk2 A)) hK
  have h4 := (clear_inv I3.li hK (tk3 A).W (Nat.le_refl _)).li
  obtain ⟨F5, e5, R5⟩ := co_endQ (k := k) R4 h4.toAW hk
  have h5 : LI (tk5 A) := h4.sameE (endF_same _ _)
  obtain ⟨F6, e6, R6⟩ := co_begQ (k := k) (A := tk5 A) R5 h5 s3 ko hfg hl hk
  refine ⟨F6, ?_, R6⟩
  simp only [M_X0_tick, M_X0_tick_0, lt_eq]
  have et : F 0 4 + 1 = nI (A.t + 1) := by rw [R.s4, nI_1]
  rw [et, e1, Option.bind_some, e2, Option.bind_some, e3, Option.bind_some]
  have hWW : msk (fun j => (killer (tk2 A) j).isSome) (tk2 A).W = msk (fun j => (killer (tk2 A) j).isSome) (tk3 A).W := by
    have : (tk3 A).W = (tk2 A).W := I3.W
    rw [this]
  show M_X0_tick_25 k k (nI (msk (fun j => (killer (tk2 A) j).isSome) (tk2 A).W)) 0 F3 = _
  rw [hWW]
  refine e4.trans ?_
  rw [e5, Option.bind_some, e6, Option.bind_some]
end CLS
