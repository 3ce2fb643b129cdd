-- ===== a tick of the reference =====
section REF
variable {S : VV} {g : Nat} {A : AF} {mk : Nat → Nat} {ks : KL} {tk : Nat} {tkt : Nat → Nat} {k : Nat}
theorem RelM.time (R : RelM S g A mk ks tk tkt) (w : AW A) : RelM (va_up S g (upd (S g) 4 (nI (A.t + 1)))) g (A.wT (A.t + 1)) mk ks tk tkt := by
  have hW := w.w12
  have hm := w.m12
  have hn := w.n60
  have ne : ∀ i, i ≠ 4 → va_up S g (upd (S g) 4 (nI (A.t + 1))) g i = S g i := fun i hi => by rw [vaS, upd_ne _ _ hi]
  exact (RelM.ofs
      (gs := R.gs.up _)
      (s0 := (ne 0 (by omega)).trans R.s0)
      (s1 := (ne 1 (by omega)).trans R.s1)
      (s2 := (ne 2 (by omega)).trans R.s2)
      (s3 := (ne 3 (by omega)).trans R.s3)
      (s4 := by rw [vaS, upd_self]; rfl)
      (se := fun i hi => (ne (5 + i) (by omega)).trans (R.se i hi))
      (s10 := (ne 10 (by omega)).trans R.s10)
      (s11 := (ne 11 (by omega)).trans R.s11)
      (wo := fun j hj => ⟨(ne _ (by omega)).trans (R.wo j hj).1, (ne _ (by omega)).trans (R.wo j hj).2⟩)
      (te := fun t ht => ⟨(ne _ (by omega)).trans (R.te t ht).1, (ne _ (by omega)).trans (R.te t ht).2.1, (ne _ (by omega)).trans (R.te t ht).2.2⟩)
      (rq := fun r' c' hr' hc' => (ne _ (by omega)).trans (R.rq r' c' hr' hc'))
      (ti := fun r' hr' => (ne _ (by omega)).trans (R.ti r' hr'))
      (ki := fun i hi => ⟨(ne _ (by omega)).trans (R.ki i hi).1, (ne _ (by omega)).trans (R.ki i hi).2.1, (ne _ (by omega)).trans (R.ki i hi).2.2⟩))
theorem ro_tick {fg : Nat → Nat} {ks1 : KL} (R : RelM S g A mk ks tk tkt) (h : LI A) (su : SU A) (t : TO A tk tkt) (s5 : SR (tk5 A)) (ht : A.t + 1 < 20000) (htk : tk + 3000 < 2 ^ 31) (hk : 20000 ≤ k)
    (hl : (ks ++ killsK (killer (tk2 A)) (tk3 A) (tk3 A).W).length ≤ 360) (hp : (ks ++ killsK (killer (tk2 A)) (tk3 A) (tk3 A).W).Perm ks1)
    (hle : ∀ x, x ∈ ks ++ killsK (killer (tk2 A)) (tk3 A) (tk3 A).W → x.1 ≤ (tk5 A).t ∧ x.2.1 < (tk5 A).m ∧ x.2.2 < (tk5 A).W) (hmk : MK (tk5 A) fg mk (ks ++ killsK (killer (tk2 A)) (tk3 A) (tk3 A).W)) (hfg : ∀ t, t < (tk5 A).m → fg t ≤ (tk5 A).t) :
    ∃ S' mk' tk' tkt', M_X10_tick k S = some S' ∧ RelM S' g (begF (tk5 A) fg ks1 (tk5 A).m).1 mk' (ks ++ killsK (killer (tk2 A)) (tk3 A) (tk3 A).W) tk' tkt' ∧ TO (begF (tk5 A) fg ks1 (tk5 A).m).1 tk' tkt' ∧ MK (begF (tk5 A) fg ks1 (tk5 A).m).1 (begF (tk5 A) fg ks1 (tk5 A).m).2 mk' (ks ++ killsK (killer (tk2 A)) (tk3 A) (tk3 A).W) ∧ tk' ≤ tk + 2000 ∧ ∀ j, j ≠ g → j ≠ 6 → S' j = S j := by
  have h0 := wT_LI h ht
  obtain ⟨S1, e1, R1, f1⟩ := ro_start (k := k) (R.time h.toAW) h0.toAW hk
  have R1 : RelM S1 g (tk1 A) mk ks tk tkt := R1
  have sU := stF_same (A.wT (A.t + 1)) A.W
  have h1 : LI (tk1 A) := h0.sameU sU
  have su1 : SU (tk1 A) := SU.sameU (A := A.wT (A.t + 1)) su sU
  have t1 : TO (tk1 A) tk tkt := TO.mono (A := A) t sU.ln
  obtain ⟨S2, k2, kt2, e2, R2, t2, b2, f2⟩ := ro_routeParked (k := k) R1 h1 t1 (by omega) hk
  have h2 : LI (tk2 A) := (routeP_inv h1 (fun _ => True) trivial (fun _ _ _ _ _ _ => trivial)).1
  have su2 : SU (tk2 A) := SU.routeP h1 su1
  obtain ⟨S3, e3, R3, hkb, f3⟩ := ro_workAll (k := k) R2 h2 t2 (by omega) hk
  have I3 := refW_inv h2 (tk2 A).W (Nat.le_refl _)
  have hWW : (tk3 A).W = (tk2 A).W := I3.W
  have hK := killer_hK h2 su2
  have t3 : TO (tk3 A) k2 kt2 := refW_to t2 _
  obtain ⟨S4, k4, kt4, e4, R4, t4, b4, f4⟩ := ro_clearUp (k := k) (A := tk3 A) R3 I3.li t3 (by omega) hk (K := killer (tk2 A)) hK (fun j hj => by
    have hj2 : j < (tk2 A).W := hWW ▸ hj
    exact (hkb j hj2).trans (kb_killer _ j)) (by rw [List.length_append] at hl; exact hl)
  have h4 := (clear_inv I3.li hK (tk3 A).W (Nat.le_refl _)).li
  obtain ⟨S5, e5, R5, f5⟩ := ro_endQ (k := k) R4 h4.toAW hk
  have h5 : LI (tk5 A) := h4.sameE (endF_same _ _)
  have t5 : TO (tk5 A) k4 kt4 := TO.mono (A := tk4 A) t4 (endF_same _ _).ln
  obtain ⟨S6, mk6, e6, R6, t6, M6, f6⟩ := ro_begQ (k := k) (A := tk5 A) R5 h5 s5 t5 hp hle hmk hfg hl hk
  refine ⟨S6, mk6, k4, kt4, ?_, R6, t6, M6, by omega, fun j hj hj6 => by rw [f6 j hj, f5 j hj, f4 j hj, f3 j hj hj6, f2 j hj, f1 j hj, vaN _ _ hj]⟩
  have e4' : Int32.toNatClampNeg 4 = 4 := by decide
  simp only [M_X10_tick, M_X10_tick_0]
  rw [gG R.gs, ifin (i := 4) (x := 4) rfl (by decide), ifin (i := 4) (x := 4) rfl (by decide), lt_eq, e4', R.s4, nI_1, e1, Option.bind_some, e2, Option.bind_some, e3, Option.bind_some, e4, Option.bind_some, e5]
  exact e6
end REF
