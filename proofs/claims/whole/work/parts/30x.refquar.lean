-- ===== quarantines of the reference =====
section REF
variable {S : VV} {g : Nat} {A : AF} {mk : Nat → Nat} {ks : KL} {tk : Nat} {tkt : Nat → Nat} {k : Nat}
theorem RelM.putE (R : RelM S g A mk ks tk tkt) (w : AW A) {t : Nat} (ht : t < A.m) (v : Int32) : RelM (va_up S g (upd (S g) (36 + 3 * t + 1) v)) g (A.wE (up1 A.qe t v)) mk ks tk tkt := by
  have hW := w.w12
  have hm := w.m12
  have hn := w.n60
  have ne : ∀ i, i ≠ 36 + 3 * t + 1 → va_up S g (upd (S g) (36 + 3 * t + 1) v) g i = S g i := fun i hi => by rw [vaS, upd_ne _ _ hi]
  exact (RelM.ofs
      (gs := R.gs.up _)
      (s0 := (ne 0 (by omega)).trans R.s0)
      (s1 := (ne 1 (by omega)).trans R.s1)
      (s2 := (ne 2 (by omega)).trans R.s2)
      (s3 := (ne 3 (by omega)).trans R.s3)
      (s4 := (ne 4 (by omega)).trans R.s4)
      (se := fun i hi => (ne (5 + i) (by omega)).trans (R.se i hi))
      (s10 := (ne 10 (by omega)).trans R.s10)
      (s11 := (ne 11 (by omega)).trans R.s11)
      (wo := fun j hj => by
      have hj : j < A.W := hj
      exact ⟨(ne _ (by omega)).trans (R.wo j hj).1, (ne _ (by omega)).trans (R.wo j hj).2⟩)
      (te := fun x hx => by
      have hx : x < A.m := hx
      refine ⟨(ne _ (by omega)).trans (R.te x hx).1, ?_, (ne _ (by omega)).trans (R.te x hx).2.2⟩
      show _ = up1 A.qe t v x
      by_cases e : x = t
      · subst e; rw [vaS, upd_self, up1_self]
      · rw [ne _ (by omega), up1_ne _ _ e]; exact (R.te x hx).2.1)
      (rq := fun r' c' hr' hc' => (ne _ (by omega)).trans (R.rq r' c' hr' hc'))
      (ti := fun r' hr' => (ne _ (by omega)).trans (R.ti r' hr'))
      (ki := fun i hi => ⟨(ne _ (by omega)).trans (R.ki i hi).1, (ne _ (by omega)).trans (R.ki i hi).2.1, (ne _ (by omega)).trans (R.ki i hi).2.2⟩))
theorem RelM.putK (R : RelM S g A mk ks tk tkt) (w : AW A) {t : Nat} (ht : t < A.m) (v : Nat) : RelM (va_up S g (upd (S g) (36 + 3 * t + 2) (nI v))) g A (up1 mk t v) ks tk tkt := by
  have hW := w.w12
  have hm := w.m12
  have hn := w.n60
  have ne : ∀ i, i ≠ 36 + 3 * t + 2 → va_up S g (upd (S g) (36 + 3 * t + 2) (nI v)) g i = S g i := fun i hi => by rw [vaS, upd_ne _ _ hi]
  exact (RelM.ofs
      (gs := R.gs.up _)
      (s0 := (ne 0 (by omega)).trans R.s0)
      (s1 := (ne 1 (by omega)).trans R.s1)
      (s2 := (ne 2 (by omega)).trans R.s2)
      (s3 := (ne 3 (by omega)).trans R.s3)
      (s4 := (ne 4 (by omega)).trans R.s4)
      (se := fun i hi => (ne (5 + i) (by omega)).trans (R.se i hi))
      (s10 := (ne 10 (by omega)).trans R.s10)
      (s11 := (ne 11 (by omega)).trans R.s11)
      (wo := fun j hj => ⟨(ne _ (by omega)).trans (R.wo j hj).1, (ne _ (by omega)).trans (R.wo j hj).2⟩)
      (te := fun x hx => by
      refine ⟨(ne _ (by omega)).trans (R.te x hx).1, (ne _ (by omega)).trans (R.te x hx).2.1, ?_⟩
      by_cases e : x = t
      · subst e; rw [vaS, upd_self, up1_self]
      · rw [ne _ (by omega), up1_ne _ _ e]; exact (R.te x hx).2.2)
      (rq := fun r' c' hr' hc' => (ne _ (by omega)).trans (R.rq r' c' hr' hc'))
      (ti := fun r' hr' => (ne _ (by omega)).trans (R.ti r' hr'))
      (ki := fun i hi => ⟨(ne _ (by omega)).trans (R.ki i hi).1, (ne _ (by omega)).trans (R.ki i hi).2.1, (ne _ (by omega)).trans (R.ki i hi).2.2⟩))
theorem ro_endQ (R : RelM S g A mk ks tk tkt) (w : AW A) (hk : 20000 ≤ k) : ∃ S', M_X10_tick_28 k k 0 S = M_X10_tick_70 k k 0 S' ∧ RelM S' g (endF A A.m) mk ks tk tkt ∧ ∀ j, j ≠ g → S' j = S j := by
  have hm := w.m12
  have key : ∀ m i (S : VV), i + m = A.m → RelM S g (endF A i) mk ks tk tkt → ∀ fuel, m < fuel → ∃ S', M_X10_tick_28 k fuel (nI i) S = M_X10_tick_70 k k 0 S' ∧ RelM S' g (endF A A.m) mk ks tk tkt ∧ ∀ j, j ≠ g → S' j = S j := by
    intro m
    induction m with
    | zero =>
      intro i S hi R fuel hf
      obtain ⟨f, rfl⟩ : ∃ f, fuel = f + 1 := ⟨fuel - 1, by omega⟩
      have : i = A.m := by omega
      subst this
      refine ⟨S, ?_, R, fun _ _ => rfl⟩
      simp only [M_X10_tick_28]
      rw [R.tenants k, Option.bind_some, (endF_same A A.m).m, if_pos (nI_le (Nat.le_refl _) (by omega))]
    | succ m ih =>
      intro i S hi R fuel hf
      obtain ⟨f, rfl⟩ : ∃ f, fuel = f + 1 := ⟨fuel - 1, by omega⟩
      have sm := endF_same A i
      have w2 := w.sameE sm
      have him : i < A.m := by omega
      have him2 : i < (endF A i).m := by rw [sm.m]; exact him
      have e : endF A (i + 1) = if (endF A i).qe i = nI A.t then (endF A i).wE (up1 (endF A i).qe i (-1)) else endF A i := rfl
      have h4 : S g (Int32.toNatClampNeg 4) = nI A.t := by
        have := R.s4
        rw [sm.t] at this
        exact this
      have start : M_X10_tick_28 k (f + 1) (nI i) S = (if (endF A i).qe i = nI A.t then M_X10_tick_28 k f (nI (i + 1)) (va_up S g (upd (S g) (36 + 3 * i + 1) (-1))) else M_X10_tick_28 k f (nI (i + 1)) S) := by
        simp only [M_X10_tick_28]
        rw [R.tenants k, Option.bind_some, sm.m, if_neg (nI_ge him (by omega)), (R.ofT w2 k him2).2.1, Option.bind_some, gG R.gs, ifin (i := 4) (x := 4) rfl (by decide), h4, gG R.gs, tenAt k i 1 (x := 1) rfl, Option.bind_some, ifin rfl (by omega), nI_clamp (by omega), nI_1, lt_eq]
      by_cases hc : (endF A i).qe i = nI A.t
      · rw [if_pos hc] at e start
        rw [start]
        obtain ⟨S', e1, R1, f1⟩ := ih (i + 1) _ (by omega) (by rw [e]; exact R.putE w2 him2 (-1)) f (by omega)
        exact ⟨S', e1, R1, fun j hj => by rw [f1 j hj, vaN _ _ hj]⟩
      · rw [if_neg hc] at e start
        rw [start]
        exact ih (i + 1) _ (by omega) (by rw [e]; exact R) f (by omega)
  obtain ⟨S', e1, R1, f1⟩ := key A.m 0 S (by omega) R k (by omega)
  rw [nI_0] at e1
  exact ⟨S', e1, R1, f1⟩
theorem TO.mono {B : AF} (t : TO A tk tkt) (h : B.ln = A.ln) : TO B tk tkt := ⟨by rw [h]; exact t.so, by rw [h]; exact t.lt⟩
theorem refuse_TO (h : LI A) (t : TO A tk tkt) (x : Nat) : TO (refuseA A x) tk tkt := (refuse_inv h x (fun B => TO B tk tkt) t (fun B r _ _ _ tB => ⟨List.Pairwise.filter _ tB.so, fun y hy => tB.lt y (List.mem_filter.mp hy).1⟩)).2.2
/-- the reference's marks, as the class's times of forgiving go -/
def begM (A : AF) (fg : Nat → Nat) (ks : KL) (n : Nat) (mk : Nat → Nat) : Nat → Nat → Nat
  | 0 => mk
  | i + 1 => if begC (begF A fg ks i).1 (begF A fg ks i).2 ks i then up1 (begM A fg ks n mk i) i n else begM A fg ks n mk i
theorem ro_begQ {ks' : KL} {fg : Nat → Nat} (R : RelM S g A mk ks' tk tkt) (h : LI A) (s : SR A) (t : TO A tk tkt) (hp : ks'.Perm ks) (hle : ∀ x, x ∈ ks' → x.1 ≤ A.t ∧ x.2.1 < A.m ∧ x.2.2 < A.W) (hmk : MK A fg mk ks') (hfg : ∀ t, t < A.m → fg t ≤ A.t) (hl : ks'.length ≤ 360) (hk : 20000 ≤ k) :
    ∃ S' mk', M_X10_tick_70 k k 0 S = some S' ∧ RelM S' g (begF A fg ks A.m).1 mk' ks' tk tkt ∧ TO (begF A fg ks A.m).1 tk tkt ∧ MK (begF A fg ks A.m).1 (begF A fg ks A.m).2 mk' ks' ∧ ∀ j, j ≠ g → S' j = S j := by
  have hm := h.m12
  have key : ∀ m i (S : VV) (mk : Nat → Nat), i + m = A.m → RelM S g (begF A fg ks i).1 mk ks' tk tkt → TO (begF A fg ks i).1 tk tkt → MK (begF A fg ks i).1 (begF A fg ks i).2 mk ks' → ∀ fuel, m < fuel →
      ∃ S' mk', M_X10_tick_70 k fuel (nI i) S = some S' ∧ RelM S' g (begF A fg ks A.m).1 mk' ks' tk tkt ∧ TO (begF A fg ks A.m).1 tk tkt ∧ MK (begF A fg ks A.m).1 (begF A fg ks A.m).2 mk' ks' ∧ ∀ j, j ≠ g → S' j = S j := by
    intro m
    induction m with
    | zero =>
      intro i S mk hi R T M fuel hf
      obtain ⟨f, rfl⟩ : ∃ f, fuel = f + 1 := ⟨fuel - 1, by omega⟩
      have : i = A.m := by omega
      subst this
      refine ⟨S, mk, ?_, R, T, M, fun _ _ => rfl⟩
      simp only [M_X10_tick_70]
      rw [R.tenants k, Option.bind_some, (beg_inv h s hfg A.m).sm.m, if_pos (nI_le (Nat.le_refl _) (by omega))]
    | succ m ih =>
      intro i S mk hi R T M fuel hf
      obtain ⟨f, rfl⟩ : ∃ f, fuel = f + 1 := ⟨fuel - 1, by omega⟩
      have I := beg_inv h s hfg (ks := ks) i
      have w2 := I.li.toAW
      have him : i < A.m := by omega
      have him2 : i < (begF A fg ks i).1.m := by rw [I.sm.m]; exact him
      have hle2 : ∀ x, x ∈ ks' → x.1 ≤ (begF A fg ks i).1.t ∧ x.2.1 < (begF A fg ks i).1.m ∧ x.2.2 < (begF A fg ks i).1.W := by rw [I.sm.t, I.sm.m, I.sm.W]; exact hle
      have hcnt := rq_counted R w2 hle2 M hl hk him2
      have hpc : cntQ (begF A fg ks i).1 (begF A fg ks i).2 ks' i = cntQ (begF A fg ks i).1 (begF A fg ks i).2 ks i := hp.countP_eq _
      rw [hpc] at hcnt
      have hcl : cntQ (begF A fg ks i).1 (begF A fg ks i).2 ks i ≤ 360 := by rw [← hpc]; exact Nat.le_trans List.countP_le_length hl
      have hse := w2.se 2 (by decide)
      have e : begF A fg ks (i + 1) = if begC (begF A fg ks i).1 (begF A fg ks i).2 ks i then (begA (begF A fg ks i).1 i, up1 (begF A fg ks i).2 i A.t) else begF A fg ks i := rfl
      by_cases hc : begC (begF A fg ks i).1 (begF A fg ks i).2 ks i = true
      · rw [if_pos hc] at e
        have hc2 := hc
        unfold begC at hc2
        rw [Bool.and_eq_true, beq_iff_eq, Bool.not_eq_true', decide_eq_false_iff_not] at hc2
        have R1 := R.putE w2 him2 (nI ((begF A fg ks i).1.t + (begF A fg ks i).1.st 4))
        have h1 : LI ((begF A fg ks i).1.wE (up1 (begF A fg ks i).1.qe i (nI ((begF A fg ks i).1.t + (begF A fg ks i).1.st 4)))) := I.li.sameE (SameE.wE _ _)
        have s1 : SR ((begF A fg ks i).1.wE (up1 (begF A fg ks i).1.qe i (nI ((begF A fg ks i).1.t + (begF A fg ks i).1.st 4)))) := I.sr
        have R2 := R1.putK h1.toAW (t := i) him2 ks'.length
        obtain ⟨S3, e3, R3, f3⟩ := ro_refuse R2 h1 s1 hk i
        have T3 : TO (begA (begF A fg ks i).1 i) tk tkt := refuse_TO h1 (T.mono rfl) i
        have Bs := (begA_inv I.li I.sr i).2.2
        have M3 : MK (begA (begF A fg ks i).1 i) (up1 (begF A fg ks i).2 i A.t) (up1 mk i ks'.length) ks' := by
          intro t ht
          rw [Bs.m] at ht
          by_cases et : t = i
          · subst et
            rw [up1_self, up1_self]
            refine ⟨Nat.le_refl _, fun j hj => ?_⟩
            have := (hle _ (List.getElem_mem hj)).1
            constructor
            · intro h; omega
            · intro h; omega
          · rw [up1_ne _ _ et, up1_ne _ _ et]; exact M t ht
        obtain ⟨S', mk', e4, R4, T4, M4, f4⟩ := ih (i + 1) S3 (up1 mk i ks'.length) (by omega) (by rw [e]; exact R3) (by rw [e]; exact T3) (by rw [e]; exact M3) f (by omega)
        refine ⟨S', mk', ?_, R4, T4, M4, fun j hj => by rw [f4 j hj, f3 j hj, vaN _ _ hj, vaN _ _ hj]⟩
        have hlt : ¬ nI (cntQ (begF A fg ks i).1 (begF A fg ks i).2 ks i) < nI ((begF A fg ks i).1.st 2) := fun h => hc2.2 ((nI_ltI (by omega) (by omega)).mp h)
        have h4 : S g (Int32.toNatClampNeg 4) = nI (begF A fg ks i).1.t := R.s4
        have h11 : va_up S g (upd (S g) (36 + 3 * i + 1) (nI ((begF A fg ks i).1.t + (begF A fg ks i).1.st 4))) g (Int32.toNatClampNeg 11) = nI ks'.length := R1.s11
        have eshut : M_X10_shut k S (nI i) = some S3 := by
          simp only [M_X10_shut, M_X10_shut_0]
          rw [gG R.gs, tenAt k i 1 (x := 1) rfl, Option.bind_some, gG R.gs, ifin (i := 4) (x := 4) rfl (by decide), R.told k 4 (x := 4), Option.bind_some, ifin rfl (by omega), nI_clamp (by omega), h4, nI_add, lt_eq]
          rw [gG R1.gs, tenAt k i 2 (x := 2) rfl, Option.bind_some, gG R1.gs, ifin (i := 11) (x := 11) rfl (by decide), ifin rfl (by omega), nI_clamp (by omega), h11, lt_eq, e3]
          rfl
        simp only [M_X10_tick_70]
        rw [R.tenants k, Option.bind_some, if_neg (nI_ge (by rw [I.sm.m]; exact him) (by rw [I.sm.m]; omega)), R.isOpen w2 k him2, Option.bind_some, hc2.1, if_neg (by decide), hcnt, Option.bind_some, R.told k 2 (x := 2), Option.bind_some, if_neg hlt, eshut, Option.bind_some, nI_1]
        exact e4
      · rw [if_neg hc] at e
        obtain ⟨S', mk', e4, R4, T4, M4, f4⟩ := ih (i + 1) S mk (by omega) (by rw [e]; exact R) (by rw [e]; exact T) (by rw [e]; exact M) f (by omega)
        refine ⟨S', mk', ?_, R4, T4, M4, f4⟩
        simp only [M_X10_tick_70]
        rw [R.tenants k, Option.bind_some, if_neg (nI_ge (by rw [I.sm.m]; exact him) (by rw [I.sm.m]; omega)), R.isOpen w2 k him2, Option.bind_some]
        by_cases h1 : (begF A fg ks i).1.qe i = -1
        · have h2 : cntQ (begF A fg ks i).1 (begF A fg ks i).2 ks i < (begF A fg ks i).1.st 2 := by
            by_cases h2 : cntQ (begF A fg ks i).1 (begF A fg ks i).2 ks i < (begF A fg ks i).1.st 2
            · exact h2
            · exfalso
              apply hc
              unfold begC
              rw [h1, decide_eq_false h2]
              rfl
          rw [h1, if_neg (by decide), hcnt, Option.bind_some, R.told k 2 (x := 2), Option.bind_some, if_pos (nI_lt h2 (by omega)), nI_1]
          exact e4
        · rw [beq_false_of_ne h1, if_pos (by rfl), nI_1]
          exact e4
  obtain ⟨S', mk', e1, R1, T1, M1, f1⟩ := key A.m 0 S mk (by omega) R t hmk k (by omega)
  rw [nI_0] at e1
  exact ⟨S', mk', e1, R1, T1, M1, f1⟩
end REF
