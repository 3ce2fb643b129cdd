-- ===== quarantines =====
/-- the kills that may still bring a tenant into quarantine -/
def cntQ (A : AF) (fg : Nat → Nat) (ks : KL) (t : Nat) : Nat := ks.countP (fun x => decide (A.t < x.1 + A.st 3) && decide (fg t < x.1) && x.2.1 == t)
theorem nI_subI {a b : Nat} (ha : a < 2 ^ 30) (hb : b < 2 ^ 30) : (nI a - nI b).toInt = (a : Int) - b := by
  rw [Int32.toInt_sub, nI_toInt (by omega), nI_toInt (by omega)]
  exact Int.bmod_eq_of_le (by omega) (by omega)
theorem sub_lt {a b c : Nat} (ha : a < 2 ^ 30) (hb : b < 2 ^ 30) (hc : c < 2 ^ 30) : nI a - nI b < nI c ↔ a < c + b := by
  rw [Int32.lt_iff_toInt_lt, nI_subI ha hb, nI_toInt (by omega)]
  omega
def KO (A : AF) (ks : KL) : Prop := (ks.Pairwise (fun x y => x.1 ≤ y.1)) ∧ (∀ x, x ∈ ks → x.1 ≤ A.t ∧ x.2.1 < A.m ∧ x.2.2 < A.W)
theorem KO.so {A : AF} {ks : KL} (R__ : KO A ks) : ks.Pairwise (fun x y => x.1 ≤ y.1) := R__.1
theorem KO.le {A : AF} {ks : KL} (R__ : KO A ks) : ∀ x, x ∈ ks → x.1 ≤ A.t ∧ x.2.1 < A.m ∧ x.2.2 < A.W := R__.2
theorem KO.ofs {A : AF} {ks : KL} (so : ks.Pairwise (fun x y => x.1 ≤ y.1)) (le : ∀ x, x ∈ ks → x.1 ≤ A.t ∧ x.2.1 < A.m ∧ x.2.2 < A.W) : KO A ks := ⟨so, le⟩
section CLS
variable {F : VV} {A : AF} {fg : Nat → Nat} {ks : KL} {k : Nat}
theorem cq_counted (R : RelC F A fg ks) (w : AW A) (ko : KO A ks) (hfg : ∀ t, t < A.m → fg t ≤ A.t) (hl : ks.length ≤ 360) (hk : 20000 ≤ k) {t : Nat} (ht : t < A.m) : M_X0_countedKills k F (nI t) = some (nI (cntQ A fg ks t)) := by
  have h4 := w.t4
  have hse := w.se 3 (by decide)
  have hm := w.m12
  have hft := hfg t ht
  have hX : ∀ c, c < 2 ^ 30 → ((if nI A.t - nI (A.st 3) < nI (fg t) then nI (fg t) else nI A.t - nI (A.st 3)) < nI c ↔ (A.t < c + A.st 3 ∧ fg t < c)) := by
    intro c hc
    by_cases h : nI A.t - nI (A.st 3) < nI (fg t)
    · rw [if_pos h, nI_ltI (by omega) (by omega)]
      rw [sub_lt (by omega) (by omega) (by omega)] at h
      constructor
      · intro h1; exact ⟨by omega, h1⟩
      · intro h1; exact h1.2
    · rw [if_neg h, sub_lt (by omega) (by omega) hc]
      rw [sub_lt (by omega) (by omega) (by omega)] at h
      constructor
      · intro h1; exact ⟨h1, by omega⟩
      · intro h1; exact h1.1
  generalize hXX : (if nI A.t - nI (A.st 3) < nI (fg t) then nI (fg t) else nI A.t - nI (A.st 3)) = X at hX
  have key : ∀ i, i ≤ ks.length → ∀ (a fuel : Nat), i < fuel → M_X3_behind_10 k (klF F) fuel X (nI t) (nI a) (nI i - 1) = some (nI (a + (ks.take i).countP (fun x => decide (A.t < x.1 + A.st 3) && decide (fg t < x.1) && x.2.1 == t))) := by
    intro i
    induction i with
    | zero =>
      intro _ a fuel hf
      obtain ⟨f, rfl⟩ : ∃ f, fuel = f + 1 := ⟨fuel - 1, by omega⟩
      simp only [M_X3_behind_10]
      rw [if_pos (by decide), List.take_zero]
      rfl
    | succ i ih =>
      intro hi a fuel hf
      obtain ⟨f, rfl⟩ : ∃ f, fuel = f + 1 := ⟨fuel - 1, by omega⟩
      have hil : i < ks.length := by omega
      obtain ⟨hk1, hk2⟩ := R.k1 i hil
      have hmem := ko.le _ (List.getElem_mem hil)
      have e1 : M_X5_at k 360 (klF F 1) (nI i) = some (nI ks[i].1) := by rw [R_atI k (by omega) (by decide)]; exact congrArg some hk1
      have e2 : M_X5_at k 360 (klF F 2) (nI i) = some (nI ks[i].2.1) := by rw [R_atI k (by omega) (by decide)]; exact congrArg some hk2
      have hm1 : nI i + (-1) = nI i - 1 := by rw [Int32.sub_eq_add_neg]
      simp only [M_X3_behind_10]
      rw [nI_pred, if_neg (nI_pos (by omega)), e1, Option.bind_some, e2, Option.bind_some, List.take_succ_eq_append_getElem hil, List.countP_append]
      by_cases hc : A.t < ks[i].1 + A.st 3 ∧ fg t < ks[i].1
      · have hx := (hX ks[i].1 (by omega)).mpr hc
        rw [if_neg (Int32.not_le.mpr hx)]
        by_cases ht2 : ks[i].2.1 = t
        · rw [if_pos (by rw [ht2]), nI_1, hm1, ih (by omega) (a + 1) f (by omega)]
          congr 2
          simp [hc.1, hc.2, ht2]
          omega
        · have hne : ¬ nI ks[i].2.1 = nI t := fun e => ht2 ((nI_eq (by omega) (by omega)).mp e)
          rw [if_neg hne, hm1, ih (by omega) a f (by omega)]
          congr 2
          simp [ht2]
      · have hx : ¬ X < nI ks[i].1 := fun h => hc ((hX ks[i].1 (by omega)).mp h)
        rw [if_pos (Int32.not_lt.mp hx)]
        congr 2
        have h0 : (ks.take i).countP (fun x => decide (A.t < x.1 + A.st 3) && decide (fg t < x.1) && x.2.1 == t) = 0 := by
          rw [List.countP_eq_zero]
          intro x hxm hp
          rw [Bool.and_eq_true, Bool.and_eq_true, decide_eq_true_eq, decide_eq_true_eq] at hp
          have hso := ko.so
          rw [← List.take_append_drop i ks] at hso
          have hd : ks[i] ∈ ks.drop i := by rw [List.drop_eq_getElem_cons hil]; exact List.mem_cons_self
          have := (List.pairwise_append.mp hso).2.2 x hxm _ hd
          exact hc ⟨by omega, by omega⟩
        rw [h0]
        have h1 : (decide (A.t < ks[i].1 + A.st 3) && decide (fg t < ks[i].1) && ks[i].2.1 == t) = false := by
          rw [Bool.and_eq_false_iff]
          refine Or.inl ?_
          rw [Bool.and_eq_false_iff]
          by_cases h2 : A.t < ks[i].1 + A.st 3
          · exact Or.inr (decide_eq_false (fun h3 => hc ⟨h2, h3⟩))
          · exact Or.inl (decide_eq_false h2)
        rw [List.countP_cons, h1]
        simp
  simp only [M_X0_countedKills, M_X0_countedKills_0, M_X3_behind, M_X3_behind_0, lt_eq]
  rw [R.set k 3 (x := 3), Option.bind_some, R.s4, R.forg w k ht, Option.bind_some, hXX]
  have h0 : klF F 0 0 = nI ks.length := R.k0
  have := key ks.length (Nat.le_refl _) 0 k (by omega)
  rw [nI_0, Nat.zero_add, List.take_length] at this
  rw [h0, this]
  rfl
end CLS
section REF
variable {S : VV} {g : Nat} {A : AF} {mk : Nat → Nat} {ks : KL} {tk : Nat} {tkt : Nat → Nat} {k : Nat}
/-- a mark stands where the kills begin that are not forgiven -/
def MK (A : AF) (fg mk : Nat → Nat) (ks : KL) : Prop := ∀ t, t < A.m → mk t ≤ ks.length ∧ ∀ i (h : i < ks.length), mk t ≤ i ↔ fg t < ks[i].1
theorem rq_counted (R : RelM S g A mk ks tk tkt) (w : AW A) {fg : Nat → Nat} (hle : ∀ x, x ∈ ks → x.1 ≤ A.t ∧ x.2.1 < A.m ∧ x.2.2 < A.W) (hmk : MK A fg mk ks) (hl : ks.length ≤ 360) (hk : 20000 ≤ k) {t : Nat} (ht : t < A.m) : M_X10_counted k S (nI t) = some (nI (cntQ A fg ks t)) := by
  have h4 := w.t4
  have hse := w.se 3 (by decide)
  have hm := w.m12
  obtain ⟨hml, hmi⟩ := hmk t ht
  have key : ∀ m i, i + m = ks.length → mk t ≤ i → ∀ (a fuel : Nat), m < fuel → M_X10_counted_9 k S fuel (nI t) (nI a) (nI i) = some (nI (a + (ks.drop i).countP (fun x => decide (A.t < x.1 + A.st 3) && decide (fg t < x.1) && x.2.1 == t))) := by
    intro m
    induction m with
    | zero =>
      intro i hi hmi2 a fuel hf
      obtain ⟨f, rfl⟩ : ∃ f, fuel = f + 1 := ⟨fuel - 1, by omega⟩
      have h11 : S g (Int32.toNatClampNeg 11) = nI ks.length := R.s11
      simp only [M_X10_counted_9]
      rw [gG R.gs, ifin (i := 11) (x := 11) rfl (by decide), h11, if_pos (nI_le (by omega) (by omega)), List.drop_eq_nil_of_le (by omega)]
      rfl
    | succ m ih =>
      intro i hi hmi2 a fuel hf
      obtain ⟨f, rfl⟩ : ∃ f, fuel = f + 1 := ⟨fuel - 1, by omega⟩
      have hil : i < ks.length := by omega
      have h11 : S g (Int32.toNatClampNeg 11) = nI ks.length := R.s11
      have hs4 : S g (Int32.toNatClampNeg 4) = nI A.t := R.s4
      obtain ⟨hk1, hk2, hk3⟩ := R.ki i hil
      have hmem := hle _ (List.getElem_mem hil)
      have hfg := (hmi i hil).mp hmi2
      have ok : ∀ c, c < 3 → ∀ x : Int32, x = nI c → M_X10_ofKill k S (nI i) x = some (S g (612 + 3 * i + c)) := fun c hc x hx => by
        unfold M_X10_ofKill M_X10_ofKill_0
        have e : (612 : Int32) + 3 * nI i + x = nI (612 + 3 * i + c) := by
          rw [hx, show (612 : Int32) = nI 612 from rfl, show (3 : Int32) = nI 3 from rfl, nI_mul, nI_add, nI_add]
        rw [gG R.gs, ifin e (by omega), e, nI_clamp (by omega)]
      simp only [M_X10_counted_9]
      rw [gG R.gs, ifin (i := 11) (x := 11) rfl (by decide), h11, if_neg (nI_ge hil (by omega)), ok 0 (by decide) 0 rfl, Option.bind_some, gG R.gs, ifin (i := 4) (x := 4) rfl (by decide), R.told k 3 (x := 3), Option.bind_some, hs4, hk1, List.drop_eq_getElem_cons hil, List.countP_cons]
      have hlt := sub_lt (a := A.t) (b := A.st 3) (c := ks[i].1) (by omega) (by omega) (by omega)
      by_cases hc : A.t < ks[i].1 + A.st 3
      · rw [if_neg (Int32.not_le.mpr (hlt.mpr hc))]
        unfold M_X10_counted_46
        rw [if_neg (by decide), ok 1 (by decide) 1 rfl, Option.bind_some, hk2]
        simp only [lt_eq]
        by_cases ht2 : ks[i].2.1 = t
        · rw [if_pos (by rw [ht2]), nI_1, nI_1, ih (i + 1) (by omega) (by omega) (a + 1) f (by omega)]
          congr 2
          simp [hc, hfg, ht2]
          omega
        · have hne : ¬ nI ks[i].2.1 = nI t := fun e => ht2 ((nI_eq (by omega) (by omega)).mp e)
          rw [if_neg hne, Int32.add_zero, nI_1, ih (i + 1) (by omega) (by omega) a f (by omega)]
          congr 2
          simp [ht2]
      · rw [if_pos (Int32.not_lt.mp (fun h => hc (hlt.mp h)))]
        unfold M_X10_counted_46
        rw [if_pos rfl]
        simp only [lt_eq]
        rw [Int32.add_zero, nI_1, ih (i + 1) (by omega) (by omega) a f (by omega)]
        congr 2
        simp [hc]
  have h0 : (ks.take (mk t)).countP (fun x => decide (A.t < x.1 + A.st 3) && decide (fg t < x.1) && x.2.1 == t) = 0 := by
    rw [List.countP_eq_zero]
    intro x hx hp
    rw [Bool.and_eq_true, Bool.and_eq_true, decide_eq_true_eq, decide_eq_true_eq] at hp
    obtain ⟨i, hi, rfl⟩ := List.getElem_of_mem hx
    have hi2 : i < mk t ∧ i < ks.length := by rw [List.length_take] at hi; omega
    rw [List.getElem_take] at hp
    have := (hmi i hi2.2).mpr hp.1.2
    omega
  have e : cntQ A fg ks t = (ks.drop (mk t)).countP (fun x => decide (A.t < x.1 + A.st 3) && decide (fg t < x.1) && x.2.1 == t) := by
    unfold cntQ
    rw [← List.take_append_drop (mk t) ks, List.countP_append]
    rw [List.take_append_drop, h0, Nat.zero_add]
  have := key (ks.length - mk t) (mk t) (by omega) (Nat.le_refl _) 0 k (by omega)
  rw [nI_0, Nat.zero_add, ← e] at this
  simp only [M_X10_counted, M_X10_counted_0]
  rw [(R.ofT w k ht).2.2, Option.bind_some]
  exact this
end REF
