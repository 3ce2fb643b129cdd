-- ===== the codes of a query are run =====
def opr (c x y : Int32) : Option Int32 :=
  if c = -24 then (if (x = 0 ∨ x = 1) ∧ (y = 0 ∨ y = 1) then some (if x = 1 ∧ y = 1 then 1 else 0) else none)
  else if c = -22 then some (if x ≤ y then 0 else 1)
  else if c = -21 then some (if x = y then 1 else 0)
  else if c = -20 then some (if y ≤ x then 0 else 1)
  else (if (x = 0 ∨ x = 1) ∧ (y = 0 ∨ y = 1) then some (if x = 0 ∧ y = 0 then 0 else 1) else none)
theorem long_inj {x y : Int32} (h : x.toInt64 = y.toInt64) : x = y := by
  have h2 := congrArg Int64.toInt32 h
  rw [Int32.toInt32_toInt64, Int32.toInt32_toInt64] at h2
  exact h2
theorem r_opr {k : Nat} {c x y v : Int32} (h : opr c x y = some v) : M_X10_operate k c x.toInt64 y.toInt64 = some v.toInt64 := by
  unfold opr at h
  simp only [M_X10_operate, M_X10_operate_0]
  by_cases h24 : c = -24
  · rw [if_pos h24] at h
    rw [if_pos h24]
    by_cases hb : (x = 0 ∨ x = 1) ∧ (y = 0 ∨ y = 1)
    · rw [if_pos hb] at h
      injection h with h
      subst h
      obtain ⟨h1, h2⟩ := hb
      rcases h1 with rfl | rfl <;> rcases h2 with rfl | rfl <;> decide
    · rw [if_neg hb] at h
      cases h
  rw [if_neg h24] at h
  rw [if_neg h24]
  by_cases h22 : c = -22
  · rw [if_pos h22] at h
    rw [if_pos h22]
    injection h with h
    subst h
    by_cases hl : x ≤ y
    · rw [if_pos hl, if_pos ((lg_cmp_le _ _).mpr (Int32.toInt64_le.mpr hl))]
      decide
    · rw [if_neg hl, if_neg (fun q => hl (Int32.toInt64_le.mp ((lg_cmp_le _ _).mp q)))]
      decide
  rw [if_neg h22] at h
  rw [if_neg h22]
  by_cases h21 : c = -21
  · rw [if_pos h21] at h
    rw [if_pos h21]
    injection h with h
    subst h
    by_cases hl : x = y
    · rw [if_pos hl, if_pos ((lg_cmp_eq _ _).mpr (congrArg Int32.toInt64 hl))]
      decide
    · rw [if_neg hl, if_neg (fun q => hl (long_inj ((lg_cmp_eq _ _).mp q)))]
      decide
  rw [if_neg h21] at h
  rw [if_neg h21]
  by_cases h20 : c = -20
  · rw [if_pos h20] at h
    rw [if_pos h20]
    injection h with h
    subst h
    by_cases hl : y ≤ x
    · rw [if_pos hl, if_pos ((lg_cmp_ge _ _).mpr (Int32.toInt64_le.mpr hl))]
      decide
    · rw [if_neg hl, if_neg (fun q => hl (Int32.toInt64_le.mp ((lg_cmp_ge _ _).mp q)))]
      decide
  rw [if_neg h20] at h
  rw [if_neg h20]
  by_cases hb : (x = 0 ∨ x = 1) ∧ (y = 0 ∨ y = 1)
  · rw [if_pos hb] at h
    injection h with h
    subst h
    obtain ⟨h1, h2⟩ := hb
    rcases h1 with rfl | rfl <;> rcases h2 with rfl | rfl <;> decide
  · rw [if_neg hb] at h
    cases h
/-- one code, on a stack with its top ahead; p tells the properties of the request -/
def ev1 (p : Int32 → Option Int32) (c : Int32) (st : List Int32) : Option (List Int32) :=
  if c = -23 then (match st with
    | x :: t => if x = 0 then some (1 :: t) else if x = 1 then some (0 :: t) else none
    | [] => none)
  else if c ≤ -20 then (match st with
    | y :: x :: t => (opr c x y).bind fun v => some (v :: t)
    | _ => none)
  else if c < 0 then (p (-1 - c)).bind fun v => some (v :: st)
  else some (c :: st)
def evs (p : Int32 → Option Int32) : List Int32 → List Int32 → Option (List Int32)
  | [], st => some st
  | c :: l, st => (ev1 p c st).bind fun s => evs p l s
theorem evs_app (p : Int32 → Option Int32) : ∀ l l' st, evs p (l ++ l') st = (evs p l st).bind fun s => evs p l' s
  | [], l', st => rfl
  | c :: l, l', st => by
    show ((ev1 p c st).bind fun s => evs p (l ++ l') s) = (((ev1 p c st).bind fun s => evs p l s).bind fun s => evs p l' s)
    cases h : ev1 p c st with
    | none => rfl
    | some s => exact evs_app p l l' s
def STK (U : VV) (st : List Int32) : Prop := ∀ i, i < st.length → U 10 i = st.getD (st.length - 1 - i) 0
theorem STK.tail {U : VV} {x : Int32} {t : List Int32} (h : STK U (x :: t)) : STK U t := fun i hi => by
  have h2 : U 10 i = (x :: t).getD (t.length + 1 - 1 - i) 0 := h i (Nat.lt_succ_of_lt hi)
  rw [h2, show t.length + 1 - 1 - i = (t.length - 1 - i) + 1 by omega]
  rfl
theorem STK.top {U : VV} {x : Int32} {t : List Int32} (h : STK U (x :: t)) : U 10 t.length = x := by
  have h2 : U 10 t.length = (x :: t).getD (t.length + 1 - 1 - t.length) 0 := h t.length (Nat.lt_succ_self _)
  rw [h2, show t.length + 1 - 1 - t.length = 0 by omega]
  rfl
theorem STK.push {U : VV} {t : List Int32} (h : STK U t) (v : Int32) : STK (va_up U 10 (upd (U 10) t.length v)) (v :: t) := fun i hi => by
  have hi : i < t.length + 1 := hi
  show upd (U 10) t.length v i = (v :: t).getD (t.length + 1 - 1 - i) 0
  by_cases e : i = t.length
  · subst e
    rw [upd_self, show t.length + 1 - 1 - t.length = 0 by omega]
    rfl
  · rw [upd_ne _ _ e, h i (by omega), show t.length + 1 - 1 - i = (t.length - 1 - i) + 1 by omega]
    rfl
section RUN
variable {k r cc pc : Nat} {p : Int32 → Option Int32} {U : VV} {c : Int32}
theorem sim1 {st st' : List Int32} (h15 : U 0 15 = nI cc) (hc : pc < cc) (hcc : cc ≤ 200) (h9 : U 9 pc = c) (hP : ∀ x v, p x = some v → M_X10_property k U (nI r) x = some v) (sk : STK U st) (hst : st.length ≤ pc) (h : ev1 p c st = some st') :
    ∃ U', (∀ n, M_X10_holdsFor_4 k (n + 1) (nI r) (nI st.length) (nI pc) U = M_X10_holdsFor_4 k n (nI r) (nI st'.length) (nI (pc + 1)) U') ∧ STK U' st' ∧ st'.length ≤ pc + 1 ∧ ∀ j, j ≠ 10 → U' j = U j := by
  have push : ∀ v, (∀ n, M_X10_holdsFor_4 k (n + 1) (nI r) (nI st.length) (nI pc) U = M_X10_holdsFor_4 k n (nI r) (nI (st.length + 1)) (nI (pc + 1)) (va_up U 10 (upd (U 10) st.length v))) → st' = v :: st → ∃ U', (∀ n, M_X10_holdsFor_4 k (n + 1) (nI r) (nI st.length) (nI pc) U = M_X10_holdsFor_4 k n (nI r) (nI st'.length) (nI (pc + 1)) U') ∧ STK U' st' ∧ st'.length ≤ pc + 1 ∧ ∀ j, j ≠ 10 → U' j = U j := fun v hv e => by
    subst e
    exact ⟨va_up U 10 (upd (U 10) st.length v), hv, sk.push v, Nat.succ_le_succ hst, fun j hj => vaN _ _ hj⟩
  unfold ev1 at h
  by_cases h23 : c = -23
  · rw [if_pos h23] at h
    cases st with
    | nil => cases h
    | cons x t =>
      have hst : t.length + 1 ≤ pc := hst
      have ex := sk.top
      have hs := nI_pred t.length
      have go : ∀ v : Int32, (((1 : Int64) - x.toInt64).toInt32.toInt64 = (1 : Int64) - x.toInt64) → ((1 : Int64) - x.toInt64).toInt32 = v → st' = v :: t → ∃ U', (∀ n, M_X10_holdsFor_4 k (n + 1) (nI r) (nI (x :: t).length) (nI pc) U = M_X10_holdsFor_4 k n (nI r) (nI st'.length) (nI (pc + 1)) U') ∧ STK U' st' ∧ st'.length ≤ pc + 1 ∧ ∀ j, j ≠ 10 → U' j = U j := fun v h1 h2 e => by
        subst e
        refine ⟨va_up U 10 (upd (U 10) t.length v), fun n => ?_, sk.tail.push v, by show t.length + 1 ≤ pc + 1; omega, fun j hj => vaN _ _ hj⟩
        show M_X10_holdsFor_4 k (n + 1) (nI r) (nI (t.length + 1)) (nI pc) U = M_X10_holdsFor_4 k n (nI r) (nI (t.length + 1)) (nI (pc + 1)) (va_up U 10 (upd (U 10) t.length v))
        simp only [M_X10_holdsFor_4, lt_eq]
        rw [h15, if_neg (nI_ge hc (by omega)), if_pos (inb_nI (by omega) (by decide)), nI_clamp (show pc < 2 ^ 31 by omega), h9, if_pos h23, hs, if_pos (inb_nI (by omega) (by decide)), if_pos (inb_nI (by omega) (by decide)), nI_clamp (by omega), ex, if_pos h1, h2, nI_1]
      by_cases x0 : x = 0
      · subst x0
        have h : (if (0 : Int32) = 0 then some (1 :: t) else if (0 : Int32) = 1 then some (0 :: t) else none) = some st' := h
        rw [if_pos rfl] at h
        injection h with h
        exact go 1 (by decide) (by decide) h.symm
      · have h : (if x = 0 then some (1 :: t) else if x = 1 then some (0 :: t) else none) = some st' := h
        rw [if_neg x0] at h
        by_cases x1 : x = 1
        · subst x1
          rw [if_pos rfl] at h
          injection h with h
          exact go 0 (by decide) (by decide) h.symm
        · rw [if_neg x1] at h
          cases h
  rw [if_neg h23] at h
  by_cases h20 : c ≤ -20
  · rw [if_pos h20] at h
    cases st with
    | nil => cases h
    | cons y t2 =>
      cases t2 with
      | nil => cases h
      | cons x t =>
        have h : ((opr c x y).bind fun v => some (v :: t)) = some st' := h
        have hst : t.length + 2 ≤ pc := hst
        have ey : U 10 (t.length + 1) = y := sk.top
        have ex := sk.tail.top
        have hs1 : nI (t.length + 2) + (-1) = nI (t.length + 1) := nI_sub1 _
        have hs := nI_pred t.length
        cases ho : opr c x y with
        | none => rw [ho] at h; cases h
        | some v =>
          rw [ho, Option.bind_some] at h
          injection h with h
          subst h
          refine ⟨va_up U 10 (upd (U 10) t.length v), fun n => ?_, sk.tail.tail.push v, by show t.length + 1 ≤ pc + 1; omega, fun j hj => vaN _ _ hj⟩
          show M_X10_holdsFor_4 k (n + 1) (nI r) (nI (t.length + 2)) (nI pc) U = M_X10_holdsFor_4 k n (nI r) (nI (t.length + 1)) (nI (pc + 1)) (va_up U 10 (upd (U 10) t.length v))
          simp only [M_X10_holdsFor_4, lt_eq]
          rw [h15, if_neg (nI_ge hc (by omega)), if_pos (inb_nI (by omega) (by decide)), nI_clamp (show pc < 2 ^ 31 by omega), h9, if_neg h23, if_pos h20, hs1, hs, if_pos (inb_nI (by omega) (by decide)), if_pos (inb_nI (by omega) (by decide)), nI_clamp (show t.length < 2 ^ 31 by omega), nI_clamp (show t.length + 1 < 2 ^ 31 by omega), ex, ey, r_opr ho, Option.bind_some, if_pos (inb_nI (by omega) (by decide)), Int32.toInt32_toInt64, if_pos rfl, nI_1]
  rw [if_neg h20] at h
  by_cases h0 : c < 0
  · rw [if_pos h0] at h
    cases hp : p (-1 - c) with
    | none => rw [hp] at h; cases h
    | some v =>
      rw [hp, Option.bind_some] at h
      injection h with h
      refine push v (fun n => ?_) h.symm
      simp only [M_X10_holdsFor_4, lt_eq]
      rw [h15, if_neg (nI_ge hc (by omega)), if_pos (inb_nI (by omega) (by decide)), nI_clamp (show pc < 2 ^ 31 by omega), h9, if_neg h23, if_neg h20, if_pos h0, hP _ v hp, Option.bind_some, if_pos (inb_nI (by omega) (by decide)), Int32.toInt32_toInt64, if_pos rfl, nI_clamp (show st.length < 2 ^ 31 by omega), nI_1, nI_1]
  · rw [if_neg h0] at h
    injection h with h
    refine push c (fun n => ?_) h.symm
    simp only [M_X10_holdsFor_4, lt_eq]
    rw [h15, if_neg (nI_ge hc (by omega)), if_pos (inb_nI (by omega) (by decide)), nI_clamp (show pc < 2 ^ 31 by omega), h9, if_neg h23, if_neg h20, if_neg h0, if_pos (inb_nI (by omega) (by decide)), Int32.toInt32_toInt64, if_pos rfl, nI_clamp (show st.length < 2 ^ 31 by omega), nI_1, nI_1]
end RUN
theorem sim {k r cc : Nat} {p : Int32 → Option Int32} (hcc : cc ≤ 200) : ∀ (l : List Int32) (pc : Nat) (U : VV) (st st' : List Int32), U 0 15 = nI cc → pc + l.length ≤ cc → (∀ i, i < l.length → U 9 (pc + i) = l.getD i 0) → (∀ U', (∀ j, j ≠ 10 → U' j = U j) → ∀ x v, p x = some v → M_X10_property k U' (nI r) x = some v) → STK U st → st.length ≤ pc → evs p l st = some st' →
    ∃ U', (∀ n, M_X10_holdsFor_4 k (n + l.length) (nI r) (nI st.length) (nI pc) U = M_X10_holdsFor_4 k n (nI r) (nI st'.length) (nI (pc + l.length)) U') ∧ STK U' st' ∧ ∀ j, j ≠ 10 → U' j = U j
  | [], pc, U, st, st', _, _, _, _, sk, _, h => by
    have h : some st = some st' := h
    injection h with h
    subst h
    exact ⟨U, fun n => rfl, sk, fun _ _ => rfl⟩
  | c :: l, pc, U, st, st', h15, hlen, h9, hP, sk, hst, h => by
    have hlen : pc + (l.length + 1) ≤ cc := hlen
    have h : ((ev1 p c st).bind fun s => evs p l s) = some st' := h
    cases hv : ev1 p c st with
    | none => rw [hv] at h; cases h
    | some s1 =>
      rw [hv, Option.bind_some] at h
      obtain ⟨U1, e1, sk1, l1, f1⟩ := sim1 (k := k) (r := r) (c := c) (pc := pc) h15 (by omega) hcc (h9 0 (Nat.succ_pos _)) (hP U (fun _ _ => rfl)) sk hst hv
      obtain ⟨U2, e2, sk2, f2⟩ := sim hcc l (pc + 1) U1 s1 st' (by rw [f1 0 (by decide)]; exact h15) (by omega) (fun i hi => by
        rw [f1 9 (by decide), show pc + 1 + i = pc + (i + 1) by omega]
        exact h9 (i + 1) (Nat.succ_lt_succ hi)) (fun U' hU' => hP U' (fun j hj => (hU' j hj).trans (f1 j hj))) sk1 l1 h
      refine ⟨U2, fun n => ?_, sk2, fun j hj => (f2 j hj).trans (f1 j hj)⟩
      show M_X10_holdsFor_4 k (n + l.length + 1) (nI r) (nI st.length) (nI pc) U = M_X10_holdsFor_4 k n (nI r) (nI st'.length) (nI (pc + (l.length + 1))) U2
      rw [e1, e2, show pc + 1 + l.length = pc + (l.length + 1) by omega]
/-- a request is held against the codes -/
theorem r_holds {k r : Nat} {p : Int32 → Option Int32} {U : VV} {l : List Int32} {f : Bool} (hk : 20000 ≤ k) (cd : CDS U l) (hl : l.length ≤ 200) (hP : ∀ U', (∀ j, j ≠ 10 → U' j = U j) → ∀ x v, p x = some v → M_X10_property k U' (nI r) x = some v) (h : evs p l [] = some [b1 f]) : ∃ U', M_X10_holdsFor k U (nI r) = some (b1 f, U') ∧ ∀ j, j ≠ 10 → U' j = U j := by
  obtain ⟨U', e1, sk, f1⟩ := sim (k := k) (r := r) hl l 0 U [] [b1 f] cd.1 (by omega) (fun i hi => by rw [Nat.zero_add]; exact cd.2 i hi) hP (fun i hi => absurd hi (Nat.not_lt_zero i)) (Nat.le_refl 0) h
  refine ⟨U', ?_, f1⟩
  obtain ⟨m, hm⟩ : ∃ m, k = m + 1 + l.length := ⟨k - l.length - 1, by omega⟩
  have e2 : M_X10_holdsFor k U (nI r) = M_X10_holdsFor_4 k (m + 1 + l.length) (nI r) (nI 0) (nI 0) U := by rw [← hm]; rfl
  have e3 : M_X10_holdsFor_4 k (m + 1 + l.length) (nI r) (nI 0) (nI 0) U = M_X10_holdsFor_4 k (m + 1) (nI r) (nI 1) (nI (0 + l.length)) U' := e1 (m + 1)
  have et : U' 10 0 = b1 f := sk.top
  have e15 : U' 0 15 = nI l.length := by rw [f1 0 (by decide)]; exact cd.1
  rw [e2, e3, Nat.zero_add, M_X10_holdsFor_4_s, e15, if_pos (Int32.le_refl _), if_pos (show inb 0 200 = true by decide), show Int32.toNatClampNeg 0 = 0 from rfl, et]
  cases f
  · rw [if_neg (show ¬ lg_cmp (b1 false).toInt64 1 = 0 by decide)]
    rfl
  · rw [if_pos (show lg_cmp (b1 true).toInt64 1 = 0 by decide)]
    rfl
