-- ===== the class lets its workers work =====
def down (A : AF) (j : Nat) : AF := mkA A.W A.Z A.m A.n A.t (fun i => A.up i && !(i == j)) (fun i => if i = j then nI (A.t + A.st 0) else A.again i) A.st A.sh A.qe A.Q A.ln
def rest1 (A : AF) (r : Nat) : AF := A.wQ (setQ A.Q r 2 (A.Q r 2 - 1))
/-- the first of a worker is done for one tick -/
def wk (A : AF) (p : Nat × Nat) : AF := if 0 < A.Q p.1 2 - 1 then rest1 A p.1 else if A.Q p.1 3 = 0 then endL (rest1 A p.1) p.1 2 else down (rest1 A p.1) p.2
theorem wk_un (A : AF) (p : Nat × Nat) : wk A p = if 0 < A.Q p.1 2 - 1 then rest1 A p.1 else if A.Q p.1 3 = 0 then endL (rest1 A p.1) p.1 2 else down (rest1 A p.1) p.2 := rfl
def kills1 (A : AF) (p : Nat × Nat) : Bool := !decide (0 < A.Q p.1 2 - 1) && !decide (A.Q p.1 3 = 0)
section CLS
variable {F : VV} {A : AF} {fg : Nat → Nat} {ks : KL} {k : Nat}
theorem TK_putI (k : Nat) {r c : Nat} (hr : r < 12) (hc : c < 12) (S : Nat → Int32) (v : Int32) : M_X6_put k 12 12 144 S (nI r) (nI c) v = some (upd S (r * 12 + c) v) := by
  rw [TK_put, tPut_nI hr hc (by decide) (by decide)]
theorem cntK_snoc (ks : KL) (x : Nat × Nat × Nat) (t w : Nat) : cntK (ks ++ [x]) t w = cntK ks t w + (if x.2.1 = t ∧ x.2.2 = w then 1 else 0) := by
  unfold cntK
  rw [List.countP_append]
  congr 1
  by_cases h : x.2.1 = t ∧ x.2.2 = w
  · rw [if_pos h]; simp [h.1, h.2]
  · rw [if_neg h]
    simp only [List.countP_cons, List.countP_nil]
    rw [if_neg]
    rw [Bool.and_eq_true, beq_iff_eq, beq_iff_eq]
    exact h
theorem co_addKill (R : RelC F A fg ks) (w : AW A) {t j : Nat} (ht : t < 12) (hj : j < 12) (hl : ks.length < 360) : ∃ q, M_X3_add k (klF F) (nI t) (nI j) (nI A.t) = some q ∧ RelC (klP F q) A fg (ks ++ [(A.t, t, j)]) := by
  refine ⟨va_up (va_up (va_up (va_up (klF F) 1 (upd (klF F 1) ks.length (nI A.t))) 2 (upd (klF F 2) ks.length (nI t))) 0 (upd (klF F 0) 0 (nI (ks.length + 1)))) 3 (upd (klF F 3) (t * 12 + j) (klF F 3 (t * 12 + j) + 1)), ?_, ?_⟩
  · simp only [M_X3_add, M_X3_add_0, lt_eq]
    have h0 : klF F 0 0 = nI ks.length := R.k0
    rw [h0, R_putI k (i := ks.length) hl (by decide), Option.bind_some]
    have h1 : va_up (klF F) 1 (upd (klF F 1) ks.length (nI A.t)) 0 0 = nI ks.length := R.k0
    rw [h1, R_putI k (i := ks.length) hl (by decide), Option.bind_some]
    have hadd : ∀ X : Nat → Int32, M_X6_add k 12 12 144 X (nI t) (nI j) 1 = some (upd X (t * 12 + j) (X (t * 12 + j) + 1)) := fun X => by
      unfold M_X6_add M_X6_add_0
      rw [TK_atI k ht hj, Option.bind_some, TK_putI k ht hj]
      rfl
    have h2 : va_up (va_up (klF F) 1 (upd (klF F 1) ks.length (nI A.t))) 2 (upd (va_up (klF F) 1 (upd (klF F 1) ks.length (nI A.t)) 2) ks.length (nI t)) 0 0 = nI ks.length := R.k0
    rw [hadd, Option.bind_some, h2, nI_1]
    rfl
  · exact (RelC.ofs
      (s0 := R.s0)
      (s1 := R.s1)
      (s2 := R.s2)
      (s3 := R.s3)
      (s4 := R.s4)
      (s5 := R.s5)
      (s6 := R.s6)
      (se := R.se)
      (ag := R.ag)
      (te := R.te)
      (rq := R.rq)
      (li := R.li)
      (k0 := by
        show nI (ks.length + 1) = _
        rw [List.length_append]
        rfl)
      (k1 := fun i hi => by
        have hi : i < (ks ++ [(A.t, t, j)]).length := hi
        show upd (F 7) ks.length (nI A.t) i = nI (ks ++ [(A.t, t, j)])[i].1 ∧ upd (F 8) ks.length (nI t) i = nI (ks ++ [(A.t, t, j)])[i].2.1
        by_cases h : i < ks.length
        · rw [upd_ne _ _ (by omega), upd_ne _ _ (by omega), List.getElem_append_left h]
          exact R.k1 i h
        · have hi2 : i < ks.length + 1 := by simpa using hi
          have : i = ks.length := by omega
          subst this
          rw [upd_self, upd_self]
          simp)
      (kp := fun t' w' ht' hw' => by
        show upd (F 9) (t * 12 + j) (F 9 (t * 12 + j) + 1) (t' * 12 + w') = _
        rw [cntK_snoc]
        by_cases h : t = t' ∧ j = w'
        · obtain ⟨rfl, rfl⟩ := h
          rw [upd_self, R.kp t j ht hj, if_pos ⟨rfl, rfl⟩, nI_1]
        · rw [upd_ne _ _ (by omega), if_neg h, R.kp t' w' ht' hw']
          rfl))
theorem co_down (R : RelC F A fg ks) (w : AW A) {j : Nat} (hj : j < A.W) : ∃ F', M_X0_takeDown k F (nI j) = some F' ∧ RelC F' (down A j) fg ks := by
  have hW := w.w12
  refine ⟨va_up (va_up F 0 (upd (F 0) 5 (nI (msk (fun i => A.up i && !(i == j)) A.W)))) 2 (upd (F 2) j (nI (A.t + A.st 0))), ?_, ?_⟩
  · simp only [M_X0_takeDown, M_X0_takeDown_0, lt_eq]
    rw [R.s5, msk_clr hj (by omega)]
    have h1 : M_X5_at k 5 (va_up F 0 (upd (F 0) 5 (nI (msk (fun i => A.up i && !(i == j)) A.W))) 1) 0 = some (nI (A.st 0)) := R.set k 0 (x := 0)
    have h2 : va_up F 0 (upd (F 0) 5 (nI (msk (fun i => A.up i && !(i == j)) A.W))) 0 4 = nI A.t := R.s4
    rw [h1, Option.bind_some, h2, nI_add, R_putI k (i := j) (by omega) (by decide), Option.bind_some]
    rfl
  · exact (RelC.ofs
      (s0 := R.s0)
      (s1 := R.s1)
      (s2 := R.s2)
      (s3 := R.s3)
      (s4 := R.s4)
      (s5 := rfl)
      (s6 := R.s6)
      (se := R.se)
      (ag := fun i hi => by
        show upd (F 2) j (nI (A.t + A.st 0)) i = if i = j then nI (A.t + A.st 0) else A.again i
        by_cases h : i = j
        · subst h; rw [upd_self, if_pos rfl]
        · rw [upd_ne _ _ h, if_neg h]; exact R.ag i hi)
      (te := R.te)
      (rq := R.rq)
      (li := R.li)
      (k0 := R.k0)
      (k1 := R.k1)
      (kp := R.kp))
theorem co_rest1 (R : RelC F A fg ks) (w : AW A) {r : Nat} (hr : r < A.n) : ∃ q, M_X6_add k 60 8 480 (F 4) (nI r) 2 (-1) = some q ∧ RelC (va_up F 4 q) (rest1 A r) fg ks := by
  have := w.n60
  refine ⟨_, ?_, R.putQ (r := r) (c := 2) (by decide) (A.Q r 2 - 1)⟩
  unfold M_X6_add M_X6_add_0
  rw [R.q w k hr 2, Option.bind_some, TQ_putI k (r := r) (c := 2) (x := 2) (by omega) (by decide) rfl]
  rw [Int32.sub_eq_add_neg]
  rfl
theorem rest1_AW (w : AW A) (r : Nat) : AW (rest1 A r) := w.sq
theorem rest1_q (A : AF) (r x : Nat) {c : Nat} (h : c ≠ 2) : (rest1 A r).Q x c = A.Q x c := setQ_ne (fun e => h e.2)
theorem rest1_4 (A : AF) (r x : Nat) : (rest1 A r).Q x 4 = A.Q x 4 := rest1_q A r x (by decide)
theorem rest1_6 (A : AF) (r x : Nat) : (rest1 A r).Q x 6 = A.Q x 6 := rest1_q A r x (by decide)
theorem rest1_2 (A : AF) (r : Nat) : (rest1 A r).Q r 2 = A.Q r 2 - 1 := setQ_self _ _ _ _
theorem endA_AW (w : AW A) (r : Nat) (s : Int32) : AW (endA A r s) := w.wQ (fun x _ => endA_c A r s x (by decide) (by decide) (by decide))
theorem down_AW (w : AW A) (j : Nat) : AW (down A j) := ⟨w.w2, w.w12, w.z1, w.zw, w.m12, w.n60, w.t4, w.se, w.sh, w.ten⟩
theorem wk_AW (w : AW A) (p : Nat × Nat) : AW (wk A p) := by
  unfold wk
  split
  · exact rest1_AW w _
  · split
    · exact (endA_AW (rest1_AW w _) _ _).wL _
    · exact down_AW (rest1_AW w _) _
theorem wk_ln (A : AF) (p : Nat × Nat) : (wk A p).ln = A.ln ∨ (wk A p).ln = A.ln.filter (fun x => x != p.1) := by
  unfold wk
  split
  · exact Or.inl rfl
  · split
    · exact Or.inr rfl
    · exact Or.inl rfl
theorem wk_n (A : AF) (p : Nat × Nat) : (wk A p).n = A.n ∧ (wk A p).W = A.W ∧ (wk A p).m = A.m ∧ (wk A p).t = A.t ∧ (wk A p).st = A.st ∧ (wk A p).sh = A.sh ∧ (wk A p).qe = A.qe := by
  unfold wk
  split
  · exact ⟨rfl, rfl, rfl, rfl, rfl, rfl, rfl⟩
  · split <;> exact ⟨rfl, rfl, rfl, rfl, rfl, rfl, rfl⟩
theorem wk_AL (l : AL A) (p : Nat × Nat) : AL (wk A p) := by
  have hn := (wk_n A p).1
  rcases wk_ln A p with e | e
  · exact ⟨by rw [e]; exact l.nd, fun x hx => by rw [hn]; rw [e] at hx; exact l.me x hx⟩
  · exact ⟨by rw [e]; exact nodup_filter l.nd _, fun x hx => by rw [hn]; rw [e] at hx; exact l.me x (List.mem_filter.mp hx).1⟩
theorem wk_ne (A : AF) (p : Nat × Nat) {x : Nat} (c : Nat) (h : x ≠ p.1) : (wk A p).Q x c = A.Q x c := by
  unfold wk
  split
  · exact setQ_ne (fun e => h e.1)
  · split
    · show (endA (rest1 A p.1) p.1 2).Q x c = _
      rw [endA_ne _ _ c h]
      exact setQ_ne (fun e => h e.1)
    · exact setQ_ne (fun e => h e.1)
/-- the firsts of the workers, in the order of the line -/
def firsts (Q : Nat → Nat → Int32) : (Nat → Bool) → List Nat → List (Nat × Nat)
  | _, [] => []
  | B, r :: l => if Q r 6 = -1 then firsts Q B l else if B (Q r 6).toNatClampNeg then firsts Q B l else (r, (Q r 6).toNatClampNeg) :: firsts Q (fun i => i == (Q r 6).toNatClampNeg || B i) l
theorem firsts_ext {Q Q' : Nat → Nat → Int32} : ∀ {l : List Nat} {B : Nat → Bool}, (∀ r, r ∈ l → Q r 6 = Q' r 6) → firsts Q B l = firsts Q' B l
  | [], _, _ => rfl
  | r :: l, B, h => by
    have hl := fun B => firsts_ext (Q := Q) (Q' := Q') (l := l) (B := B) (fun x hx => h x (List.mem_cons_of_mem _ hx))
    unfold firsts
    rw [h r List.mem_cons_self, hl, hl]
/-- the kills that the firsts make, one behind the other -/
def wkKills (A : AF) : List (Nat × Nat) → KL
  | [] => []
  | p :: l => if kills1 A p then (A.t, tnOf A p.1, p.2) :: wkKills A l else wkKills A l
theorem wkKills_ext {A B : AF} (ht : A.t = B.t) : ∀ {l : List (Nat × Nat)}, (∀ p, p ∈ l → ∀ c, A.Q p.1 c = B.Q p.1 c) → wkKills A l = wkKills B l
  | [], _ => rfl
  | p :: l, h => by
    have ih := wkKills_ext ht (l := l) (fun x hx => h x (List.mem_cons_of_mem _ hx))
    have h0 := h p List.mem_cons_self
    unfold wkKills kills1 tnOf
    rw [h0, h0, h0, ih, ht]
theorem firsts_mem {Q : Nat → Nat → Int32} : ∀ {l : List Nat} {B : Nat → Bool} {p : Nat × Nat}, p ∈ firsts Q B l → p.1 ∈ l
  | [], _, p, h => by cases h
  | r :: l, B, p, h => by
    unfold firsts at h
    split at h
    · exact List.mem_cons_of_mem _ (firsts_mem h)
    · split at h
      · exact List.mem_cons_of_mem _ (firsts_mem h)
      · rcases List.mem_cons.mp h with e | h
        · rw [e]; exact List.mem_cons_self
        · exact List.mem_cons_of_mem _ (firsts_mem h)
theorem R_ln_mid' (R : RelC F A fg ks) (w : AW A) (l : AL A) {kept rest : List Nat} {r : Nat} (hl : A.ln = kept ++ r :: rest) : M_X5_at k 60 (F 5) (nI kept.length) = some (nI r) := by
  have hi : kept.length < A.ln.length := by rw [hl, List.length_append, List.length_cons]; omega
  rw [R.ln w l k hi, hl, getD_mid]
theorem co_leaveMid (R : RelC F A fg ks) (w : AW A) (l : AL A) {kept rest : List Nat} {r : Nat} (hl : A.ln = kept ++ r :: rest) : ∃ F', M_X0_leaveLine k F (nI kept.length) = some F' ∧ RelC F' (A.wL (A.ln.filter (fun x => x != r))) fg ks := by
  have hi : kept.length < A.ln.length := by rw [hl, List.length_append, List.length_cons]; omega
  obtain ⟨F1, e1, R1⟩ := co_leave (k := k) R w l hi
  have hnd : (kept ++ r :: rest).Nodup := hl ▸ l.nd
  have he : A.ln.eraseIdx kept.length = A.ln.filter (fun x => x != r) := by rw [hl, eraseIdx_mid, filter_ne hnd]
  rw [he] at R1
  exact ⟨F1, e1, R1⟩
theorem work_loop (hk : 20000 ≤ k) (x1 : Int32) : ∀ (rest : List Nat) (A : AF) (F : VV) (ks : KL) (kept : List Nat) (B : Nat → Bool) (fuel : Nat), A.ln = kept ++ rest → rest.length < fuel → RelC F A fg ks → AW A → AL A →
    (∀ r, r ∈ rest → A.Q r 6 = -1 ∨ ∃ j, j < A.W ∧ A.Q r 6 = nI j) → ks.length + (firsts A.Q B rest).length ≤ 360 →
    ∃ F', M_X0_work_15 k fuel x1 (nI (msk B A.W)) (nI kept.length) (nI rest.length) F = some (x1 &&& (nI (msk ((firsts A.Q B rest).foldl wk A).up A.W) ^^^ (-1 : Int32)), F') ∧ RelC F' ((firsts A.Q B rest).foldl wk A) fg (ks ++ wkKills A (firsts A.Q B rest)) := by
  intro rest
  induction rest with
  | nil =>
    intro A F ks kept B fuel hl hf R w l hat hks
    obtain ⟨f, rfl⟩ : ∃ f, fuel = f + 1 := ⟨fuel - 1, by simp at hf; omega⟩
    refine ⟨F, ?_, by simpa [firsts, wkKills] using R⟩
    simp only [M_X0_work_15]
    rw [if_pos (by decide), R.s5]
    rfl
  | cons r rest ih =>
    intro A F ks kept B fuel hl hf R w l hat hks
    have hf : rest.length + 1 < fuel := by simpa using hf
    obtain ⟨f, rfl⟩ : ∃ f, fuel = f + 1 := ⟨fuel - 1, by omega⟩
    have hW := w.w12
    have hlen := l.len w
    have hrl : rest.length < 60 := by rw [hl] at hlen; simp at hlen; omega
    have hmem : r ∈ A.ln := by rw [hl]; simp
    have hrn := l.me r hmem
    have hl3 : A.ln = (kept ++ [r]) ++ rest := by rw [hl]; simp
    have hnd : (kept ++ r :: rest).Nodup := hl ▸ l.nd
    have hkl : (kept ++ [r]).length = kept.length + 1 := by simp
    have hrr : ∀ x, x ∈ rest → x ≠ r := fun x hx e => by
      subst e
      exact (List.nodup_cons.mp (List.nodup_append.mp hnd).2.1).1 hx
    have htn := w.tn hrn
    have hm := w.m12
    have pass : firsts A.Q B (r :: rest) = firsts A.Q B rest → M_X0_work_15 k (f + 1) x1 (nI (msk B A.W)) (nI kept.length) (nI (r :: rest).length) F = M_X0_work_15 k f x1 (nI (msk B A.W)) (nI (kept.length + 1)) (nI rest.length) F →
        ∃ F', M_X0_work_15 k (f + 1) x1 (nI (msk B A.W)) (nI kept.length) (nI (r :: rest).length) F = some (x1 &&& (nI (msk ((firsts A.Q B (r :: rest)).foldl wk A).up A.W) ^^^ (-1 : Int32)), F') ∧ RelC F' ((firsts A.Q B (r :: rest)).foldl wk A) fg (ks ++ wkKills A (firsts A.Q B (r :: rest))) := by
      intro hfs hM
      obtain ⟨F', e, R'⟩ := ih A F ks (kept ++ [r]) B f hl3 (by omega) R w l (fun x hx => hat x (List.mem_cons_of_mem _ hx)) (by rw [hfs] at hks; exact hks)
      rw [hfs, hM]
      rw [hkl] at e
      exact ⟨F', e, R'⟩
    have step0 : ∀ X, M_X0_work_15 k (f + 1) x1 (nI (msk B A.W)) (nI kept.length) (nI (r :: rest).length) F = X ↔ (if A.Q r 6 = -1 then (M_X0_work_63 k (M_X0_work_15 k f) x1 (nI (msk B A.W)) (nI kept.length) (nI (rest.length + 1)) (nI r) (A.Q r 6) 0 F) else ((M_X0_has k (nI (msk B A.W)) (A.Q r 6)).bind fun q15 => if q15 = 0 then (M_X0_work_63 k (M_X0_work_15 k f) x1 (nI (msk B A.W)) (nI kept.length) (nI (rest.length + 1)) (nI r) (A.Q r 6) 1 F) else (M_X0_work_63 k (M_X0_work_15 k f) x1 (nI (msk B A.W)) (nI kept.length) (nI (rest.length + 1)) (nI r) (A.Q r 6) 0 F))) = X := by
      intro X
      simp only [M_X0_work_15]
      rw [List.length_cons, if_neg (nI_nle (by omega) (by omega)), R_ln_mid' R w l hl, Option.bind_some, R.q w k hrn 6, Option.bind_some]
    have zero : M_X0_work_63 k (M_X0_work_15 k f) x1 (nI (msk B A.W)) (nI kept.length) (nI (rest.length + 1)) (nI r) (A.Q r 6) 0 F = M_X0_work_15 k f x1 (nI (msk B A.W)) (nI (kept.length + 1)) (nI rest.length) F := by
      unfold M_X0_work_63 M_X0_work_88
      rw [if_pos rfl, if_pos rfl, nI_1, nI_sub1]
    by_cases h6 : A.Q r 6 = -1
    · exact pass (by rw [firsts, if_pos h6]) ((step0 _).mpr (by rw [if_pos h6]; exact zero))
    · obtain ⟨j, hj, hj6⟩ : ∃ j, j < A.W ∧ A.Q r 6 = nI j := by
        rcases hat r List.mem_cons_self with h | h
        · exact absurd h h6
        · exact h
      have hjc : (A.Q r 6).toNatClampNeg = j := by rw [hj6, nI_clamp (by omega)]
      have hhas : M_X0_has k (nI (msk B A.W)) (A.Q r 6) = some (if B j then 1 else 0) := by
        rw [hj6, has0 k (w.up31 B) (by omega), msk_bit, decide_eq_true hj, Bool.true_and]
      by_cases hB : B j = true
      · exact pass (by rw [firsts, if_neg h6, hjc, if_pos hB]) ((step0 _).mpr (by
          rw [if_neg h6, hhas, hB, if_pos rfl, Option.bind_some, if_neg (by decide)]
          exact zero))
      · have hB : B j = false := by simpa using hB
        have hfs : firsts A.Q B (r :: rest) = (r, j) :: firsts A.Q (fun i => i == j || B i) rest := by
          rw [firsts, if_neg h6, hjc, if_neg (by rw [hB]; decide)]
        rw [hfs] at hks ⊢
        have hks : ks.length + ((firsts A.Q (fun i => i == j || B i) rest).length + 1) ≤ 360 := hks
        obtain ⟨q, eq, R1⟩ := co_rest1 (k := k) R w hrn
        have w1 := rest1_AW w r
        have l1 : AL (rest1 A r) := ⟨l.nd, l.me⟩
        have hq2 : M_X6_at k 60 8 480 (va_up F 4 q 4) (nI r) 2 = some (A.Q r 2 - 1) := by
          have := R1.q w1 k (r := r) hrn 2 (x := 2)
          rw [rest1_2] at this
          exact this
        have hbusy : nI (msk B A.W) ||| (1 : Int32) <<< (A.Q r 6 &&& 31) = nI (msk (fun i => i == j || B i) A.W) := by
          rw [hj6, bit_nI (by omega), or_nI, msk_set hj]
        have step1 : ∀ X, M_X0_work_15 k (f + 1) x1 (nI (msk B A.W)) (nI kept.length) (nI (r :: rest).length) F = X ↔ (if 0 < A.Q r 2 - 1 then (M_X0_work_15 k f x1 (nI (msk (fun i => i == j || B i) A.W)) (nI (kept.length + 1)) (nI rest.length) (va_up F 4 q)) else ((M_X0_finish k (va_up F 4 q) (nI r) (nI j)).bind fun q4 => if q4.1 = 0 then (M_X0_work_15 k f x1 (nI (msk (fun i => i == j || B i) A.W)) (nI (kept.length + 1)) (nI rest.length) q4.2) else ((M_X0_leaveLine k q4.2 (nI kept.length)).bind fun q6 => M_X0_work_15 k f x1 (nI (msk (fun i => i == j || B i) A.W)) (nI kept.length) (nI rest.length) q6))) = X := by
          intro X
          rw [step0, if_neg h6, hhas, hB, if_neg (by decide), Option.bind_some, if_pos rfl]
          unfold M_X0_work_63 M_X0_work_88
          rw [if_neg (by decide)]
          simp only [lt_eq]
          rw [hbusy, eq, Option.bind_some, if_neg (by decide), hq2, Option.bind_some, nI_1, nI_sub1, hj6]
        have hrest : ∀ x, x ∈ rest → ∀ c, (wk A (r, j)).Q x c = A.Q x c := fun x hx c => wk_ne A (r, j) c (hrr x hx)
        have hwn := wk_n A (r, j)
        have hfx : firsts (wk A (r, j)).Q (fun i => i == j || B i) rest = firsts A.Q (fun i => i == j || B i) rest := firsts_ext (fun x hx => hrest x hx 6)
        have hkx : wkKills (wk A (r, j)) (firsts A.Q (fun i => i == j || B i) rest) = wkKills A (firsts A.Q (fun i => i == j || B i) rest) := wkKills_ext hwn.2.2.2.1 (fun p hp c => hrest _ (firsts_mem hp) c)
        have go : ∀ (F1 : VV) (ks1 : KL) (kept1 : List Nat), RelC F1 (wk A (r, j)) fg ks1 → (wk A (r, j)).ln = kept1 ++ rest → ks1 ++ wkKills A (firsts A.Q (fun i => i == j || B i) rest) = ks ++ wkKills A ((r, j) :: firsts A.Q (fun i => i == j || B i) rest) → ks1.length + (firsts A.Q (fun i => i == j || B i) rest).length ≤ 360 →
            M_X0_work_15 k (f + 1) x1 (nI (msk B A.W)) (nI kept.length) (nI (r :: rest).length) F = M_X0_work_15 k f x1 (nI (msk (fun i => i == j || B i) A.W)) (nI kept1.length) (nI rest.length) F1 →
            ∃ F', M_X0_work_15 k (f + 1) x1 (nI (msk B A.W)) (nI kept.length) (nI (r :: rest).length) F = some (x1 &&& (nI (msk (((r, j) :: firsts A.Q (fun i => i == j || B i) rest).foldl wk A).up A.W) ^^^ (-1 : Int32)), F') ∧ RelC F' (((r, j) :: firsts A.Q (fun i => i == j || B i) rest).foldl wk A) fg (ks ++ wkKills A ((r, j) :: firsts A.Q (fun i => i == j || B i) rest)) := by
          intro F1 ks1 kept1 R2 hl2 hkk hk60 hM
          have := ih (wk A (r, j)) F1 ks1 kept1 (fun i => i == j || B i) f hl2 (by omega) R2 (wk_AW w _) (wk_AL l _) (fun x hx => by
            rw [hrest x hx 6, hwn.2.1]; exact hat x (List.mem_cons_of_mem _ hx)) (by rw [hfx]; exact hk60)
          rw [hfx, hkx, hkk, hwn.2.1] at this
          rw [hM]
          exact this
        by_cases hp : 0 < A.Q r 2 - 1
        · have hwk : wk A (r, j) = rest1 A r := if_pos hp
          refine go (va_up F 4 q) ks (kept ++ [r]) (by rw [hwk]; exact R1) (by rw [hwk]; exact hl3) ?_ (by omega) ?_
          · rw [wkKills, if_neg (by simp [kills1, hp])]
          · rw [hkl]; exact (step1 _).mpr (by rw [if_pos hp])
        · have h3r : M_X6_at k 60 8 480 (va_up F 4 q 4) (nI r) 3 = some (A.Q r 3) := by
            have := R1.q w1 k (r := r) hrn 3 (x := 3)
            rw [rest1_q A r r (by decide)] at this
            exact this
          by_cases hp3 : A.Q r 3 = 0
          · have hwk : wk A (r, j) = endL (rest1 A r) r 2 := by unfold wk; rw [if_neg hp, if_pos hp3]
            obtain ⟨F2, e2, R2⟩ := co_end (k := k) R1 w1 (r := r) hrn 2
            obtain ⟨F3, e3, R3⟩ := co_leaveMid (k := k) (A := endA (rest1 A r) r 2) R2 (endA_AW w1 r 2) ⟨l.nd, l.me⟩ (kept := kept) (rest := rest) (r := r) hl
            refine go F3 ks kept (by rw [hwk]; exact R3) (by rw [hwk]; show A.ln.filter (fun x => x != r) = _; rw [hl, filter_ne hnd]) ?_ (by omega) ?_
            · rw [wkKills, if_neg (by simp [kills1, hp3])]
            · refine (step1 _).mpr ?_
              simp only [M_X0_finish, M_X0_finish_0]
              rw [if_neg hp, h3r, Option.bind_some, if_pos hp3, e2, Option.bind_some, Option.bind_some, if_neg (show ¬ (1 : Int32) = 0 by decide), e3, Option.bind_some]
          · have hwk : wk A (r, j) = down (rest1 A r) j := by unfold wk; rw [if_neg hp, if_neg hp3]
            have h0r : M_X6_at k 60 8 480 (va_up F 4 q 4) (nI r) 0 = some (nI (tnOf A r)) := by
              have := R1.q w1 k (r := r) hrn 0 (x := 0)
              rw [rest1_q A r r (by decide), htn.2] at this
              exact this
            obtain ⟨q2, e2, R2⟩ := co_addKill (k := k) R1 w1 (t := tnOf A r) (j := j) (by omega) (by omega) (by omega)
            obtain ⟨F3, e3, R3⟩ := co_down (k := k) R2 w1 (j := j) hj
            refine go F3 (ks ++ [(A.t, tnOf A r, j)]) (kept ++ [r]) (by rw [hwk]; exact R3) (by rw [hwk]; exact hl3) ?_ (by rw [List.length_append]; simp; omega) ?_
            · rw [wkKills, if_pos (by simp [kills1, hp, hp3])]
              simp
            · rw [hkl]
              refine (step1 _).mpr ?_
              have h4 : va_up F 4 q 0 4 = nI A.t := R1.s4
              have e2' : M_X3_add k (klF (va_up F 4 q)) (nI (tnOf A r)) (nI j) (nI A.t) = some q2 := e2
              simp only [M_X0_finish, M_X0_finish_0, lt_eq]
              rw [if_neg hp, h3r, Option.bind_some, if_neg hp3, h0r, Option.bind_some, h4, e2', Option.bind_some, e3, Option.bind_some, Option.bind_some, if_pos rfl]
end CLS
