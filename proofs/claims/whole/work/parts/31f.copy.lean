-- ===== copies =====
theorem cpy_lt (T S : Nat → Int32) {n j : Nat} (h : j < n) : va_cpy T S 0 0 n j = T j := by
  unfold va_cpy
  rw [if_pos ⟨Nat.zero_le _, by omega⟩, Nat.sub_zero, Nat.zero_add]
theorem R_copy (k : Nat) {n : Nat} (hn : n < 2 ^ 31) (S T : Nat → Int32) : M_X5_copyFrom k n n S T = some (va_cpy T S 0 0 n) := by
  have h0 : Int32.toNatClampNeg 0 = 0 := by decide
  have hc : cpOK 0 0 (nI n) n n = true := by
    unfold cpOK
    rw [decide_eq_false (nI_pos hn), h0, nI_clamp hn, decide_eq_true (show 0 + n ≤ n by omega), show decide ((0 : Int32) < 0) = false by decide]
    rfl
  simp only [M_X5_copyFrom, M_X5_copyFrom_0, lt_eq]
  rw [show (if nI n < nI n then nI n else nI n) = nI n by split <;> rfl, if_pos hc, h0, nI_clamp hn]
theorem T_copy (k : Nat) {n : Nat} (hn : n < 2 ^ 31) (a b c d : Int32) (S T : Nat → Int32) : M_X6_copyFrom k a b n c d n S T = some (va_cpy T S 0 0 n) := by
  have h0 : Int32.toNatClampNeg 0 = 0 := by decide
  have hc : cpOK 0 0 (nI n) n n = true := by
    unfold cpOK
    rw [decide_eq_false (nI_pos hn), h0, nI_clamp hn, decide_eq_true (show 0 + n ≤ n by omega), show decide ((0 : Int32) < 0) = false by decide]
    rfl
  simp only [M_X6_copyFrom, M_X6_copyFrom_0, lt_eq]
  rw [show (if nI n < nI n then nI n else nI n) = nI n by split <;> rfl, if_pos hc, h0, nI_clamp hn]
/-- how many cells each row of a fleet has -/
def fLen : Nat → Nat
  | 0 => 7
  | 1 => 5
  | 2 => 12
  | 3 => 36
  | 4 => 480
  | 5 => 60
  | 6 => 1
  | 7 => 360
  | 8 => 360
  | 9 => 144
  | _ => 0
def AgF (F G : VV) : Prop := ∀ i j, j < fLen i → F i j = G i j
theorem co_copyKl (k : Nat) (S T : VV) : ∃ F', M_X3_copyFrom k S T = some F' ∧ F' 0 0 = T 0 0 ∧ (∀ j, j < 360 → F' 1 j = T 1 j) ∧ (∀ j, j < 360 → F' 2 j = T 2 j) ∧ ∀ j, j < 144 → F' 3 j = T 3 j := by
  simp only [M_X3_copyFrom, M_X3_copyFrom_0, lt_eq]
  rw [R_copy k (by decide), Option.bind_some, R_copy k (by decide), Option.bind_some, T_copy k (by decide), Option.bind_some]
  exact ⟨_, rfl, rfl, fun j hj => cpy_lt _ _ hj, fun j hj => cpy_lt _ _ hj, fun j hj => cpy_lt _ _ hj⟩
theorem co_copy (k : Nat) (S T : VV) : ∃ F', M_X0_copyFrom k S T = some F' ∧ AgF F' T := by
  have h : ∀ X : VV, ∃ K, M_X3_copyFrom k X (klF T) = some K ∧ K 0 0 = T 6 0 ∧ (∀ j, j < 360 → K 1 j = T 7 j) ∧ (∀ j, j < 360 → K 2 j = T 8 j) ∧ ∀ j, j < 144 → K 3 j = T 9 j := fun X => co_copyKl k X (klF T)
  simp only [M_X0_copyFrom, M_X0_copyFrom_0, lt_eq]
  rw [R_copy k (by decide), Option.bind_some, R_copy k (by decide), Option.bind_some, T_copy k (by decide), Option.bind_some, T_copy k (by decide), Option.bind_some]
  obtain ⟨K, e, h0, h1, h2, h3⟩ := h _
  rw [e, Option.bind_some, R_copy k (by decide), Option.bind_some]
  refine ⟨_, rfl, ?_⟩
  intro i j hj
  match i, hj with
  | 0, hj =>
    have hj : j < 7 := hj
    rcases (show j = 0 ∨ j = 1 ∨ j = 2 ∨ j = 3 ∨ j = 4 ∨ j = 5 ∨ j = 6 by omega) with rfl | rfl | rfl | rfl | rfl | rfl | rfl <;> rfl
  | 1, hj => exact cpy_lt _ _ hj
  | 2, hj => exact cpy_lt _ _ hj
  | 3, hj => exact cpy_lt _ _ hj
  | 4, hj => exact cpy_lt _ _ hj
  | 5, hj => exact cpy_lt _ _ hj
  | 6, hj =>
    have hj : j < 1 := hj
    have : j = 0 := by omega
    subst this
    exact h0
  | 7, hj => exact h1 j hj
  | 8, hj => exact h2 j hj
  | 9, hj => exact h3 j hj
  | i + 10, hj => exact absurd hj (Nat.not_lt_zero j)
theorem AgF.symm {F G : VV} (h : AgF F G) : AgF G F := fun i j hj => (h i j hj).symm
theorem RelC.cong {F G : VV} {A : AF} {fg : Nat → Nat} {ks : KL} (R : RelC G A fg ks) (h : LI A) (hl : ks.length ≤ 360) (e : AgF F G) : RelC F A fg ks := by
  have hln := h.toAL.len h.toAW
  have hW := h.w12
  have hm := h.m12
  have hn := h.n60
  exact RelC.ofs (s0 := (e 0 0 (by decide)).trans R.s0) (s1 := (e 0 1 (by decide)).trans R.s1) (s2 := (e 0 2 (by decide)).trans R.s2) (s3 := (e 0 3 (by decide)).trans R.s3) (s4 := (e 0 4 (by decide)).trans R.s4) (s5 := (e 0 5 (by decide)).trans R.s5) (s6 := (e 0 6 (by decide)).trans R.s6)
    (se := fun i hi => (e 1 i hi).trans (R.se i hi))
    (ag := fun w hw => (e 2 w (show w < 12 by omega)).trans (R.ag w hw))
    (te := fun t ht => ⟨(e 3 _ (show t * 3 + 0 < 36 by omega)).trans (R.te t ht).1, (e 3 _ (show t * 3 + 1 < 36 by omega)).trans (R.te t ht).2.1, (e 3 _ (show t * 3 + 2 < 36 by omega)).trans (R.te t ht).2.2⟩)
    (rq := fun r c hr hc => (e 4 _ (show r * 8 + c < 480 by omega)).trans (R.rq r c hr hc))
    (li := fun i hi => (e 5 i (show i < 60 by omega)).trans (R.li i hi))
    (k0 := (e 6 0 (by decide)).trans R.k0)
    (k1 := fun i hi => ⟨(e 7 i (show i < 360 by omega)).trans (R.k1 i hi).1, (e 8 i (show i < 360 by omega)).trans (R.k1 i hi).2⟩)
    (kp := fun t w ht hw => (e 9 _ (show t * 12 + w < 144 by omega)).trans (R.kp t w ht hw))
theorem RelM.cong {S S' : VV} {g g' : Nat} {A : AF} {mk : Nat → Nat} {ks : KL} {tk : Nat} {tkt : Nat → Nat} (R : RelM S g A mk ks tk tkt) (h : LI A) (hl : ks.length ≤ 360) (gs : GS S' g') (e : ∀ j, j < 1692 → S' g' j = S g j) : RelM S' g' A mk ks tk tkt := by
  have hW := h.w12
  have hm := h.m12
  have hn := h.n60
  exact RelM.ofs (gs := gs) (s0 := (e 0 (by decide)).trans R.s0) (s1 := (e 1 (by decide)).trans R.s1) (s2 := (e 2 (by decide)).trans R.s2) (s3 := (e 3 (by decide)).trans R.s3) (s4 := (e 4 (by decide)).trans R.s4)
    (se := fun i hi => (e _ (by omega)).trans (R.se i hi)) (s10 := (e 10 (by decide)).trans R.s10) (s11 := (e 11 (by decide)).trans R.s11)
    (wo := fun w hw => ⟨(e _ (by omega)).trans (R.wo w hw).1, (e _ (by omega)).trans (R.wo w hw).2⟩)
    (te := fun t ht => ⟨(e _ (by omega)).trans (R.te t ht).1, (e _ (by omega)).trans (R.te t ht).2.1, (e _ (by omega)).trans (R.te t ht).2.2⟩)
    (rq := fun r c hr hc => (e _ (by omega)).trans (R.rq r c hr hc))
    (ti := fun r hr => (e _ (by omega)).trans (R.ti r hr))
    (ki := fun i hi => ⟨(e _ (by omega)).trans (R.ki i hi).1, (e _ (by omega)).trans (R.ki i hi).2.1, (e _ (by omega)).trans (R.ki i hi).2.2⟩)
theorem JR.cong {F F' S S' : VV} {g g' : Nat} {A : AF} {N : Nat} (J : JR F S g A N) (hF : AgF F' F) (gs : GS S' g') (e : ∀ j, j < 1692 → S' g' j = S g j) : JR F' S' g' A N := by
  obtain ⟨fg, mk, ks, ks', tk, tkt, R, M, I, hN⟩ := J
  have hl := I.ac.le I.li
  exact ⟨fg, mk, ks, ks', tk, tkt, R.cong I.li hl hF, M.cong I.li (by rw [I.pm.length_eq]; exact hl) gs e, I, hN⟩
theorem JR.mono {F S : VV} {g : Nat} {A : AF} {N N' : Nat} (J : JR F S g A N) (h : N ≤ N') : JR F S g A N' := by
  obtain ⟨fg, mk, ks, ks', tk, tkt, R, M, I, hN⟩ := J
  exact ⟨fg, mk, ks, ks', tk, tkt, R, M, I, Nat.le_trans hN h⟩
/-- a row of the reference as a state of its own -/
def rowS (G : Nat → Int32) : VV := fun j => if j = 1 then G else fun _ => 1
theorem rowS_gs (G : Nat → Int32) : GS (rowS G) 1 := ⟨rfl, rfl⟩
theorem rowS_1 (G : Nat → Int32) : rowS G 1 = G := rfl
/-- the reference's copies -/
theorem copy_fold (g : Nat → Int32) (c : Nat) (T : Nat → Int32) : ∀ n, foldU (fun i T => upd T (c + i) (g i)) n T = fun j => if c ≤ j ∧ j < c + n then g (j - c) else T j
  | 0 => by
    funext j
    rw [if_neg (by omega)]
    rfl
  | n + 1 => by
    have ih := copy_fold g c T n
    funext j
    show upd (foldU (fun i T => upd T (c + i) (g i)) n T) (c + n) (g n) j = _
    rw [ih]
    by_cases e : j = c + n
    · subst e
      rw [upd_self, if_pos (by omega)]
      congr 1
      omega
    · rw [upd_ne _ _ e]
      by_cases h : c ≤ j ∧ j < c + n
      · rw [if_pos h, if_pos (by omega)]
      · rw [if_neg h, if_neg (by omega)]
theorem nI_row (a i : Nat) : (1692 : Int32) * nI a + nI i = nI (1692 * a + i) := by
  rw [show (1692 : Int32) = nI 1692 from rfl, nI_mul, nI_add]
def cpRow (S T : Nat → Int32) (a b : Nat) : Nat → Int32 := fun j => if 1692 * b ≤ j ∧ j < 1692 * b + 1692 then S (1692 * a + (j - 1692 * b)) else T j
theorem m_copy {k : Nat} (hk : 20000 ≤ k) {nn nn1 a b : Nat} (ha : 1692 * a + 1692 ≤ nn) (hb : 1692 * b + 1692 ≤ nn1) (hn : nn < 2 ^ 31) (hn1 : nn1 < 2 ^ 31) (S T : Nat → Int32) : M_X10_copy k nn nn1 S T (nI a) (nI b) = some (cpRow S T a b) := by
  have key := loop_f0 (fun n i T => M_X10_copy_3 k nn nn1 S n (nI a) (nI b) i T) 1692 (fun i T => upd T (1692 * b + i) (S (1692 * a + i))) some (fun n i T hi => by
    simp only [M_X10_copy_3, lt_eq]
    have h0 : ¬ (1692 : Int32) ≤ nI i := nI_ge hi (by decide)
    rw [if_neg h0, nI_row, nI_row, if_pos (inb_nI (by omega) hn), if_pos (inb_nI (by omega) hn1), nI_clamp (by omega), nI_clamp (by omega), nI_1]) (fun n T => by
    simp only [M_X10_copy_3]
    exact if_pos (nI_le (Nat.le_refl 1692) (by decide))) T (fuel := k) (by omega)
  simp only [M_X10_copy, M_X10_copy_0]
  refine key.trans ?_
  rw [copy_fold (fun i => S (1692 * a + i)) (1692 * b) T 1692]
  rfl
theorem copy_fold2 (a b : Nat) (hab : a ≠ b) (S : Nat → Int32) : ∀ n, n ≤ 1692 → foldU (fun i T => upd T (1692 * b + i) (T (1692 * a + i))) n S = fun j => if 1692 * b ≤ j ∧ j < 1692 * b + n then S (1692 * a + (j - 1692 * b)) else S j
  | 0, _ => by
    funext j
    rw [if_neg (by omega)]
    rfl
  | n + 1, hn => by
    have ih := copy_fold2 a b hab S n (by omega)
    funext j
    show upd (foldU (fun i T => upd T (1692 * b + i) (T (1692 * a + i))) n S) (1692 * b + n) (foldU (fun i T => upd T (1692 * b + i) (T (1692 * a + i))) n S (1692 * a + n)) j = _
    rw [ih]
    by_cases e : j = 1692 * b + n
    · subst e
      rw [upd_self, if_pos (by omega)]
      show (if 1692 * b ≤ 1692 * a + n ∧ 1692 * a + n < 1692 * b + n then S (1692 * a + (1692 * a + n - 1692 * b)) else S (1692 * a + n)) = _
      rw [if_neg (by omega)]
      congr 1
      omega
    · rw [upd_ne _ _ e]
      by_cases h : 1692 * b ≤ j ∧ j < 1692 * b + n
      · rw [if_pos h, if_pos (by omega)]
      · rw [if_neg h, if_neg (by omega)]
theorem m_copy_same {k : Nat} (hk : 20000 ≤ k) {nn a b : Nat} (ha : 1692 * a + 1692 ≤ nn) (hb : 1692 * b + 1692 ≤ nn) (hab : a ≠ b) (hn : nn < 2 ^ 31) (S : Nat → Int32) : M_X10_copy_same k nn S (nI a) (nI b) = some (cpRow S S a b) := by
  have key := loop_f0 (fun n i T => M_X10_copy_same_3 k nn n (nI a) (nI b) i T) 1692 (fun i T => upd T (1692 * b + i) (T (1692 * a + i))) some (fun n i T hi => by
    simp only [M_X10_copy_same_3, lt_eq]
    have h0 : ¬ (1692 : Int32) ≤ nI i := nI_ge hi (by decide)
    rw [if_neg h0, nI_row, nI_row, if_pos (inb_nI (by omega) hn), if_pos (inb_nI (by omega) hn), nI_clamp (by omega), nI_clamp (by omega), nI_1]) (fun n T => by
    simp only [M_X10_copy_same_3]
    exact if_pos (nI_le (Nat.le_refl 1692) (by decide))) S (fuel := k) (by omega)
  simp only [M_X10_copy_same, M_X10_copy_same_0]
  refine key.trans ?_
  rw [copy_fold2 a b hab S 1692 (Nat.le_refl _)]
  rfl
theorem cpRow_in (S T : Nat → Int32) (a b : Nat) {j : Nat} (h : j < 1692) : cpRow S T a b (1692 * b + j) = S (1692 * a + j) := by
  unfold cpRow
  rw [if_pos (by omega)]
  congr 1
  omega
theorem cpRow_out (S T : Nat → Int32) (a b : Nat) {j : Nat} (h : ¬ (1692 * b ≤ j ∧ j < 1692 * b + 1692)) : cpRow S T a b j = T j := if_neg h
