-- ===== the values of a request =====
def pv (A : AF) (r j : Nat) : Int32 := if j = 0 then nI r else if j = 7 then A.Q r 6 + 1 else if j = 8 then (if r ∈ A.ln then nI (plc A r) else 0) else A.Q r (j - 1)
def PO (A : AF) (r : Nat) (x : Int32) : Option Int32 := if inb x 9 = true then some (pv A r x.toNatClampNeg) else none
theorem PO_nI (A : AF) (r : Nat) {j : Nat} (h : j < 9) : PO A r (nI j) = some (pv A r j) := by
  unfold PO
  rw [if_pos (inb_nI h (by decide)), nI_clamp (by omega)]
theorem r_prop {S : VV} {g : Nat} {A : AF} {mk : Nat → Nat} {ks : KL} {tk : Nat} {tkt : Nat → Nat} {k : Nat} (M : RelM S g A mk ks tk tkt) (h : LI A) (sr : SR A) (t : TO A tk tkt) (htk : tk < 2 ^ 31) (hk : 20000 ≤ k) {r : Nat} (hr : r < A.n) {x v : Int32} (hp : PO A r x = some v) : M_X10_property k S (nI r) x = some v := by
  have w := h.toAW
  unfold PO at hp
  by_cases hb : inb x 9 = true
  rotate_left
  · rw [if_neg hb] at hp
    cases hp
  rw [if_pos hb] at hp
  injection hp with hp
  have h0 : ¬ x < 0 := by
    rcases inb_cases x (n := 9) (by decide) with ⟨_, h0, _⟩ | ⟨h1, _⟩
    · exact h0
    · exact absurd hb h1
  obtain ⟨j, hj, rfl⟩ := nI_of h0
  have h9 := inb_cl hb
  rw [nI_clamp hj] at h9 hp
  subst hp
  have en : ∀ m, m < 2 ^ 31 → j ≠ m → ¬ nI j = nI m := fun m hm hne q => hne ((nI_eq (by omega) hm).mp q)
  simp only [M_X10_property, M_X10_property_0]
  unfold pv
  by_cases j0 : j = 0
  · subst j0
    rw [if_pos rfl, if_pos (show nI 0 = (0 : Int32) from rfl)]
  have n0 : ¬ nI j = (0 : Int32) := en 0 (by decide) j0
  rw [if_neg j0, if_neg n0]
  by_cases j7 : j = 7
  · subst j7
    rw [if_pos rfl, if_pos (show nI 7 = (7 : Int32) from rfl), M.q w k hr 6, Option.bind_some, Int32.add_comm]
  have n7 : ¬ nI j = (7 : Int32) := en 7 (by decide) j7
  rw [if_neg j7, if_neg n7]
  by_cases j8 : j = 8
  · subst j8
    rw [if_pos rfl, if_pos (show nI 8 = (8 : Int32) from rfl), M.q w k hr 4, Option.bind_some]
    obtain ⟨s, hs, es⟩ := sr r hr
    by_cases hm : r ∈ A.ln
    · have hq := ((h.wt r).mp hm).2
      have hlt : ¬ (1 : Int32) < A.Q r 4 := by
        rcases hq with q | q
        · rw [q]; decide
        · rw [q]; decide
      rw [if_pos hm, if_neg hlt, rq_placeOf M h t htk hk hm, Option.bind_some]
    · have hlt : (1 : Int32) < A.Q r 4 := by
        rw [es]
        have s0 : s ≠ 0 := fun e => hm ((h.wt r).mpr ⟨hr, Or.inl (by rw [es, e]; rfl)⟩)
        have s1 : s ≠ 1 := fun e => hm ((h.wt r).mpr ⟨hr, Or.inr (by rw [es, e]; rfl)⟩)
        exact nI_lt (a := 1) (by omega) (by omega)
      rw [if_neg hm, if_pos hlt]
  have n8 : ¬ nI j = (8 : Int32) := en 8 (by decide) j8
  have hsub : nI j - 1 = nI (j - 1) := by rw [show (1 : Int32) = nI 1 from rfl, nI_sub (by omega)]
  rw [if_neg j8, if_neg n8, hsub, M.q w k hr (j - 1) rfl (by omega), Option.bind_some]
/-- a code's value -/
def vl (A : AF) (r : Nat) (x : Int32) : Int32 := if x < 0 then pv A r ((-1 : Int32) - x).toNatClampNeg else x
theorem m1m (x : Int32) : (-1 : Int32) - (-1 - x) = x := by
  rw [Int32.sub_eq_add_neg, Int32.neg_sub, Int32.sub_eq_add_neg, ← Int32.add_assoc, Int32.add_comm (-1) x, Int32.add_assoc]
  show x + 0 = x
  exact Int32.add_zero x
theorem neg9 : ∀ p, p < 9 → (-1 : Int32) - nI p < 0 ∧ ¬ (-1 : Int32) - nI p ≤ -20 ∧ ¬ (-1 : Int32) - nI p = -23 := by decide
theorem vl_ev {A : AF} {r : Nat} {x : Int32} (hx : VCode x) (st : List Int32) : ev1 (PO A r) x st = some (vl A r x :: st) := by
  unfold ev1 vl
  rcases hx with ⟨v, hv, rfl⟩ | ⟨p, hp, rfl⟩
  · have h0 : ¬ nI v < 0 := nI_pos (by omega)
    have h20 : ¬ nI v ≤ -20 := fun q => h0 (Int32.lt_of_le_of_lt q (by decide))
    have h23 : ¬ nI v = -23 := fun q => h0 (by rw [q]; decide)
    rw [if_neg h23, if_neg h20, if_neg h0, if_neg h0]
  · obtain ⟨h0, h20, h23⟩ := neg9 p hp
    rw [if_neg h23, if_neg h20, if_pos h0, if_pos h0, m1m, PO_nI A r hp, Option.bind_some, nI_clamp (by omega)]
section CVL
variable {F : VV} {A : AF} {fg : Nat → Nat} {ks : KL} {k : Nat}
theorem vf_m (k : Nat) (F : VV) (y : Int32) {x : Int32} (h0 : x < 0) : M_X4_valueFor k F x y = if (-1 : Int32) - x = 0 then some y else (if (-1 : Int32) - x = 8 then ((M_X0_placeOf k F y).bind fun q7 => some q7) else ((M_X6_at k 60 8 480 (F 4) y ((-1 : Int32) - x - 1)).bind fun q5 => if (-1 : Int32) - x = 7 then some (q5 + 1) else some q5)) := by
  unfold M_X4_valueFor M_X4_valueFor_0
  rw [if_pos h0, lt_eq]
theorem vf_p (k : Nat) (F : VV) (y : Int32) {x : Int32} (h0 : ¬ x < 0) : M_X4_valueFor k F x y = some x := if_neg h0
theorem pv_0 (A : AF) (r : Nat) : pv A r 0 = nI r := if_pos rfl
theorem pv_7 (A : AF) (r : Nat) : pv A r 7 = A.Q r 6 + 1 := by
  unfold pv
  rw [if_neg (show ¬ 7 = 0 by decide), if_pos rfl]
theorem pv_8 (A : AF) (r : Nat) : pv A r 8 = if r ∈ A.ln then nI (plc A r) else 0 := by
  unfold pv
  rw [if_neg (show ¬ 8 = 0 by decide), if_neg (show ¬ 8 = 7 by decide), if_pos rfl]
theorem pv_n (A : AF) (r : Nat) {j : Nat} (h0 : j ≠ 0) (h7 : j ≠ 7) (h8 : j ≠ 8) : pv A r j = A.Q r (j - 1) := by
  unfold pv
  rw [if_neg h0, if_neg h7, if_neg h8]
theorem vf_0 (R : RelC F A fg ks) (h : LI A) {r : Nat} : M_X4_valueFor k F (-1 - nI 0) (nI r) = some (pv A r 0) := by
  rw [vf_m k F (nI r) (neg9 0 (by decide)).1, m1m, pv_0, if_pos nI_0]
theorem vf_8 (R : RelC F A fg ks) (h : LI A) (hk : 20000 ≤ k) {r : Nat} (hr : r < A.n) : M_X4_valueFor k F (-1 - nI 8) (nI r) = some (pv A r 8) := by
  rw [vf_m k F (nI r) (neg9 8 (by decide)).1, m1m, if_neg (show ¬ nI 8 = 0 by decide), if_pos (show nI 8 = 8 by decide), cq_placeOf R h.toAW h.toAL hk hr, Option.bind_some, pv_8]
  by_cases hm : r ∈ A.ln
  · rw [if_pos hm, if_pos hm]
  · rw [if_neg hm, if_neg hm, nI_0]
theorem vf_n (R : RelC F A fg ks) (h : LI A) (hk : 20000 ≤ k) {r j : Nat} (hr : r < A.n) (hj : j < 9) (h0 : j ≠ 0) (h8 : j ≠ 8) : M_X4_valueFor k F (-1 - nI j) (nI r) = some (pv A r j) := by
  have n0 : ¬ nI j = (0 : Int32) := nI_ne0 (by omega) (by omega)
  have n8 : ¬ nI j = (8 : Int32) := fun q => h8 ((nI_eq (by omega) (by decide)).mp (show nI j = nI 8 from q))
  have hsub : nI j - 1 = nI (j - 1) := by rw [show (1 : Int32) = nI 1 from rfl, nI_sub (by omega)]
  rw [vf_m k F (nI r) (neg9 j hj).1, m1m, if_neg n0, if_neg n8, hsub, R.q h.toAW k hr (j - 1) rfl (by omega), Option.bind_some]
  by_cases h7 : j = 7
  · subst h7
    rw [if_pos (show nI 7 = 7 by decide), pv_7]
  · have n7 : ¬ nI j = (7 : Int32) := fun q => h7 ((nI_eq (by omega) (by decide)).mp (show nI j = nI 7 from q))
    rw [if_neg n7, pv_n A r h0 h7 h8]
theorem c_vl (R : RelC F A fg ks) (h : LI A) (hk : 20000 ≤ k) {r : Nat} (hr : r < A.n) {x : Int32} (hx : VCode x) : M_X4_valueFor k F x (nI r) = some (vl A r x) := by
  unfold vl
  rcases hx with ⟨v, hv, rfl⟩ | ⟨j, h9, rfl⟩
  · have h0 : ¬ nI v < 0 := nI_pos (by omega)
    rw [if_neg h0, vf_p k F _ h0]
  · rw [if_pos (neg9 j h9).1, m1m, nI_clamp (by omega)]
    by_cases j0 : j = 0
    · subst j0
      exact vf_0 R h
    by_cases j8 : j = 8
    · subst j8
      exact vf_8 R h hk hr
    exact vf_n R h hk hr h9 j0 j8
end CVL
-- ===== sets of requests, and codes =====
/-- the codes tell for each request whether it is in the set -/
def EVL (A : AF) (f : Nat → Bool) (l : List Int32) : Prop := ∀ r, r < A.n → ∀ st, evs (PO A r) l st = some (b1 (f r) :: st)
theorem EVL.bin {A : AF} {f g : Nat → Bool} {l l' : List Int32} {c : Int32} {o : Bool → Bool → Bool} (ho : ∀ x y (p : Int32 → Option Int32) st, ev1 p c (b1 y :: b1 x :: st) = some (b1 (o x y) :: st)) (h : EVL A f l) (h' : EVL A g l') : EVL A (fun r => o (f r) (g r)) (l ++ l' ++ [c]) := fun r hr st => by
  rw [evs_app, evs_app, h r hr, Option.bind_some, h' r hr, Option.bind_some]
  show ((ev1 (PO A r) c (b1 (g r) :: b1 (f r) :: st)).bind fun s => some s) = some (b1 (o (f r) (g r)) :: st)
  rw [ho, Option.bind_some]
theorem ev_and (x y : Bool) (p : Int32 → Option Int32) (st : List Int32) : ev1 p (-24) (b1 y :: b1 x :: st) = some (b1 (x && y) :: st) := by
  cases x <;> cases y <;> rfl
theorem ev_or (x y : Bool) (p : Int32 → Option Int32) (st : List Int32) : ev1 p (-25) (b1 y :: b1 x :: st) = some (b1 (x || y) :: st) := by
  cases x <;> cases y <;> rfl
theorem EVL.not {A : AF} {f : Nat → Bool} {l : List Int32} (h : EVL A f l) : EVL A (fun r => !f r) (l ++ [-23]) := fun r hr st => by
  rw [evs_app, h r hr, Option.bind_some]
  show ((ev1 (PO A r) (-23) (b1 (f r) :: st)).bind fun s => some s) = some (b1 (!f r) :: st)
  cases f r <;> rfl
theorem EVL.cmp {A : AF} {x y d : Int32} (hx : VCode x) (hy : VCode y) {cb : Int32 → Int32 → Bool} (hd : ∀ a b' (p : Int32 → Option Int32) st, ev1 p d (b' :: a :: st) = some (b1 (cb a b') :: st)) : EVL A (fun r => cb (vl A r x) (vl A r y)) ([x] ++ [y] ++ [d]) := fun r hr st => by
  show ((ev1 (PO A r) x st).bind fun s => (ev1 (PO A r) y s).bind fun s => (ev1 (PO A r) d s).bind fun s => some s) = some (b1 (cb (vl A r x) (vl A r y)) :: st)
  rw [vl_ev hx, Option.bind_some, vl_ev hy, Option.bind_some, hd, Option.bind_some]
def cbL (a c : Int32) : Bool := decide (a < c)
def cbE (a c : Int32) : Bool := decide (a = c)
def cbG (a c : Int32) : Bool := decide (c < a)
theorem ev_lt (a c : Int32) (p : Int32 → Option Int32) (st : List Int32) : ev1 p (-20) (c :: a :: st) = some (b1 (cbL a c) :: st) := by
  show (opr (-20) a c).bind (fun v => some (v :: st)) = _
  have e : opr (-20) a c = some (if c ≤ a then 0 else 1) := rfl
  rw [e, Option.bind_some]
  unfold cbL
  by_cases h : c ≤ a
  · rw [if_pos h, decide_eq_false (Int32.not_lt.mpr h)]; rfl
  · rw [if_neg h, decide_eq_true (Int32.not_le.mp h)]; rfl
theorem ev_eq (a c : Int32) (p : Int32 → Option Int32) (st : List Int32) : ev1 p (-21) (c :: a :: st) = some (b1 (cbE a c) :: st) := by
  show (opr (-21) a c).bind (fun v => some (v :: st)) = _
  have e : opr (-21) a c = some (if a = c then 1 else 0) := rfl
  rw [e, Option.bind_some]
  unfold cbE
  by_cases h : a = c
  · rw [if_pos h, decide_eq_true h]; rfl
  · rw [if_neg h, decide_eq_false h]; rfl
theorem ev_gt (a c : Int32) (p : Int32 → Option Int32) (st : List Int32) : ev1 p (-22) (c :: a :: st) = some (b1 (cbG a c) :: st) := by
  show (opr (-22) a c).bind (fun v => some (v :: st)) = _
  have e : opr (-22) a c = some (if a ≤ c then 0 else 1) := rfl
  rw [e, Option.bind_some]
  unfold cbG
  by_cases h : a ≤ c
  · rw [if_pos h, decide_eq_false (Int32.not_lt.mpr h)]; rfl
  · rw [if_neg h, decide_eq_true (Int32.not_le.mp h)]; rfl
