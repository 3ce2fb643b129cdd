-- ===== a fleet, and how the class keeps it =====
def AFt : Nat → Type
  | 0 => Nat
  | 1 => Nat
  | 2 => Nat
  | 3 => Nat
  | 4 => Nat
  | 5 => Nat → Bool
  | 6 => Nat → Int32
  | 7 => Nat → Nat
  | 8 => Nat → Nat
  | 9 => Nat → Int32
  | 10 => Nat → Nat → Int32
  | 11 => List Nat
  | _ => Unit
/-- a fleet is kept as a function of the number of its part: flat, so that the kernel never holds whole fleets against each other -/
def AF : Type := (i : Nat) → AFt i
abbrev AF.W (A : AF) : Nat := A 0
abbrev AF.Z (A : AF) : Nat := A 1
abbrev AF.m (A : AF) : Nat := A 2
abbrev AF.n (A : AF) : Nat := A 3
abbrev AF.t (A : AF) : Nat := A 4
abbrev AF.up (A : AF) : Nat → Bool := A 5
abbrev AF.again (A : AF) : Nat → Int32 := A 6
abbrev AF.st (A : AF) : Nat → Nat := A 7
abbrev AF.sh (A : AF) : Nat → Nat := A 8
abbrev AF.qe (A : AF) : Nat → Int32 := A 9
abbrev AF.Q (A : AF) : Nat → Nat → Int32 := A 10
abbrev AF.ln (A : AF) : List Nat := A 11
def mkA (W : Nat) (Z : Nat) (m : Nat) (n : Nat) (t : Nat) (up : Nat → Bool) (again : Nat → Int32) (st : Nat → Nat) (sh : Nat → Nat) (qe : Nat → Int32) (Q : Nat → Nat → Int32) (ln : List Nat) : AF := fun i => match i with
  | 0 => W
  | 1 => Z
  | 2 => m
  | 3 => n
  | 4 => t
  | 5 => up
  | 6 => again
  | 7 => st
  | 8 => sh
  | 9 => qe
  | 10 => Q
  | 11 => ln
  | _ + 12 => ()
def AF.wQ (A : AF) (Q : Nat → Nat → Int32) : AF := mkA A.W A.Z A.m A.n A.t A.up A.again A.st A.sh A.qe Q A.ln
def AF.wL (A : AF) (l : List Nat) : AF := mkA A.W A.Z A.m A.n A.t A.up A.again A.st A.sh A.qe A.Q l
def setQ (Q : Nat → Nat → Int32) (r c : Nat) (v : Int32) : Nat → Nat → Int32 := fun r' c' => if r' = r ∧ c' = c then v else Q r' c'
theorem setQ_self (Q : Nat → Nat → Int32) (r c : Nat) (v : Int32) : setQ Q r c v r c = v := if_pos ⟨rfl, rfl⟩
theorem setQ_ne {Q : Nat → Nat → Int32} {r c r' c' : Nat} {v : Int32} (h : ¬ (r' = r ∧ c' = c)) : setQ Q r c v r' c' = Q r' c' := if_neg h
abbrev KL := List (Nat × Nat × Nat)
def cntK (ks : KL) (t w : Nat) : Nat := ks.countP (fun x => x.2.1 == t && x.2.2 == w)
def RelC (F : VV) (A : AF) (fg : Nat → Nat) (ks : KL) : Prop := (F 0 0 = nI A.W) ∧ (F 0 1 = nI A.Z) ∧ (F 0 2 = nI A.m) ∧ (F 0 3 = nI A.n) ∧ (F 0 4 = nI A.t) ∧ (F 0 5 = nI (msk A.up A.W)) ∧ (F 0 6 = nI A.ln.length) ∧ (∀ i, i < 5 → F 1 i = nI (A.st i)) ∧ (∀ w, w < A.W → F 2 w = A.again w) ∧ (∀ t, t < A.m → F 3 (t * 3 + 0) = nI (A.sh t) ∧ F 3 (t * 3 + 1) = A.qe t ∧ F 3 (t * 3 + 2) = nI (fg t)) ∧ (∀ r c, r < A.n → c < 8 → F 4 (r * 8 + c) = A.Q r c) ∧ (∀ i (h : i < A.ln.length), F 5 i = nI A.ln[i]) ∧ (F 6 0 = nI ks.length) ∧ (∀ i (h : i < ks.length), F 7 i = nI ks[i].1 ∧ F 8 i = nI ks[i].2.1) ∧ (∀ t w, t < 12 → w < 12 → F 9 (t * 12 + w) = nI (cntK ks t w))
theorem RelC.s0 {F : VV} {A : AF} {fg : Nat → Nat} {ks : KL} (R__ : RelC F A fg ks) : F 0 0 = nI A.W := R__.1
theorem RelC.s1 {F : VV} {A : AF} {fg : Nat → Nat} {ks : KL} (R__ : RelC F A fg ks) : F 0 1 = nI A.Z := R__.2.1
theorem RelC.s2 {F : VV} {A : AF} {fg : Nat → Nat} {ks : KL} (R__ : RelC F A fg ks) : F 0 2 = nI A.m := R__.2.2.1
theorem RelC.s3 {F : VV} {A : AF} {fg : Nat → Nat} {ks : KL} (R__ : RelC F A fg ks) : F 0 3 = nI A.n := R__.2.2.2.1
theorem RelC.s4 {F : VV} {A : AF} {fg : Nat → Nat} {ks : KL} (R__ : RelC F A fg ks) : F 0 4 = nI A.t := R__.2.2.2.2.1
theorem RelC.s5 {F : VV} {A : AF} {fg : Nat → Nat} {ks : KL} (R__ : RelC F A fg ks) : F 0 5 = nI (msk A.up A.W) := R__.2.2.2.2.2.1
theorem RelC.s6 {F : VV} {A : AF} {fg : Nat → Nat} {ks : KL} (R__ : RelC F A fg ks) : F 0 6 = nI A.ln.length := R__.2.2.2.2.2.2.1
theorem RelC.se {F : VV} {A : AF} {fg : Nat → Nat} {ks : KL} (R__ : RelC F A fg ks) : ∀ i, i < 5 → F 1 i = nI (A.st i) := R__.2.2.2.2.2.2.2.1
theorem RelC.ag {F : VV} {A : AF} {fg : Nat → Nat} {ks : KL} (R__ : RelC F A fg ks) : ∀ w, w < A.W → F 2 w = A.again w := R__.2.2.2.2.2.2.2.2.1
theorem RelC.te {F : VV} {A : AF} {fg : Nat → Nat} {ks : KL} (R__ : RelC F A fg ks) : ∀ t, t < A.m → F 3 (t * 3 + 0) = nI (A.sh t) ∧ F 3 (t * 3 + 1) = A.qe t ∧ F 3 (t * 3 + 2) = nI (fg t) := R__.2.2.2.2.2.2.2.2.2.1
theorem RelC.rq {F : VV} {A : AF} {fg : Nat → Nat} {ks : KL} (R__ : RelC F A fg ks) : ∀ r c, r < A.n → c < 8 → F 4 (r * 8 + c) = A.Q r c := R__.2.2.2.2.2.2.2.2.2.2.1
theorem RelC.li {F : VV} {A : AF} {fg : Nat → Nat} {ks : KL} (R__ : RelC F A fg ks) : ∀ i (h : i < A.ln.length), F 5 i = nI A.ln[i] := R__.2.2.2.2.2.2.2.2.2.2.2.1
theorem RelC.k0 {F : VV} {A : AF} {fg : Nat → Nat} {ks : KL} (R__ : RelC F A fg ks) : F 6 0 = nI ks.length := R__.2.2.2.2.2.2.2.2.2.2.2.2.1
theorem RelC.k1 {F : VV} {A : AF} {fg : Nat → Nat} {ks : KL} (R__ : RelC F A fg ks) : ∀ i (h : i < ks.length), F 7 i = nI ks[i].1 ∧ F 8 i = nI ks[i].2.1 := R__.2.2.2.2.2.2.2.2.2.2.2.2.2.1
theorem RelC.kp {F : VV} {A : AF} {fg : Nat → Nat} {ks : KL} (R__ : RelC F A fg ks) : ∀ t w, t < 12 → w < 12 → F 9 (t * 12 + w) = nI (cntK ks t w) := R__.2.2.2.2.2.2.2.2.2.2.2.2.2.2
theorem RelC.ofs {F : VV} {A : AF} {fg : Nat → Nat} {ks : KL} (s0 : F 0 0 = nI A.W) (s1 : F 0 1 = nI A.Z) (s2 : F 0 2 = nI A.m) (s3 : F 0 3 = nI A.n) (s4 : F 0 4 = nI A.t) (s5 : F 0 5 = nI (msk A.up A.W)) (s6 : F 0 6 = nI A.ln.length) (se : ∀ i, i < 5 → F 1 i = nI (A.st i)) (ag : ∀ w, w < A.W → F 2 w = A.again w) (te : ∀ t, t < A.m → F 3 (t * 3 + 0) = nI (A.sh t) ∧ F 3 (t * 3 + 1) = A.qe t ∧ F 3 (t * 3 + 2) = nI (fg t)) (rq : ∀ r c, r < A.n → c < 8 → F 4 (r * 8 + c) = A.Q r c) (li : ∀ i (h : i < A.ln.length), F 5 i = nI A.ln[i]) (k0 : F 6 0 = nI ks.length) (k1 : ∀ i (h : i < ks.length), F 7 i = nI ks[i].1 ∧ F 8 i = nI ks[i].2.1) (kp : ∀ t w, t < 12 → w < 12 → F 9 (t * 12 + w) = nI (cntK ks t w)) : RelC F A fg ks := ⟨s0, s1, s2, s3, s4, s5, s6, se, ag, te, rq, li, k0, k1, kp⟩
/-- what always holds of a fleet's sizes -/
def AW (A : AF) : Prop := (2 ≤ A.W) ∧ (A.W ≤ 12) ∧ (1 ≤ A.Z) ∧ (A.Z ≤ A.W) ∧ (A.m ≤ 12) ∧ (A.n ≤ 60) ∧ (A.t < 20000) ∧ (∀ i, i < 5 → A.st i < 1000) ∧ (∀ t, t < A.m → A.sh t < 2 ^ A.W) ∧ (∀ r, r < A.n → ∃ t, t < A.m ∧ A.Q r 0 = nI t)
theorem AW.w2 {A : AF} (R__ : AW A) : 2 ≤ A.W := R__.1
theorem AW.w12 {A : AF} (R__ : AW A) : A.W ≤ 12 := R__.2.1
theorem AW.z1 {A : AF} (R__ : AW A) : 1 ≤ A.Z := R__.2.2.1
theorem AW.zw {A : AF} (R__ : AW A) : A.Z ≤ A.W := R__.2.2.2.1
theorem AW.m12 {A : AF} (R__ : AW A) : A.m ≤ 12 := R__.2.2.2.2.1
theorem AW.n60 {A : AF} (R__ : AW A) : A.n ≤ 60 := R__.2.2.2.2.2.1
theorem AW.t4 {A : AF} (R__ : AW A) : A.t < 20000 := R__.2.2.2.2.2.2.1
theorem AW.se {A : AF} (R__ : AW A) : ∀ i, i < 5 → A.st i < 1000 := R__.2.2.2.2.2.2.2.1
theorem AW.sh {A : AF} (R__ : AW A) : ∀ t, t < A.m → A.sh t < 2 ^ A.W := R__.2.2.2.2.2.2.2.2.1
theorem AW.ten {A : AF} (R__ : AW A) : ∀ r, r < A.n → ∃ t, t < A.m ∧ A.Q r 0 = nI t := R__.2.2.2.2.2.2.2.2.2
theorem AW.ofs {A : AF} (w2 : 2 ≤ A.W) (w12 : A.W ≤ 12) (z1 : 1 ≤ A.Z) (zw : A.Z ≤ A.W) (m12 : A.m ≤ 12) (n60 : A.n ≤ 60) (t4 : A.t < 20000) (se : ∀ i, i < 5 → A.st i < 1000) (sh : ∀ t, t < A.m → A.sh t < 2 ^ A.W) (ten : ∀ r, r < A.n → ∃ t, t < A.m ∧ A.Q r 0 = nI t) : AW A := ⟨w2, w12, z1, zw, m12, n60, t4, se, sh, ten⟩
/-- what holds of the line -/
def AL (A : AF) : Prop := (A.ln.Nodup) ∧ (∀ r, r ∈ A.ln → r < A.n)
theorem AL.nd {A : AF} (R__ : AL A) : A.ln.Nodup := R__.1
theorem AL.me {A : AF} (R__ : AL A) : ∀ r, r ∈ A.ln → r < A.n := R__.2
theorem AL.ofs {A : AF} (nd : A.ln.Nodup) (me : ∀ r, r ∈ A.ln → r < A.n) : AL A := ⟨nd, me⟩
theorem AL.len {A : AF} (h : AL A) (w : AW A) : A.ln.length ≤ 60 := Nat.le_trans (length_line h.nd h.me) w.n60
theorem AW.pw {A : AF} (w : AW A) : 2 ^ A.W ≤ 4096 := Nat.pow_le_pow_right (by omega) w.w12
theorem AW.up31 {A : AF} (w : AW A) (f : Nat → Bool) : msk f A.W < 2 ^ 31 := by have := msk_lt f A.W; have := w.pw; omega
theorem TQ_putI (k : Nat) {r c : Nat} (hr : r < 60) (hc : c < 8) {x : Int32} (hx : x = nI c) (S : Nat → Int32) (v : Int32) : M_X6_put k 60 8 480 S (nI r) x v = some (upd S (r * 8 + c) v) := by
  rw [hx, TQ_put, tPut_nI hr hc (by decide) (by decide)]
theorem TT_putI (k : Nat) {r c : Nat} (hr : r < 12) (hc : c < 3) {x : Int32} (hx : x = nI c) (S : Nat → Int32) (v : Int32) : M_X6_put k 12 3 36 S (nI r) x v = some (upd S (r * 3 + c) v) := by
  rw [hx, TT_put, tPut_nI hr hc (by decide) (by decide)]
theorem TQ_atI (k : Nat) {r c : Nat} (hr : r < 60) (hc : c < 8) {x : Int32} (hx : x = nI c) (S : Nat → Int32) : M_X6_at k 60 8 480 S (nI r) x = some (S (r * 8 + c)) := by
  rw [hx, TQ_at, tAt_nI hr hc (by decide) (by decide)]
theorem TT_atI (k : Nat) {r c : Nat} (hr : r < 12) (hc : c < 3) {x : Int32} (hx : x = nI c) (S : Nat → Int32) : M_X6_at k 12 3 36 S (nI r) x = some (S (r * 3 + c)) := by
  rw [hx, TT_at, tAt_nI hr hc (by decide) (by decide)]
theorem TK_atI (k : Nat) {r c : Nat} (hr : r < 12) (hc : c < 12) (S : Nat → Int32) : M_X6_at k 12 12 144 S (nI r) (nI c) = some (S (r * 12 + c)) := by
  rw [TK_at, tAt_nI hr hc (by decide) (by decide)]
section CLS
variable {F : VV} {A : AF} {fg : Nat → Nat} {ks : KL}
theorem RelC.q (R : RelC F A fg ks) (w : AW A) (k : Nat) {r : Nat} (hr : r < A.n) (c : Nat) {x : Int32} (hx : x = nI c := by rfl) (hc : c < 8 := by decide) : M_X6_at k 60 8 480 (F 4) (nI r) x = some (A.Q r c) := by
  have := w.n60
  rw [TQ_atI k (by omega) hc hx, R.rq r c hr hc]
theorem RelC.shard (R : RelC F A fg ks) (w : AW A) (k : Nat) {t : Nat} (ht : t < A.m) : M_X0_shardOf k F (nI t) = some (nI (A.sh t)) := by
  have := w.m12
  unfold M_X0_shardOf M_X0_shardOf_0
  rw [TT_atI k (r := t) (c := 0) (x := 0) (by omega) (by decide) rfl, (R.te t ht).1]
  rfl
theorem RelC.qend (R : RelC F A fg ks) (w : AW A) (k : Nat) {t : Nat} (ht : t < A.m) {x : Int32} (hx : x = nI 1 := by rfl) : M_X6_at k 12 3 36 (F 3) (nI t) x = some (A.qe t) := by
  have := w.m12
  rw [TT_atI k (r := t) (c := 1) (by omega) (by decide) hx, (R.te t ht).2.1]
theorem RelC.forg (R : RelC F A fg ks) (w : AW A) (k : Nat) {t : Nat} (ht : t < A.m) {x : Int32} (hx : x = nI 2 := by rfl) : M_X6_at k 12 3 36 (F 3) (nI t) x = some (nI (fg t)) := by
  have := w.m12
  rw [TT_atI k (r := t) (c := 2) (by omega) (by decide) hx, (R.te t ht).2.2]
theorem RelC.set (R : RelC F A fg ks) (k : Nat) (i : Nat) {x : Int32} (hx : x = nI i := by rfl) (hi : i < 5 := by decide) : M_X5_at k 5 (F 1) x = some (nI (A.st i)) := by
  rw [hx, R_atI k hi (by decide), R.se i hi]
theorem RelC.ln (R : RelC F A fg ks) (w : AW A) (l : AL A) (k : Nat) {i : Nat} (hi : i < A.ln.length) : M_X5_at k 60 (F 5) (nI i) = some (nI (A.ln.getD i 0)) := by
  have := l.len w
  rw [R_atI k (by omega) (by decide), R.li i hi, getD_lt hi]
theorem AL.get {A : AF} (l : AL A) {i : Nat} (hi : i < A.ln.length) : A.ln.getD i 0 < A.n := by
  rw [getD_lt hi]
  exact l.me _ (List.getElem_mem hi)
theorem RelC.quar (R : RelC F A fg ks) (w : AW A) (k : Nat) {t : Nat} (ht : t < A.m) : M_X0_isQuarantined k F (nI t) = some (b1 (A.qe t != -1)) := by
  unfold M_X0_isQuarantined M_X0_isQuarantined_0
  rw [R.qend w k ht, Option.bind_some]
  by_cases h : A.qe t = -1
  · rw [if_pos h, h]; rfl
  · rw [if_neg h, show (A.qe t != -1) = true from bne_iff_ne.mpr h]; rfl
theorem andmask {a : Nat} {f : Nat → Bool} {W : Nat} (ha : a < 2 ^ W) (hW : W ≤ 12) : nI a &&& nI (msk f W) = nI (msk (fun i => a.testBit i && f i) W) := by
  rw [and_nI]
  congr 1
  apply Nat.eq_of_testBit_eq
  intro i
  rw [Nat.testBit_and, msk_bit, msk_bit]
  by_cases hi : i < W
  · simp [hi]
  · simp [hi]
/-- a set of workers is down -/
def cut (A : AF) (t : Nat) : Bool := msk (fun i => (A.sh t).testBit i && A.up i) A.W == 0
theorem cut_un (A : AF) (t : Nat) : cut A t = (msk (fun i => (A.sh t).testBit i && A.up i) A.W == 0) := rfl
theorem RelC.cut (R : RelC F A fg ks) (w : AW A) (k : Nat) {t : Nat} (ht : t < A.m) : M_X0_isCutOff k F (nI t) = some (b1 (cut A t)) := by
  unfold M_X0_isCutOff M_X0_isCutOff_0
  rw [R.shard w k ht, Option.bind_some, R.s5, andmask (w.sh t ht) w.w12]
  have hb := w.up31 (fun i => (A.sh t).testBit i && A.up i)
  rw [cut_un]
  by_cases h : msk (fun i => (A.sh t).testBit i && A.up i) A.W = 0
  · rw [h]; rfl
  · have h2 : ¬ nI (msk (fun i => (A.sh t).testBit i && A.up i) A.W) = 0 := nI_ne0 (by omega) hb
    rw [if_neg h2, show (msk (fun i => (A.sh t).testBit i && A.up i) A.W == 0) = false from beq_false_of_ne h]; rfl
theorem RelC.isUp (R : RelC F A fg ks) (w : AW A) (k : Nat) {i : Nat} (hi : i < A.W) : M_X0_isUp k F (nI i) = some (b1 (A.up i)) := by
  have := w.w12
  unfold M_X0_isUp M_X0_isUp_0
  rw [R.s5, has0 k (w.up31 _) (by omega), Option.bind_some, msk_bit]
  simp [hi]
  cases A.up i <;> rfl
theorem b1_0 (b : Bool) : (b1 b = 0) ↔ b = false := by cases b <;> decide
theorem ite_b1 {α : Type} (b : Bool) (x y : α) : (if b1 b = 0 then x else y) = if b then y else x := by cases b <;> rfl
theorem add_b1 (b : Bool) (a : Int32) : (if b then a + 1 else a) = a + b1 b := by cases b <;> simp [b1]
end CLS
