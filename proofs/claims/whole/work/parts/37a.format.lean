-- ===== the text of a worker =====
def emX (X : VV) (n : Nat) (v : Int32) : VV := va_up (va_up X 1 (upd (X 1) n v)) 0 (upd (X 0) 0 (nI (n + 1)))
def emT (T : VV) (n : Nat) (v : Int32) : VV := va_up (va_up T 7 (upd (T 7) n v)) 0 (upd (T 0) 5 (nI (n + 1)))
def emXs : VV → Nat → List Int32 → VV
  | X, _, [] => X
  | X, n, v :: l => emXs (emX X n v) (n + 1) l
def emTs : VV → Nat → List Int32 → VV
  | T, _, [] => T
  | T, n, v :: l => emTs (emT T n v) (n + 1) l
theorem emXs_app : ∀ (a : List Int32) (X : VV) (n : Nat) (b : List Int32), emXs X n (a ++ b) = emXs (emXs X n a) (n + a.length) b
  | [], X, n, b => rfl
  | v :: a, X, n, b => by
    have ih := emXs_app a (emX X n v) (n + 1) b
    show emXs (emX X n v) (n + 1) (a ++ b) = emXs (emXs (emX X n v) (n + 1) a) (n + (a.length + 1)) b
    rw [ih]
    congr 1
    omega
theorem emTs_app : ∀ (a : List Int32) (T : VV) (n : Nat) (b : List Int32), emTs T n (a ++ b) = emTs (emTs T n a) (n + a.length) b
  | [], T, n, b => rfl
  | v :: a, T, n, b => by
    have ih := emTs_app a (emT T n v) (n + 1) b
    show emTs (emT T n v) (n + 1) (a ++ b) = emTs (emTs (emT T n v) (n + 1) a) (n + (a.length + 1)) b
    rw [ih]
    congr 1
    omega
def BR (X T : VV) (n : Nat) : Prop := X 0 0 = nI n ∧ T 0 5 = nI n ∧ ∀ i, i < n → X 1 i = T 7 i
theorem BR.em {X T : VV} {n : Nat} (h : BR X T n) (v : Int32) : BR (emX X n v) (emT T n v) (n + 1) := by
  refine ⟨rfl, rfl, fun i hi => ?_⟩
  show upd (X 1) n v i = upd (T 7) n v i
  by_cases e : i = n
  · subst e; rw [upd_self, upd_self]
  · rw [upd_ne _ _ e, upd_ne _ _ e]; exact h.2.2 i (by omega)
theorem BR.ems : ∀ (l : List Int32) {X T : VV} {n : Nat}, BR X T n → BR (emXs X n l) (emTs T n l) (n + l.length)
  | [], _, _, _, h => h
  | v :: l, X, T, n, h => by
    have ih := BR.ems l (h.em v)
    rw [show n + 1 + l.length = n + (v :: l).length by rw [List.length_cons]; omega] at ih
    exact ih
theorem emTs_f : ∀ (l : List Int32) (T : VV) (n : Nat), (∀ j, j ≠ 0 → j ≠ 7 → emTs T n l j = T j) ∧ ∀ c, c ≠ 5 → emTs T n l 0 c = T 0 c
  | [], _, _ => ⟨fun _ _ _ => rfl, fun _ _ => rfl⟩
  | v :: l, T, n => by
    obtain ⟨h1, h2⟩ := emTs_f l (emT T n v) (n + 1)
    refine ⟨fun j h0 h7 => (h1 j h0 h7).trans ?_, fun c hc => (h2 c hc).trans ?_⟩
    · show va_up (va_up T 7 _) 0 _ j = T j
      rw [vaN _ _ h0, vaN _ _ h7]
    · exact upd_ne _ _ hc
def digs (v : Int32) : List Int32 := if v < 10 then [48 + (v - v / 10 * 10)] else [48 + v / 10, 48 + (v - v / 10 * 10)]
theorem digs_len (v : Int32) : (digs v).length ≤ 2 := by
  unfold digs
  split
  · exact (by decide : (1 : Nat) ≤ 2)
  · exact (by decide : (2 : Nat) ≤ 2)
theorem lt10 (v : Int32) : v < 10 ↔ v ≤ 9 := by
  rw [Int32.lt_iff_toInt_lt, Int32.le_iff_toInt_le]
  have a : (10 : Int32).toInt = 10 := by decide
  have b : (9 : Int32).toInt = 9 := by decide
  omega
section EM
variable {k : Nat}
theorem c_app (hk : 20000 ≤ k) {t : Nat} (ht : (txB t).length < 100) : ∀ (l : List Int32) (i : Nat) (X : VV) (n : Nat), i + l.length = (txB t).length → (txB t).drop i = l → X 0 0 = nI n → n + l.length ≤ 428 → ∀ fuel, l.length < fuel → M_X8_append_2 k fuel t (nI i) X = some (emXs X n l)
  | [], i, X, n, hil, hl, hX, hn, fuel, hf => by
    obtain ⟨f, rfl⟩ : ∃ f, fuel = f + 1 := ⟨fuel - 1, by omega⟩
    have hi : (txB t).length ≤ i := List.drop_eq_nil_iff.mp hl
    rw [List.length_nil] at hil
    simp only [M_X8_append_2]
    rw [if_pos (nI_le hi (by omega))]
    rfl
  | v :: l, i, X, n, hil, hl, hX, hn, fuel, hf => by
    obtain ⟨f, rfl⟩ : ∃ f, fuel = f + 1 := ⟨fuel - 1, by omega⟩
    rw [List.length_cons] at hn hf hil
    have hi : i < (txB t).length := by omega
    have hd := List.drop_eq_getElem_cons hi
    rw [hl] at hd
    have hv : v = (txB t)[i] := (List.cons.inj hd).1
    have hl2 : (txB t).drop (i + 1) = l := (List.cons.inj hd).2.symm
    have h2 : va_up X 1 (upd (X 1) n v) 0 0 = nI n := hX
    simp only [M_X8_append_2, lt_eq]
    rw [if_neg (nI_ge hi (by omega)), if_pos (inb_nI hi (by omega)), nI_clamp (by omega), List.getD_eq_getElem?_getD, List.getElem?_eq_getElem hi, Option.getD_some, ← hv, hX, R_putI k (by omega) (by decide), Option.bind_some, h2, nI_1, nI_1]
    exact c_app hk ht l (i + 1) (emX X n v) (n + 1) (by omega) hl2 rfl (by omega) f (by omega)
theorem c_append (hk : 20000 ≤ k) {t : Nat} (ht : (txB t).length < 100) {X : VV} {n : Nat} (hX : X 0 0 = nI n) (hn : n + (txB t).length ≤ 428) : M_X8_append k X t = some (emXs X n (txB t)) := by
  have := c_app hk ht (txB t) 0 X n (by omega) rfl hX hn k (by omega)
  rw [nI_0] at this
  exact this
theorem c_number {X : VV} {n : Nat} (hX : X 0 0 = nI n) (hn : n + 2 ≤ 428) (v : Int32) : M_X8_appendNumber k X v = some (emXs X n (digs v)) := by
  have last : ∀ (Y : VV) (m : Nat), Y 0 0 = nI m → m + 1 ≤ 428 → M_X8_appendNumber_34 k v Y = some (emX Y m (48 + (v - v / 10 * 10))) := fun Y m hY hm => by
    have h2 : va_up Y 1 (upd (Y 1) m (48 + (v - v / 10 * 10))) 0 0 = nI m := hY
    simp only [M_X8_appendNumber_34, lt_eq]
    rw [hY, R_putI k (by omega) (by decide), Option.bind_some, h2, nI_1]
    rfl
  simp only [M_X8_appendNumber, M_X8_appendNumber_0, lt_eq, digs]
  by_cases h : v < 10
  · rw [if_pos h, if_pos h]
    exact last X n hX (by omega)
  · have h2 : va_up X 1 (upd (X 1) n (48 + v / 10)) 0 0 = nI n := hX
    rw [if_neg h, if_neg h, hX, R_putI k (by omega) (by decide), Option.bind_some, h2, nI_1]
    exact last (emX X n (48 + v / 10)) (n + 1) rfl (by omega)
theorem r_write {T : VV} {n : Nat} (hT : T 0 5 = nI n) (hn : n < 500) (v : Int32) : M_X10_write k T v = some (emT T n v) := by
  have h2 : va_up T 7 (upd (T 7) n v) 0 5 = nI n := hT
  simp only [M_X10_write, M_X10_write_0, lt_eq]
  rw [hT, if_pos (inb_nI hn (by decide)), nI_clamp (by omega), h2, nI_1]
  rfl
theorem r_app (hk : 20000 ≤ k) {t : Nat} (ht : (txB t).length < 100) : ∀ (l : List Int32) (i : Nat) (T : VV) (n : Nat), i + l.length = (txB t).length → (txB t).drop i = l → T 0 5 = nI n → n + l.length ≤ 428 → ∀ fuel, l.length < fuel → M_X10_writeText_2 k fuel t (nI i) T = some (emTs T n l)
  | [], i, T, n, hil, hl, hX, hn, fuel, hf => by
    obtain ⟨f, rfl⟩ : ∃ f, fuel = f + 1 := ⟨fuel - 1, by omega⟩
    have hi : (txB t).length ≤ i := List.drop_eq_nil_iff.mp hl
    rw [List.length_nil] at hil
    simp only [M_X10_writeText_2]
    rw [if_pos (nI_le hi (by omega))]
    rfl
  | v :: l, i, T, n, hil, hl, hX, hn, fuel, hf => by
    obtain ⟨f, rfl⟩ : ∃ f, fuel = f + 1 := ⟨fuel - 1, by omega⟩
    rw [List.length_cons] at hn hf hil
    have hi : i < (txB t).length := by omega
    have hd := List.drop_eq_getElem_cons hi
    rw [hl] at hd
    have hv : v = (txB t)[i] := (List.cons.inj hd).1
    have hl2 : (txB t).drop (i + 1) = l := (List.cons.inj hd).2.symm
    simp only [M_X10_writeText_2]
    rw [if_neg (nI_ge hi (by omega)), if_pos (inb_nI hi (by omega)), nI_clamp (by omega), List.getD_eq_getElem?_getD, List.getElem?_eq_getElem hi, Option.getD_some, ← hv, r_write hX (by omega), Option.bind_some, nI_1]
    exact r_app hk ht l (i + 1) (emT T n v) (n + 1) (by omega) hl2 rfl (by omega) f (by omega)
theorem r_text (hk : 20000 ≤ k) {t : Nat} (ht : (txB t).length < 100) {T : VV} {n : Nat} (hX : T 0 5 = nI n) (hn : n + (txB t).length ≤ 428) : M_X10_writeText k T t = some (emTs T n (txB t)) := by
  have := r_app hk ht (txB t) 0 T n (by omega) rfl hX hn k (by omega)
  rw [nI_0] at this
  exact this
theorem r_number {T : VV} {n : Nat} (hT : T 0 5 = nI n) (hn : n + 2 ≤ 428) (v : Int32) : M_X10_writeNumber k T v = some (emTs T n (digs v)) := by
  simp only [M_X10_writeNumber, M_X10_writeNumber_0, digs]
  by_cases h : v < 10
  · rw [if_pos h, if_pos ((lt10 v).mp h), r_write hT (by omega), Option.bind_some]
    rfl
  · rw [if_neg h, if_neg (fun e => h ((lt10 v).mpr e)), r_write hT (by omega), Option.bind_some, r_write (n := n + 1) rfl (by omega), Option.bind_some]
    rfl
end EM
def reqL (A : AF) (r : Nat) : List Int32 := [32] ++ (digs (nI r) ++ ((if A.Q r 3 = 1 then [33] else []) ++ ([58] ++ digs (A.Q r 2))))
theorem reqL_len (A : AF) (r : Nat) : (reqL A r).length ≤ 7 := by
  have h1 := digs_len (nI r)
  have h2 := digs_len (A.Q r 2)
  unfold reqL
  rw [List.length_append, List.length_append, List.length_append, List.length_append]
  split <;> simp <;> omega
theorem find_fil {p q : Nat → Bool} : ∀ (l : List Nat), (l.filter p).find? q = l.find? (fun x => p x && q x)
  | [] => rfl
  | a :: l => by
    have ih := find_fil (p := p) (q := q) l
    rw [List.filter_cons, List.find?_cons]
    by_cases h : p a = true
    · rw [if_pos h, List.find?_cons, h, Bool.true_and, ih]
    · have h2 : p a = false := by simpa using h
      rw [if_neg h, h2, Bool.false_and, ih]
/-- in a line that tickets order: who comes behind the one at a place -/
theorem find_next {tkt : Nat → Nat} {q : List Nat} (hs : q.Pairwise (fun a b => tkt a < tkt b)) {i tic : Nat} (h1 : ∀ x, x ∈ q.take i → tkt x < tic) (h2 : ∀ x, x ∈ q.drop i → tic ≤ tkt x) : q.find? (fun r => decide (tic ≤ tkt r)) = q[i]? := by
  have e : q = q.take i ++ q.drop i := (List.take_append_drop i q).symm
  rw [e, find_skip (fun x hx => decide_eq_false (by have := h1 x hx; omega)), ← e]
  cases hd : q.drop i with
  | nil =>
    have hl : q.length ≤ i := List.drop_eq_nil_iff.mp hd
    rw [List.getElem?_eq_none hl]
    rfl
  | cons a l =>
    have ha := h2 a (by rw [hd]; exact List.mem_cons_self)
    rw [List.find?_cons, decide_eq_true ha]
    have : (q.drop i)[0]? = q[i]? := by rw [List.getElem?_drop, Nat.add_zero]
    rw [← this, hd]
    rfl
