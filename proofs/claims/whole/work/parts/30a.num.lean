-- ===== MATH LAYER: numbers, indexes, loops =====
theorem lt_eq {α β : Type} (x : α) (f : α → Option β) : lt x f = f x := rfl
theorem inb_nI {i n : Nat} (h : i < n) (hn : n < 2 ^ 31) : inb (nI i) n = true := by
  unfold inb
  rw [decide_eq_false (nI_pos (by omega)), nI_clamp (by omega), decide_eq_false (by omega)]
  rfl
theorem nI_notneg {i : Nat} (h : i < 2 ^ 31) : ¬ nI i < 0 := nI_pos h
theorem m1_ne {i : Nat} (h : i < 2 ^ 31) : ¬ nI i = -1 := fun e => by
  have h1 := nI_toInt h
  rw [e] at h1
  have h2 : (-1 : Int32).toInt = -1 := by decide
  omega
theorem nI_sub1 (i : Nat) : nI (i + 1) + (-1) = nI i := by
  rw [← nI_1]
  rw [Int32.add_assoc]
  show nI i + 0 = nI i
  exact Int32.add_zero _
theorem nI_sub {a b : Nat} (h : b ≤ a) : nI a - nI b = nI (a - b) := by
  have e : nI a = nI (a - b) + nI b := by rw [nI_add]; congr 1; omega
  rw [e, Int32.add_sub_cancel]
theorem nI_mul (a b : Nat) : nI a * nI b = nI (a * b) := (Int32.ofNat_mul a b).symm
/-- a loop that counts up: each round a step, then the end -/
theorem loop_up {α β : Type} (M : Nat → Int32 → α → Option β) (N : Nat) (stp : Nat → α → Option α) (fin : α → Option β)
    (hs : ∀ n i a, i < N → M (n + 1) (nI i) a = (stp i a).bind (M n (nI (i + 1)))) (he : ∀ n a, M (n + 1) (nI N) a = fin a) (P : Nat → α → Prop)
    (hP : ∀ i a, i < N → P i a → ∃ b, stp i a = some b ∧ P (i + 1) b) : ∀ (m i : Nat) (a : α), i + m = N → P i a → ∃ b, P N b ∧ ∀ fuel, m < fuel → M fuel (nI i) a = fin b := by
  intro m
  induction m with
  | zero =>
    intro i a hi hp
    have : i = N := by omega
    subst this
    refine ⟨a, hp, fun fuel hf => ?_⟩
    obtain ⟨f, rfl⟩ : ∃ f, fuel = f + 1 := ⟨fuel - 1, by omega⟩
    exact he f a
  | succ m ih =>
    intro i a hi hp
    obtain ⟨b, hb, hp1⟩ := hP i a (by omega) hp
    obtain ⟨c, hc, hM⟩ := ih (i + 1) b (by omega) hp1
    refine ⟨c, hc, fun fuel hf => ?_⟩
    obtain ⟨f, rfl⟩ : ∃ f, fuel = f + 1 := ⟨fuel - 1, by omega⟩
    rw [hs f i a (by omega), hb]
    exact hM f (by omega)
/-- the values that a loop goes through -/
def foldU {α : Type} (f : Nat → α → α) : Nat → α → α
  | 0, a => a
  | n + 1, a => f n (foldU f n a)
/-- a loop that counts up from 0 with a plain step, from its i-th round on -/
theorem loop_f {α β : Type} (M : Nat → Int32 → α → Option β) (N : Nat) (f : Nat → α → α) (fin : α → Option β)
    (hs : ∀ n i a, i < N → M (n + 1) (nI i) a = M n (nI (i + 1)) (f i a)) (he : ∀ n a, M (n + 1) (nI N) a = fin a) (a : α) : ∀ (m i : Nat), i + m = N → ∀ fuel, m < fuel → M fuel (nI i) (foldU f i a) = fin (foldU f N a) := by
  intro m
  induction m with
  | zero =>
    intro i hi fuel hf
    have : i = N := by omega
    subst this
    obtain ⟨g, rfl⟩ : ∃ g, fuel = g + 1 := ⟨fuel - 1, by omega⟩
    exact he g _
  | succ m ih =>
    intro i hi fuel hf
    obtain ⟨g, rfl⟩ : ∃ g, fuel = g + 1 := ⟨fuel - 1, by omega⟩
    rw [hs g i _ (by omega)]
    exact ih (i + 1) (by omega) g (by omega)
theorem loop_f0 {α β : Type} (M : Nat → Int32 → α → Option β) (N : Nat) (f : Nat → α → α) (fin : α → Option β)
    (hs : ∀ n i a, i < N → M (n + 1) (nI i) a = M n (nI (i + 1)) (f i a)) (he : ∀ n a, M (n + 1) (nI N) a = fin a) (a : α) {fuel : Nat} (hf : N < fuel) : M fuel 0 a = fin (foldU f N a) := by
  have := loop_f M N f fin hs he a N 0 (Nat.zero_add N) fuel hf
  rw [nI_0] at this
  exact this
/-- two loops side by side -/
theorem loop_2 {α β γ δ : Type} (M : Nat → Int32 → α → Option γ) (M' : Nat → Int32 → β → Option δ) (N : Nat) (R : Nat → α → β → Prop) (Q : γ → δ → Prop)
    (hs : ∀ i a b, i < N → R i a b → ∃ a' b', R (i + 1) a' b' ∧ (∀ n, M (n + 1) (nI i) a = M n (nI (i + 1)) a') ∧ (∀ n, M' (n + 1) (nI i) b = M' n (nI (i + 1)) b'))
    (he : ∀ a b, R N a b → ∃ c d, Q c d ∧ (∀ n, M (n + 1) (nI N) a = some c) ∧ (∀ n, M' (n + 1) (nI N) b = some d)) :
    ∀ (m i : Nat) (a : α) (b : β), i + m = N → R i a b → ∃ c d, Q c d ∧ ∀ fuel, m < fuel → M fuel (nI i) a = some c ∧ M' fuel (nI i) b = some d := by
  intro m
  induction m with
  | zero =>
    intro i a b hi hr
    have : i = N := by omega
    subst this
    obtain ⟨c, d, hq, h1, h2⟩ := he a b hr
    refine ⟨c, d, hq, fun fuel hf => ?_⟩
    obtain ⟨g, rfl⟩ : ∃ g, fuel = g + 1 := ⟨fuel - 1, by omega⟩
    exact ⟨h1 g, h2 g⟩
  | succ m ih =>
    intro i a b hi hr
    obtain ⟨a', b', hr1, h1, h2⟩ := hs i a b (by omega) hr
    obtain ⟨c, d, hq, h3⟩ := ih (i + 1) a' b' (by omega) hr1
    refine ⟨c, d, hq, fun fuel hf => ?_⟩
    obtain ⟨g, rfl⟩ : ∃ g, fuel = g + 1 := ⟨fuel - 1, by omega⟩
    rw [h1 g, h2 g]
    exact h3 g (by omega)
-- ===== Row and Table: total functions =====
def rAt (n : Nat) (S : Nat → Int32) (p : Int32) : Int32 := if inb p n = true then S p.toNatClampNeg else 0
def rPut (n : Nat) (S : Nat → Int32) (p v : Int32) : Nat → Int32 := if inb p n = true then upd S p.toNatClampNeg v else S
theorem inb_cases (p : Int32) {n : Nat} (hn : n < 2 ^ 31) : (inb p n = true ∧ ¬ p < 0 ∧ ¬ nI n ≤ p) ∨ (¬ inb p n = true ∧ (p < 0 ∨ (¬ p < 0 ∧ nI n ≤ p))) := by
  by_cases h0 : p < 0
  · refine Or.inr ⟨?_, Or.inl h0⟩
    unfold inb
    rw [decide_eq_true h0]
    simp
  · obtain ⟨j, hj, rfl⟩ := nI_of h0
    by_cases h1 : j < n
    · exact Or.inl ⟨inb_nI h1 hn, h0, nI_ge h1 hn⟩
    · refine Or.inr ⟨?_, Or.inr ⟨h0, nI_le (by omega) hj⟩⟩
      unfold inb
      rw [nI_clamp hj, decide_eq_true (by omega : n ≤ j)]
      simp
theorem R_at (k : Nat) {n : Nat} (hn : n < 2 ^ 31) (S : Nat → Int32) (p : Int32) : M_X5_at k n S p = some (rAt n S p) := by
  unfold M_X5_at M_X5_at_0 rAt
  rcases inb_cases p hn with ⟨h1, h2, h3⟩ | ⟨h1, h2 | ⟨h2, h3⟩⟩
  · rw [if_neg h2, if_neg h3, if_pos h1, if_pos h1]
  · rw [if_pos h2, if_neg h1]
  · rw [if_neg h2, if_pos h3, if_neg h1]
theorem R_put (k : Nat) {n : Nat} (hn : n < 2 ^ 31) (S : Nat → Int32) (p v : Int32) : M_X5_put k n S p v = some (rPut n S p v) := by
  unfold M_X5_put M_X5_put_0 rPut lt
  rcases inb_cases p hn with ⟨h1, h2, h3⟩ | ⟨h1, h2 | ⟨h2, h3⟩⟩
  · rw [if_neg h2, if_neg h3, if_pos h1, if_pos h1]
  · rw [if_pos h2, if_neg h1]
  · rw [if_neg h2, if_pos h3, if_neg h1]
theorem rAt_nI {n i : Nat} (h : i < n) (hn : n < 2 ^ 31) (S : Nat → Int32) : rAt n S (nI i) = S i := by
  unfold rAt
  rw [if_pos (inb_nI h hn), nI_clamp (by omega)]
theorem rPut_nI {n i : Nat} (h : i < n) (hn : n < 2 ^ 31) (S : Nat → Int32) (v : Int32) : rPut n S (nI i) v = upd S i v := by
  unfold rPut
  rw [if_pos (inb_nI h hn), nI_clamp (by omega)]
theorem R_atI (k : Nat) {n i : Nat} (h : i < n) (hn : n < 2 ^ 31) (S : Nat → Int32) : M_X5_at k n S (nI i) = some (S i) := by rw [R_at k hn, rAt_nI h hn]
theorem R_putI (k : Nat) {n i : Nat} (h : i < n) (hn : n < 2 ^ 31) (S : Nat → Int32) (v : Int32) : M_X5_put k n S (nI i) v = some (upd S i v) := by rw [R_put k hn, rPut_nI h hn]
def tIn (rr rc : Nat) (p q : Int32) : Prop := inb p rr = true ∧ inb q rc = true
noncomputable def tAt (rr rc : Nat) (S : Nat → Int32) (p q : Int32) : Int32 := if inb p rr = true ∧ inb q rc = true then S (p.toNatClampNeg * rc + q.toNatClampNeg) else 0
noncomputable def tPut (rr rc : Nat) (S : Nat → Int32) (p q v : Int32) : Nat → Int32 := if inb p rr = true ∧ inb q rc = true then upd S (p.toNatClampNeg * rc + q.toNatClampNeg) v else S
theorem cell_lt {i j r c : Nat} (hi : i < r) (hj : j < c) : i * c + j < r * c := by
  have h1 : (i + 1) * c ≤ r * c := Nat.mul_le_mul_right c hi
  have h2 : (i + 1) * c = i * c + c := Nat.succ_mul i c
  omega
theorem T_at (k : Nat) {r c n : Nat} (hn : n = r * c) (h31 : n < 2 ^ 31) (hr : r < 2 ^ 31) (hc : c < 2 ^ 31) (S : Nat → Int32) (p q : Int32) : M_X6_at k (nI r) (nI c) n S p q = some (tAt r c S p q) := by
  simp only [M_X6_at, M_X6_at_0, tAt, lt_eq]
  have hout : ∀ x, M_X6_at_38 k (nI r) (nI c) n S x (0 : Int32) = some 0 := fun x => by unfold M_X6_at_38; rw [if_pos rfl]
  rcases inb_cases p hr with ⟨h1, h2, h3⟩ | ⟨h1, h2 | ⟨h2, h3⟩⟩
  · rcases inb_cases q hc with ⟨g1, g2, g3⟩ | ⟨g1, g2 | ⟨g2, g3⟩⟩
    · rw [if_neg h2, if_neg h3, if_neg g2, if_neg g3, if_pos ⟨h1, g1⟩]
      obtain ⟨i, hi, rfl⟩ := nI_of h2
      obtain ⟨j, hj, rfl⟩ := nI_of g2
      have hi2 := inb_cl h1
      have hj2 := inb_cl g1
      rw [nI_clamp hi] at hi2
      rw [nI_clamp hj] at hj2
      have hl := cell_lt hi2 hj2
      rw [nI_mul, nI_add, nI_clamp hi, nI_clamp hj]
      unfold M_X6_at_38
      rw [if_neg (by decide), if_neg (nI_pos (by omega)), if_neg (nI_ge (by omega) h31), if_pos (inb_nI (by omega) h31), nI_clamp (by omega)]
    · rw [if_neg h2, if_neg h3, if_pos g2, hout, if_neg (fun h => g1 h.2)]
    · rw [if_neg h2, if_neg h3, if_neg g2, if_pos g3, hout, if_neg (fun h => g1 h.2)]
  · rw [if_pos h2, hout, if_neg (fun h => h1 h.1)]
  · rw [if_neg h2, if_pos h3, hout, if_neg (fun h => h1 h.1)]
theorem T_put (k : Nat) {r c n : Nat} (hn : n = r * c) (h31 : n < 2 ^ 31) (hr : r < 2 ^ 31) (hc : c < 2 ^ 31) (S : Nat → Int32) (p q v : Int32) : M_X6_put k (nI r) (nI c) n S p q v = some (tPut r c S p q v) := by
  simp only [M_X6_put, M_X6_put_0, tPut, lt_eq]
  have hout : ∀ x y, M_X6_put_39 k (nI r) (nI c) n x y (0 : Int32) S = some S := fun x y => by simp [M_X6_put_39]
  rcases inb_cases p hr with ⟨h1, h2, h3⟩ | ⟨h1, h2 | ⟨h2, h3⟩⟩
  · rcases inb_cases q hc with ⟨g1, g2, g3⟩ | ⟨g1, g2 | ⟨g2, g3⟩⟩
    · rw [if_neg h2, if_neg h3, if_neg g2, if_neg g3, if_pos ⟨h1, g1⟩]
      obtain ⟨i, hi, rfl⟩ := nI_of h2
      obtain ⟨j, hj, rfl⟩ := nI_of g2
      have hi2 := inb_cl h1
      have hj2 := inb_cl g1
      rw [nI_clamp hi] at hi2
      rw [nI_clamp hj] at hj2
      have hl := cell_lt hi2 hj2
      rw [nI_mul, nI_add, nI_clamp hi, nI_clamp hj]
      simp only [M_X6_put_39, lt_eq]
      rw [if_neg (by decide), if_neg (nI_pos (by omega)), if_neg (nI_ge (by omega) h31), if_pos (inb_nI (by omega) h31), nI_clamp (by omega)]
    · rw [if_neg h2, if_neg h3, if_pos g2, hout, if_neg (fun h => g1 h.2)]
    · rw [if_neg h2, if_neg h3, if_neg g2, if_pos g3, hout, if_neg (fun h => g1 h.2)]
  · rw [if_pos h2, hout, if_neg (fun h => h1 h.1)]
  · rw [if_neg h2, if_pos h3, hout, if_neg (fun h => h1 h.1)]
theorem tAt_nI {r c i j : Nat} (hi : i < r) (hj : j < c) (hr : r < 2 ^ 31) (hc : c < 2 ^ 31) (S : Nat → Int32) : tAt r c S (nI i) (nI j) = S (i * c + j) := by
  unfold tAt
  rw [if_pos ⟨inb_nI hi hr, inb_nI hj hc⟩, nI_clamp (by omega), nI_clamp (by omega)]
theorem tPut_nI {r c i j : Nat} (hi : i < r) (hj : j < c) (hr : r < 2 ^ 31) (hc : c < 2 ^ 31) (S : Nat → Int32) (v : Int32) : tPut r c S (nI i) (nI j) v = upd S (i * c + j) v := by
  unfold tPut
  rw [if_pos ⟨inb_nI hi hr, inb_nI hj hc⟩, nI_clamp (by omega), nI_clamp (by omega)]
theorem upd_self (S : Nat → Int32) (i : Nat) (v : Int32) : upd S i v i = v := if_pos rfl
theorem upd_ne (S : Nat → Int32) {i j : Nat} (v : Int32) (h : j ≠ i) : upd S i v j = S j := if_neg h
-- the three tables of the class
theorem TT_at (k : Nat) (S : Nat → Int32) (p q : Int32) : M_X6_at k 12 3 36 S p q = some (tAt 12 3 S p q) := T_at k (r := 12) (c := 3) rfl (by decide) (by decide) (by decide) S p q
theorem TT_put (k : Nat) (S : Nat → Int32) (p q v : Int32) : M_X6_put k 12 3 36 S p q v = some (tPut 12 3 S p q v) := T_put k (r := 12) (c := 3) rfl (by decide) (by decide) (by decide) S p q v
theorem TQ_at (k : Nat) (S : Nat → Int32) (p q : Int32) : M_X6_at k 60 8 480 S p q = some (tAt 60 8 S p q) := T_at k (r := 60) (c := 8) rfl (by decide) (by decide) (by decide) S p q
theorem TQ_put (k : Nat) (S : Nat → Int32) (p q v : Int32) : M_X6_put k 60 8 480 S p q v = some (tPut 60 8 S p q v) := T_put k (r := 60) (c := 8) rfl (by decide) (by decide) (by decide) S p q v
theorem TK_at (k : Nat) (S : Nat → Int32) (p q : Int32) : M_X6_at k 12 12 144 S p q = some (tAt 12 12 S p q) := T_at k (r := 12) (c := 12) rfl (by decide) (by decide) (by decide) S p q
theorem TK_put (k : Nat) (S : Nat → Int32) (p q v : Int32) : M_X6_put k 12 12 144 S p q v = some (tPut 12 12 S p q v) := T_put k (r := 12) (c := 12) rfl (by decide) (by decide) (by decide) S p q v
theorem TQ_add (k : Nat) (S : Nat → Int32) (p q v : Int32) : M_X6_add k 60 8 480 S p q v = some (tPut 60 8 S p q (tAt 60 8 S p q + v)) := by
  unfold M_X6_add M_X6_add_0
  rw [TQ_at, Option.bind_some, TQ_put, Option.bind_some]
theorem TK_add (k : Nat) (S : Nat → Int32) (p q v : Int32) : M_X6_add k 12 12 144 S p q v = some (tPut 12 12 S p q (tAt 12 12 S p q + v)) := by
  unfold M_X6_add M_X6_add_0
  rw [TK_at, Option.bind_some, TK_put, Option.bind_some]
