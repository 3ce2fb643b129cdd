-- ===== the signs of a text =====
theorem upd_upd (G : Nat → Int32) (i : Nat) (a b : Int32) : upd (upd G i a) i b = upd G i b := by
  funext j
  unfold upd
  by_cases h : j = i
  · rw [if_pos h, if_pos h]
  · rw [if_neg h, if_neg h, if_neg h]
def kob2 (x : Int32) : Nat := if x < 48 then 3 else if 57 < x then 3 else 2
def kob (x : Int32) : Nat := if x < 97 then kob2 x else if 122 < x then kob2 x else 1
def bl (x : Int32) : Bool := decide (x = 32 ∨ x = 10)
theorem c_kind (k : Nat) (x : Int32) : M_X7_kindOf k x = some (nI (kob x)) := by
  have h : M_X7_kindOf_14 k x = some (nI (kob2 x)) := by
    unfold M_X7_kindOf_14 kob2
    by_cases h1 : x < 48
    · rw [if_pos h1, if_pos h1]; rfl
    · rw [if_neg h1, if_neg h1]
      by_cases h2 : 57 < x
      · rw [if_pos h2, if_pos h2]; rfl
      · rw [if_neg h2, if_neg h2]; rfl
  unfold M_X7_kindOf M_X7_kindOf_0 kob
  by_cases h1 : x < 97
  · rw [if_pos h1, if_pos h1]; exact h
  · rw [if_neg h1, if_neg h1]
    by_cases h2 : 122 < x
    · rw [if_pos h2, if_pos h2]; exact h
    · rw [if_neg h2, if_neg h2]; rfl
theorem c_blank (k : Nat) (x : Int32) : M_X7_isBlank k x = some (if bl x = true then 1 else 0) := by
  unfold M_X7_isBlank M_X7_isBlank_0
  by_cases h1 : x = 32
  · rw [if_pos h1, if_pos (show bl x = true from decide_eq_true (Or.inl h1))]
  · rw [if_neg h1]
    by_cases h2 : x = 10
    · rw [if_pos h2, if_pos (show bl x = true from decide_eq_true (Or.inr h2))]
    · rw [if_neg h2, if_neg (show ¬ bl x = true from fun h => (of_decide_eq_true h).elim h1 h2)]
theorem kob2_ne1 (x : Int32) : ¬ kob2 x = 1 := by
  unfold kob2
  by_cases h1 : x < 48
  · rw [if_pos h1]; decide
  · rw [if_neg h1]
    by_cases h2 : 57 < x
    · rw [if_pos h2]; decide
    · rw [if_neg h2]; decide
theorem kob2_le (x : Int32) : 2 ≤ kob2 x ∧ kob2 x ≤ 3 := by
  unfold kob2
  by_cases h1 : x < 48
  · rw [if_pos h1]; decide
  · rw [if_neg h1]
    by_cases h2 : 57 < x
    · rw [if_pos h2]; decide
    · rw [if_neg h2]; decide
theorem kob_le (x : Int32) : 1 ≤ kob x ∧ kob x ≤ 3 := by
  have h := kob2_le x
  unfold kob
  by_cases h1 : x < 97
  · rw [if_pos h1]; omega
  · rw [if_neg h1]
    by_cases h2 : 122 < x
    · rw [if_pos h2]; omega
    · rw [if_neg h2]; omega
theorem kob2_2 {x : Int32} : kob2 x = 2 ↔ ¬ x < 48 ∧ ¬ 57 < x := by
  unfold kob2
  by_cases h1 : x < 48
  · rw [if_pos h1]; exact ⟨fun h => absurd h (by decide), fun h => absurd h1 h.1⟩
  · rw [if_neg h1]
    by_cases h2 : 57 < x
    · rw [if_pos h2]; exact ⟨fun h => absurd h (by decide), fun h => absurd h2 h.2⟩
    · rw [if_neg h2]; exact ⟨fun _ => ⟨h1, h2⟩, fun _ => rfl⟩
theorem kob_2 {x : Int32} : kob x = 2 ↔ ¬ x < 48 ∧ ¬ 57 < x := by
  rw [← kob2_2]
  unfold kob
  by_cases h1 : x < 97
  · rw [if_pos h1]
  · rw [if_neg h1]
    by_cases h2 : 122 < x
    · rw [if_pos h2]
    · rw [if_neg h2]
      refine ⟨fun h => absurd h (by decide), fun h => ?_⟩
      have h3 := (kob2_2.mp h).2
      exact absurd (Int32.lt_of_lt_of_le (show (57 : Int32) < 97 by decide) (Int32.not_lt.mp h1)) h3
theorem kob_1 {x : Int32} : kob x = 1 ↔ ¬ x < 97 ∧ ¬ 122 < x := by
  unfold kob
  by_cases h1 : x < 97
  · rw [if_pos h1]; exact ⟨fun h => absurd h (kob2_ne1 x), fun h => absurd h1 h.1⟩
  · rw [if_neg h1]
    by_cases h2 : 122 < x
    · rw [if_pos h2]; exact ⟨fun h => absurd h (kob2_ne1 x), fun h => absurd h2 h.2⟩
    · rw [if_neg h2]; exact ⟨fun _ => ⟨h1, h2⟩, fun _ => rfl⟩
/-- the worth of a digit -/
def dg (x : Int32) : Nat := x.toNatClampNeg - 48
theorem dg_of {x : Int32} (h : kob x = 2) : x = nI (48 + dg x) ∧ dg x ≤ 9 := by
  obtain ⟨h1, h2⟩ := kob_2.mp h
  have h0 : ¬ x < 0 := fun e => h1 (Int32.lt_trans e (by decide))
  obtain ⟨n, hn, rfl⟩ := nI_of h0
  have a : 48 ≤ n := Nat.le_of_not_lt (fun e => h1 (show nI n < nI 48 from nI_lt e (by decide)))
  have b : n ≤ 57 := Nat.le_of_not_lt (fun e => h2 (show nI 57 < nI n from nI_lt e hn))
  unfold dg
  rw [nI_clamp hn]
  exact ⟨by rw [show 48 + (n - 48) = n by omega], by omega⟩
/-- the number that stands at s, of so many digits -/
def dec (b : Nat → Int32) (s : Nat) : Nat → Nat
  | 0 => 0
  | i + 1 => dec b s i * 10 + dg (b (s + i))
theorem d_step (v d : Nat) : nI v * 10 + nI (48 + d) - 48 = nI (v * 10 + d) := by
  rw [show (10 : Int32) = nI 10 from rfl, nI_mul, nI_add, show (48 : Int32) = nI 48 from rfl, nI_sub (by omega)]
  congr 1
  omega
theorem min_100000 {w : Nat} (h : w < 2 ^ 31) : (if (100000 : Int32) < nI w then (100000 : Int32) else nI w) = nI (min w 100000) := by
  by_cases c : 100000 < w
  · rw [if_pos (show (100000 : Int32) < nI w from (show nI 100000 < nI w from nI_lt c h)), Nat.min_eq_right (by omega)]; rfl
  · rw [if_neg (show ¬ (100000 : Int32) < nI w from (show ¬ nI 100000 < nI w from nI_nlt (by omega) (by decide))), Nat.min_eq_left (by omega)]
theorem min_2e9 {v d : Nat} (hv : v ≤ 2000000000) (hd : d ≤ 9) : ((if ((10 : Int64) * (nI v).toInt64 + (nI (48 + d)).toInt64 - (48 : Int64)) < (2000000000 : Int64) then ((10 : Int64) * (nI v).toInt64 + (nI (48 + d)).toInt64 - (48 : Int64)) else (2000000000 : Int64)).toInt32) = nI (min (v * 10 + d) 2000000000) := by
  have e : (10 : Int64) * (nI v).toInt64 + (nI (48 + d)).toInt64 - (48 : Int64) = lI (v * 10 + d) := by
    rw [lI_of (by omega), lI_of (by omega), show (10 : Int64) = lI 10 from rfl, lI_mul, lI_add, show (48 : Int64) = lI 48 from rfl, lI_sub (by omega)]
    congr 1
    omega
  rw [e]
  by_cases c : v * 10 + d < 2000000000
  · have h : lI (v * 10 + d) < (2000000000 : Int64) := by
      rw [Int64.lt_iff_toInt_lt, lI_toInt (by omega), show (2000000000 : Int64) = lI 2000000000 from rfl, lI_toInt (by decide)]
      omega
    rw [if_pos h, lI_to, Nat.min_eq_left (by omega)]
  · have h : ¬ lI (v * 10 + d) < (2000000000 : Int64) := by
      rw [Int64.lt_iff_toInt_lt, lI_toInt (by omega), show (2000000000 : Int64) = lI 2000000000 from rfl, lI_toInt (by decide)]
      omega
    rw [if_neg h, Nat.min_eq_right (by omega)]
    rfl
theorem sk_ex (p : Nat → Bool) {L : Nat} : ∀ m i, i + m = L → ∃ s, i ≤ s ∧ s ≤ L ∧ (∀ j, i ≤ j → j < s → p j = true) ∧ (s < L → p s = false)
  | 0, i, h => ⟨i, Nat.le_refl _, by omega, fun j a b => absurd b (by omega), fun h2 => absurd h2 (by omega)⟩
  | m + 1, i, h => by
    by_cases hp : p i = true
    · obtain ⟨s, h1, h2, h3, h4⟩ := sk_ex p (L := L) m (i + 1) (by omega)
      refine ⟨s, by omega, h2, fun j a b => ?_, h4⟩
      by_cases e : j = i
      · rw [e]; exact hp
      · exact h3 j (by omega) b
    · exact ⟨i, Nat.le_refl _, by omega, fun j a b => absurd b (by omega), fun _ => by simpa using hp⟩
theorem loop_from {β : Type} (M : Nat → Nat → Option β) {i s : Nat} (hi : i ≤ s) (R : Option β) (hs : ∀ n j, i ≤ j → j < s → M (n + 1) j = M n (j + 1)) (he : ∀ n, M (n + 1) s = R) {fuel : Nat} (hf : s - i < fuel) : M fuel i = R :=
  loop_st0 (fun n j => M n (i + j)) (s - i) R (fun n j hj => hs n (i + j) (by omega) (by omega)) (fun n => by
    show M (n + 1) (i + (s - i)) = R
    rw [show i + (s - i) = s by omega]
    exact he n) hf
-- one token
def TOK (b : Nat → Int32) (L s e κ : Nat) : Prop := (L ≤ 700) ∧ (s ≤ e) ∧ (e ≤ L) ∧ (κ ≤ 3) ∧ (κ = 0 → s = L) ∧ (κ ≠ 0 → s < e) ∧ (∀ j, s ≤ j → j < e → kob (b j) = κ) ∧ (κ = 3 → e = s + 1)
theorem TOK.h7 {b : Nat → Int32} {L s e κ : Nat} (R__ : TOK b L s e κ) : L ≤ 700 := R__.1
theorem TOK.se {b : Nat → Int32} {L s e κ : Nat} (R__ : TOK b L s e κ) : s ≤ e := R__.2.1
theorem TOK.el {b : Nat → Int32} {L s e κ : Nat} (R__ : TOK b L s e κ) : e ≤ L := R__.2.2.1
theorem TOK.k3 {b : Nat → Int32} {L s e κ : Nat} (R__ : TOK b L s e κ) : κ ≤ 3 := R__.2.2.2.1
theorem TOK.z {b : Nat → Int32} {L s e κ : Nat} (R__ : TOK b L s e κ) : κ = 0 → s = L := R__.2.2.2.2.1
theorem TOK.p {b : Nat → Int32} {L s e κ : Nat} (R__ : TOK b L s e κ) : κ ≠ 0 → s < e := R__.2.2.2.2.2.1
theorem TOK.c {b : Nat → Int32} {L s e κ : Nat} (R__ : TOK b L s e κ) : ∀ j, s ≤ j → j < e → kob (b j) = κ := R__.2.2.2.2.2.2.1
theorem TOK.o {b : Nat → Int32} {L s e κ : Nat} (R__ : TOK b L s e κ) : κ = 3 → e = s + 1 := R__.2.2.2.2.2.2.2
theorem TOK.ofs {b : Nat → Int32} {L s e κ : Nat} (h7 : L ≤ 700) (se : s ≤ e) (el : e ≤ L) (k3 : κ ≤ 3) (z : κ = 0 → s = L) (p : κ ≠ 0 → s < e) (c : ∀ j, s ≤ j → j < e → kob (b j) = κ) (o : κ = 3 → e = s + 1) : TOK b L s e κ := ⟨h7, se, el, k3, z, p, c, o⟩
def NXT (b : Nat → Int32) (L e0 s e κ : Nat) : Prop := (TOK b L s e κ) ∧ (e0 ≤ s) ∧ (∀ j, e0 ≤ j → j < s → bl (b j) = true) ∧ (s < L → bl (b s) = false) ∧ (e < L → κ ≠ 3 → kob (b e) ≠ κ)
theorem NXT.tk {b : Nat → Int32} {L e0 s e κ : Nat} (R__ : NXT b L e0 s e κ) : TOK b L s e κ := R__.1
theorem NXT.es {b : Nat → Int32} {L e0 s e κ : Nat} (R__ : NXT b L e0 s e κ) : e0 ≤ s := R__.2.1
theorem NXT.bs {b : Nat → Int32} {L e0 s e κ : Nat} (R__ : NXT b L e0 s e κ) : ∀ j, e0 ≤ j → j < s → bl (b j) = true := R__.2.2.1
theorem NXT.nb {b : Nat → Int32} {L e0 s e κ : Nat} (R__ : NXT b L e0 s e κ) : s < L → bl (b s) = false := R__.2.2.2.1
theorem NXT.st {b : Nat → Int32} {L e0 s e κ : Nat} (R__ : NXT b L e0 s e κ) : e < L → κ ≠ 3 → kob (b e) ≠ κ := R__.2.2.2.2
theorem NXT.ofs {b : Nat → Int32} {L e0 s e κ : Nat} (tk : TOK b L s e κ) (es : e0 ≤ s) (bs : ∀ j, e0 ≤ j → j < s → bl (b j) = true) (nb : s < L → bl (b s) = false) (st : e < L → κ ≠ 3 → kob (b e) ≠ κ) : NXT b L e0 s e κ := ⟨tk, es, bs, nb, st⟩
theorem tok_next (b : Nat → Int32) {L e0 : Nat} (h7 : L ≤ 700) (he : e0 ≤ L) : ∃ s e κ, NXT b L e0 s e κ := by
  obtain ⟨s, h1, h2, h3, h4⟩ := sk_ex (fun j => bl (b j)) (L := L) (L - e0) e0 (by omega)
  by_cases hs : s < L
  · by_cases h : kob (b s) = 3
    · refine ⟨s, s + 1, 3, NXT.ofs (tk := TOK.ofs (h7 := h7) (se := by omega) (el := by omega) (k3 := by omega) (z := fun h => absurd h (by decide)) (p := fun _ => by omega) (c := fun j a c => ?_) (o := fun _ => rfl)) (es := h1) (bs := h3) (nb := h4) (st := fun _ h => absurd rfl h)⟩
      have e : j = s := by omega
      rw [e]; exact h
    · obtain ⟨e, g1, g2, g3, g4⟩ := sk_ex (fun j => decide (kob (b j) = kob (b s))) (L := L) (L - s) s (by omega)
      have hse : s < e := Nat.lt_of_le_of_ne g1 (fun q => by
        have := g4 (by omega)
        rw [← q] at this
        exact absurd this (by simp))
      have hk := kob_le (b s)
      refine ⟨s, e, kob (b s), NXT.ofs (tk := TOK.ofs (h7 := h7) (se := g1) (el := g2) (k3 := hk.2) (z := fun h => absurd h (by omega)) (p := fun _ => hse) (c := fun j a c => of_decide_eq_true (g3 j a c)) (o := fun h2 => absurd h2 h)) (es := h1) (bs := h3) (nb := h4) (st := fun h _ => of_decide_eq_false (g4 h))⟩
  · exact ⟨s, s, 0, NXT.ofs (tk := TOK.ofs (h7 := h7) (se := Nat.le_refl _) (el := h2) (k3 := by omega) (z := fun _ => by omega) (p := fun h => absurd rfl h) (c := fun j a c => absurd c (by omega)) (o := fun h => absurd h (by decide))) (es := h1) (bs := h3) (nb := h4) (st := fun h => absurd h hs)⟩
def KC (K : VV) (b : Nat → Int32) (L s e κ : Nat) : Prop := (K 0 0 = 0) ∧ (K 0 1 = 0) ∧ (K 0 2 = -1) ∧ (K 0 3 = nI L) ∧ (K 0 4 = nI s) ∧ (K 0 5 = nI e) ∧ (K 0 6 = nI κ) ∧ (κ = 2 → K 0 7 = nI (min (dec b s (e - s)) 100000)) ∧ (∀ i, i < L → K 1 i = b i)
theorem KC.k0 {K : VV} {b : Nat → Int32} {L s e κ : Nat} (R__ : KC K b L s e κ) : K 0 0 = 0 := R__.1
theorem KC.k1 {K : VV} {b : Nat → Int32} {L s e κ : Nat} (R__ : KC K b L s e κ) : K 0 1 = 0 := R__.2.1
theorem KC.k2 {K : VV} {b : Nat → Int32} {L s e κ : Nat} (R__ : KC K b L s e κ) : K 0 2 = -1 := R__.2.2.1
theorem KC.k3 {K : VV} {b : Nat → Int32} {L s e κ : Nat} (R__ : KC K b L s e κ) : K 0 3 = nI L := R__.2.2.2.1
theorem KC.k4 {K : VV} {b : Nat → Int32} {L s e κ : Nat} (R__ : KC K b L s e κ) : K 0 4 = nI s := R__.2.2.2.2.1
theorem KC.k5 {K : VV} {b : Nat → Int32} {L s e κ : Nat} (R__ : KC K b L s e κ) : K 0 5 = nI e := R__.2.2.2.2.2.1
theorem KC.k6 {K : VV} {b : Nat → Int32} {L s e κ : Nat} (R__ : KC K b L s e κ) : K 0 6 = nI κ := R__.2.2.2.2.2.2.1
theorem KC.k7 {K : VV} {b : Nat → Int32} {L s e κ : Nat} (R__ : KC K b L s e κ) : κ = 2 → K 0 7 = nI (min (dec b s (e - s)) 100000) := R__.2.2.2.2.2.2.2.1
theorem KC.kB {K : VV} {b : Nat → Int32} {L s e κ : Nat} (R__ : KC K b L s e κ) : ∀ i, i < L → K 1 i = b i := R__.2.2.2.2.2.2.2.2
theorem KC.ofs {K : VV} {b : Nat → Int32} {L s e κ : Nat} (k0 : K 0 0 = 0) (k1 : K 0 1 = 0) (k2 : K 0 2 = -1) (k3 : K 0 3 = nI L) (k4 : K 0 4 = nI s) (k5 : K 0 5 = nI e) (k6 : K 0 6 = nI κ) (k7 : κ = 2 → K 0 7 = nI (min (dec b s (e - s)) 100000)) (kB : ∀ i, i < L → K 1 i = b i) : KC K b L s e κ := ⟨k0, k1, k2, k3, k4, k5, k6, k7, kB⟩
/-- the digits of a number, in the class -/
theorem c_digits {K : VV} {b : Nat → Int32} {L s e κ : Nat} {k : Nat} (hk : 20000 ≤ k) (t : TOK b L s e κ) (hb : ∀ i, i < L → K 1 i = b i) (G : Nat → Int32) (g5 : G 5 = nI e) (g6 : G 6 = nI κ) : ∃ v, M_X7_advance_164 k k (nI s) (va_up K 0 (upd G 7 0)) = some (va_up K 0 (upd G 7 v)) ∧ (κ = 2 → v = nI (min (dec b s (e - s)) 100000)) := by
  have h7 := t.h7
  have hse := t.se
  have hel := t.el
  have hk3 := t.k3
  by_cases h2 : κ = 2
  · refine ⟨nI (min (dec b s (e - s)) 100000), ?_, fun _ => rfl⟩
    refine loop_st0 (fun n i => M_X7_advance_164 k n (nI (s + i)) (va_up K 0 (upd G 7 (nI (min (dec b s i) 100000))))) (e - s) _ (fun n i hi => ?_) (fun n => ?_) (by omega)
    · show (if G 5 ≤ nI (s + i) then some (va_up K 0 (upd G 7 (nI (min (dec b s i) 100000)))) else (if G 6 = (2 : Int32) then ((M_X5_at k 700 (K 1) (nI (s + i))).bind fun q3 => M_X7_advance_164 k n (nI (s + i) + 1) (va_up (va_up K 0 (upd G 7 (nI (min (dec b s i) 100000)))) 0 (upd (upd G 7 (nI (min (dec b s i) 100000))) 7 (if (100000 : Int32) < nI (min (dec b s i) 100000) * 10 + q3 - 48 then (100000 : Int32) else nI (min (dec b s i) 100000) * 10 + q3 - 48)))) else some (va_up K 0 (upd G 7 (nI (min (dec b s i) 100000)))))) = M_X7_advance_164 k n (nI (s + i + 1)) (va_up K 0 (upd G 7 (nI (min (dec b s i * 10 + dg (b (s + i))) 100000))))
      obtain ⟨d1, d2⟩ := dg_of (x := b (s + i)) (by rw [t.c (s + i) (by omega) (by omega), h2])
      rw [g5, if_neg (nI_ge (by omega) (by omega)), g6, if_pos (by rw [h2]; rfl), R_atI k (by omega) (by decide), Option.bind_some, hb (s + i) (by omega), va_up_up, upd_upd, nI_1]
      have e1 : nI (min (dec b s i) 100000) * 10 + b (s + i) - 48 = nI (min (dec b s i) 100000 * 10 + dg (b (s + i))) := by
        have := d_step (min (dec b s i) 100000) (dg (b (s + i)))
        rw [← d1] at this
        exact this
      rw [e1, min_100000 (by omega)]
      have e2 : min (min (dec b s i) 100000 * 10 + dg (b (s + i))) 100000 = min (dec b s i * 10 + dg (b (s + i))) 100000 := by omega
      rw [e2]
    · show (if G 5 ≤ nI (s + (e - s)) then some (va_up K 0 (upd G 7 (nI (min (dec b s (e - s)) 100000)))) else _) = _
      rw [g5, if_pos (nI_le (by omega) (by omega))]
  · refine ⟨0, ?_, fun h => absurd h h2⟩
    obtain ⟨f, rfl⟩ : ∃ f, k = f + 1 := ⟨k - 1, by omega⟩
    show (if G 5 ≤ nI s then some (va_up K 0 (upd G 7 0)) else (if G 6 = (2 : Int32) then _ else some (va_up K 0 (upd G 7 0)))) = _
    have hn : ¬ nI κ = 2 := fun h => h2 ((nI_eq (by omega) (by decide)).mp (show nI κ = nI 2 from h))
    rw [g6, if_neg hn]
    by_cases h : G 5 ≤ nI s
    · rw [if_pos h]
    · rw [if_neg h]
theorem c_run {K : VV} {b : Nat → Int32} {L s e κ e0 : Nat} {k : Nat} (hk : 20000 ≤ k) (t : NXT b L e0 s e κ) (hb : ∀ i, i < L → K 1 i = b i) (G : Nat → Int32) (g3 : G 3 = nI L) (g4 : G 4 = nI s) (g6 : G 6 = nI κ) {e1 : Nat} (h1 : s ≤ e1) (h2 : e1 ≤ e) (h3 : κ = 3 → e1 = e) : M_X7_advance_101 k k (va_up K 0 (upd G 5 (nI e1))) = M_X7_advance_164 k k (nI s) (va_up K 0 (upd (upd G 5 (nI e)) 7 0)) := by
  have h7 := t.tk.h7
  have hel := t.tk.el
  have hk3 := t.tk.k3
  refine loop_from (fun n j => M_X7_advance_101 k n (va_up K 0 (upd G 5 (nI j)))) h2 _ (fun n j a c => ?_) (fun n => ?_) (by omega)
  · have hκ : κ ≠ 3 := fun h => absurd c (by have := h3 h; omega)
    have hn : ¬ nI κ = 3 := fun h => hκ ((nI_eq (by omega) (by decide)).mp (show nI κ = nI 3 from h))
    show (if G 3 ≤ nI j then _ else (if G 6 = (3 : Int32) then _ else ((M_X5_at k 700 (K 1) (nI j)).bind fun q11 => (M_X7_kindOf k q11).bind fun q12 => if q12 = G 6 then M_X7_advance_101 k n (va_up (va_up K 0 (upd G 5 (nI j))) 0 (upd (upd G 5 (nI j)) 5 (nI j + 1))) else _))) = M_X7_advance_101 k n (va_up K 0 (upd G 5 (nI (j + 1))))
    rw [g3, if_neg (nI_ge (by omega) (by omega)), g6, if_neg hn, R_atI k (by omega) (by decide), Option.bind_some, c_kind, Option.bind_some, hb j (by omega), t.tk.c j (by omega) c, if_pos rfl, va_up_up, upd_upd, nI_1]
  · have eX : M_X7_advance_164 k k (G 4) (va_up (va_up K 0 (upd G 5 (nI e))) 0 (upd (upd G 5 (nI e)) 7 0)) = M_X7_advance_164 k k (nI s) (va_up K 0 (upd (upd G 5 (nI e)) 7 0)) := by rw [g4, va_up_up]
    show (if G 3 ≤ nI e then M_X7_advance_164 k k (G 4) (va_up (va_up K 0 (upd G 5 (nI e))) 0 (upd (upd G 5 (nI e)) 7 0)) else (if G 6 = (3 : Int32) then M_X7_advance_164 k k (G 4) (va_up (va_up K 0 (upd G 5 (nI e))) 0 (upd (upd G 5 (nI e)) 7 0)) else ((M_X5_at k 700 (K 1) (nI e)).bind fun q11 => (M_X7_kindOf k q11).bind fun q12 => if q12 = G 6 then _ else M_X7_advance_164 k k (G 4) (va_up (va_up K 0 (upd G 5 (nI e))) 0 (upd (upd G 5 (nI e)) 7 0))))) = _
    rw [eX, g3, g6]
    by_cases hL : e < L
    · rw [if_neg (nI_ge hL (by omega))]
      by_cases hκ : κ = 3
      · rw [if_pos (by rw [hκ]; rfl)]
      · have hn : ¬ nI κ = 3 := fun h => hκ ((nI_eq (by omega) (by decide)).mp (show nI κ = nI 3 from h))
        have hb3 := (kob_le (b e)).2
        rw [if_neg hn, R_atI k (by omega) (by decide), Option.bind_some, c_kind, Option.bind_some, hb e hL, if_neg (fun h => t.st hL hκ ((nI_eq (by omega) (by omega)).mp h))]
    · rw [if_pos (nI_le (by omega) (by omega))]
theorem c_adv {K : VV} {b : Nat → Int32} {L e0 s e κ : Nat} {k : Nat} (hk : 20000 ≤ k) (hk0 : K 0 0 = 0) (h1 : K 0 1 = 0) (h2 : K 0 2 = -1) (h3 : K 0 3 = nI L) (h5 : K 0 5 = nI e0) (hb : ∀ i, i < L → K 1 i = b i) (t : NXT b L e0 s e κ) : ∃ K', M_X7_advance k K = some K' ∧ KC K' b L s e κ := by
  have h7 := t.tk.h7
  have hel := t.tk.el
  have hse := t.tk.se
  have hes := t.es
  have hk3 := t.tk.k3
  have a1 : M_X7_advance k K = M_X7_advance_8 k k (va_up K 0 (upd (K 0) 4 (nI e0))) := by
    simp only [M_X7_advance, M_X7_advance_0, lt_eq]
    rw [h5]
  have a2 : M_X7_advance_8 k k (va_up K 0 (upd (K 0) 4 (nI e0))) = M_X7_advance_49 k (va_up K 0 (upd (K 0) 4 (nI s))) := by
    refine loop_from (fun n j => M_X7_advance_8 k n (va_up K 0 (upd (K 0) 4 (nI j)))) hes _ (fun n j a c => ?_) (fun n => ?_) (by omega)
    · show (if K 0 3 ≤ nI j then M_X7_advance_49 k (va_up K 0 (upd (K 0) 4 (nI j))) else ((M_X5_at k 700 (K 1) (nI j)).bind fun q25 => (M_X7_isBlank k q25).bind fun q26 => if q26 = 0 then M_X7_advance_49 k (va_up K 0 (upd (K 0) 4 (nI j))) else M_X7_advance_8 k n (va_up (va_up K 0 (upd (K 0) 4 (nI j))) 0 (upd (upd (K 0) 4 (nI j)) 4 (nI j + 1))))) = M_X7_advance_8 k n (va_up K 0 (upd (K 0) 4 (nI (j + 1))))
      rw [h3, if_neg (nI_ge (by omega) (by omega)), R_atI k (by omega) (by decide), Option.bind_some, hb j (by omega), c_blank, Option.bind_some, if_pos (t.bs j a c), if_neg (show ¬ (1 : Int32) = 0 by decide), va_up_up, upd_upd, nI_1]
    · show (if K 0 3 ≤ nI s then M_X7_advance_49 k (va_up K 0 (upd (K 0) 4 (nI s))) else ((M_X5_at k 700 (K 1) (nI s)).bind fun q25 => (M_X7_isBlank k q25).bind fun q26 => if q26 = 0 then M_X7_advance_49 k (va_up K 0 (upd (K 0) 4 (nI s))) else _)) = _
      rw [h3]
      by_cases hs : s < L
      · rw [if_neg (nI_ge hs (by omega)), R_atI k (by omega) (by decide), Option.bind_some, hb s hs, c_blank, Option.bind_some, if_neg (show ¬ bl (b s) = true by rw [t.nb hs]; decide), if_pos rfl]
      · rw [if_pos (nI_le (by omega) (by omega))]
  have fin : ∀ G : Nat → Int32, G 0 = 0 → G 1 = 0 → G 2 = -1 → G 3 = nI L → G 4 = nI s → G 6 = nI κ → ∃ K', M_X7_advance_164 k k (nI s) (va_up K 0 (upd (upd G 5 (nI e)) 7 0)) = some K' ∧ KC K' b L s e κ := fun G g0 g1 g2 g3 g4 g6 => by
    obtain ⟨v, e1, e2⟩ := c_digits hk t.tk hb (upd G 5 (nI e)) (upd_self _ _ _) g6
    exact ⟨_, e1, KC.ofs (k0 := g0) (k1 := g1) (k2 := g2) (k3 := g3) (k4 := g4) (k5 := rfl) (k6 := g6) (k7 := e2) (kB := hb)⟩
  rw [a1, a2]
  by_cases hs : s < L
  · have hκ : κ = kob (b s) := by
      have h0 : κ ≠ 0 := fun h => absurd (t.tk.z h) (by omega)
      exact (t.tk.c s (Nat.le_refl _) (t.tk.p h0)).symm
    have h0 : κ ≠ 0 := fun h => absurd (t.tk.z h) (by omega)
    have hp := t.tk.p h0
    have a3 : M_X7_advance_49 k (va_up K 0 (upd (K 0) 4 (nI s))) = M_X7_advance_101 k k (va_up K 0 (upd (upd (upd (upd (K 0) 4 (nI s)) 5 (nI s)) 6 (nI κ)) 5 (nI (s + 1)))) := by
      simp only [M_X7_advance_49, lt_eq]
      show (if K 0 3 ≤ nI s then _ else ((M_X5_at k 700 (K 1) (nI s)).bind fun q20 => (M_X7_kindOf k q20).bind fun q21 => M_X7_advance_101 k k (va_up (va_up (va_up (va_up (va_up K 0 (upd (K 0) 4 (nI s))) 0 (upd (upd (K 0) 4 (nI s)) 5 (nI s))) 0 (upd (upd (upd (K 0) 4 (nI s)) 5 (nI s)) 6 0)) 0 (upd (upd (upd (upd (K 0) 4 (nI s)) 5 (nI s)) 6 0) 6 q21)) 0 (upd (upd (upd (upd (upd (K 0) 4 (nI s)) 5 (nI s)) 6 0) 6 q21) 5 (nI s + 1))))) = _
      rw [h3, if_neg (nI_ge hs (by omega)), R_atI k (by omega) (by decide), Option.bind_some, hb s hs, c_kind, Option.bind_some, va_up_up, va_up_up, va_up_up, va_up_up, upd_upd, nI_1, hκ]
    rw [a3, c_run hk t hb (upd (upd (upd (K 0) 4 (nI s)) 5 (nI s)) 6 (nI κ)) h3 rfl rfl (e1 := s + 1) (by omega) (by omega) (fun h => (t.tk.o h).symm)]
    exact fin _ hk0 h1 h2 h3 rfl rfl
  · have hz : κ = 0 := by
      by_cases h : κ = 0
      · exact h
      · exact absurd (t.tk.p h) (by omega)
    have a3 : M_X7_advance_49 k (va_up K 0 (upd (K 0) 4 (nI s))) = M_X7_advance_101 k k (va_up K 0 (upd (upd (upd (K 0) 4 (nI s)) 6 0) 5 (nI s))) := by
      simp only [M_X7_advance_49, lt_eq]
      show (if K 0 3 ≤ nI s then M_X7_advance_101 k k (va_up (va_up (va_up K 0 (upd (K 0) 4 (nI s))) 0 (upd (upd (K 0) 4 (nI s)) 5 (nI s))) 0 (upd (upd (upd (K 0) 4 (nI s)) 5 (nI s)) 6 0)) else _) = _
      rw [h3, if_pos (nI_le (by omega) (by omega)), va_up_up, va_up_up]
      congr 2
      funext j
      unfold upd
      by_cases h5 : j = 5
      · rw [if_neg (by omega), if_pos h5, if_pos h5]
      · rw [if_neg h5, if_neg h5]
    subst hz
    rw [a3, c_run hk t hb (upd (upd (K 0) 4 (nI s)) 6 0) h3 rfl rfl (e1 := s) (by omega) (by omega) (fun h => absurd h (by decide))]
    exact fin _ hk0 h1 h2 h3 rfl rfl
