-- ===== rows of parts that are joined =====
theorem acc0 {k : Nat} {U : VV} {w : Nat} (h : M_X10_isWord k U w = some 0) : M_X10_accept k U w = some (0, U) := by
  simp only [M_X10_accept, M_X10_accept_0]
  rw [h, Option.bind_some, if_pos rfl, if_pos (Or.inl rfl)]
theorem acc1 {k : Nat} {U U' : VV} {w : Nat} (h : M_X10_isWord k U w = some 1) (hs : M_X10_scan k U = some U') : M_X10_accept k U w = some (1, U') := by
  simp only [M_X10_accept, M_X10_accept_0]
  rw [h, Option.bind_some, if_neg (show ¬ (1 : Int32) = 0 by decide), hs, Option.bind_some, if_pos (Or.inr rfl)]
section QLOOP
variable {F : VV} {A : AF} {b : Nat → Int32} {L k o : Nat} {w w' : Nat} {cod : Int32} {C : Nat → Int64 → Int32 → VV → Option (Int64 × VV)} {D : Nat → VV → Option VV} {op : Int64 → Int64 → Int64} {o2 : Bool → Bool → Bool} {Φ : VV → Option (Int64 × VV)} {Ψ : VV → Option VV}
def PSP (A : AF) (b : Nat → Int32) (L o : Nat) (Φ : VV → Option (Int64 × VV)) (Ψ : VV → Option VV) : Prop := ∀ (K U : VV) (s e κ : Nat) (l : List Int32), GD K U b L s e κ → CDS U l → l.length ≤ s → U 0 14 = nI o → QR A b L s o l U (Φ K) (Ψ U)
def LPC (k w : Nat) (op : Int64 → Int64 → Int64) (Φ : VV → Option (Int64 × VV)) (C : Nat → Int64 → Int32 → VV → Option (Int64 × VV)) : Prop := ∀ n z x S, C (n + 1) z x S = if (200 : Int32) ≤ x then some (z, S) else ((M_X7_is k S w).bind fun q2 => if q2 = 0 then some (z, S) else ((M_X7_advance k S).bind fun q4 => (Φ q4).bind fun q5 => C n (op z q5.1) (x + 1) q5.2))
def LPR (k w' : Nat) (cod : Int32) (Ψ : VV → Option VV) (D : Nat → VV → Option VV) : Prop := ∀ n S, D (n + 1) S = ((M_X10_accept k S w').bind fun q1 => if q1.1 = 0 then some q1.2 else ((Ψ q1.2).bind fun q3 => (M_X10_emit k q3 cod).bind fun q4 => D n q4))
theorem lp_err (hC : LPC k w op Φ C) (hD : LPR k w' cod Ψ D) (hk : 20000 ≤ k) {K U : VV} {c : Int32} (er : ER K U c) (n n' : Nat) (z : Int64) (x : Int32) : C (n + 1) z x K = some (z, K) ∧ D (n' + 1) U = some U := by
  constructor
  · rw [hC n z x K]
    by_cases h : (200 : Int32) ≤ x
    · rw [if_pos h]
    · rw [if_neg h, e_is er, Option.bind_some, if_pos rfl]
  · rw [hD n' U, e_accept er hk, Option.bind_some, if_pos rfl]
theorem q_loop (hk : 20000 ≤ k) (hL : L ≤ 200) (hw : WD w w') (hC : LPC k w op Φ C) (hD : LPR k w' cod Ψ D)
    (hop : ∀ f g, op (lI (msk f A.n)) (lI (msk g A.n)) = lI (msk (fun i => o2 (f i) (g i)) A.n)) (hev : ∀ x y (p : Int32 → Option Int32) st, ev1 p cod (b1 y :: b1 x :: st) = some (b1 (o2 x y) :: st)) (hΦ : PSP A b L o Φ Ψ) :
    ∀ m x (K U : VV) (s e κ s0 : Nat) (l lf : List Int32) (f : Nat → Bool), x + m = 200 → x ≤ s → GD K U b L s e κ → CDS U (l ++ lf) → l.length ≤ s0 → lf.length + s0 ≤ s → U 0 14 = nI o → EVL A f lf → ∀ n n', m + 1 < n → m + 1 < n' → QR A b L s0 o l U (C n (lI (msk f A.n)) (nI x) K) (D n' U) := by
  intro m
  induction m with
  | zero =>
    intro x K U s e κ s0 l lf f hx hxs g cd hl hlf h14 hf n n' hn hn'
    obtain ⟨n, rfl⟩ : ∃ i, n = i + 1 := ⟨n - 1, by omega⟩
    obtain ⟨n', rfl⟩ : ∃ i, n' = i + 1 := ⟨n' - 1, by omega⟩
    have he := g.1.el
    have hse := g.1.se
    have h200 : (200 : Int32) ≤ nI x := nI_le (a := 200) (by omega) (by omega)
    rcases t_isE hk g hw with ⟨h0, -, -⟩ | ⟨-, -, h2⟩
    · have := g.1.p (by omega)
      omega
    · right
      rw [hC n, if_pos h200, hD n', acc0 h2, Option.bind_some, if_pos rfl]
      exact ⟨K, U, s, e, κ, f, lf, rfl, rfl, g, cd, hlf, h14, FRQ.refl U, hf⟩
  | succ m ih =>
    intro x K U s e κ s0 l lf f hx hxs g cd hl hlf h14 hf n n' hn hn'
    obtain ⟨n, rfl⟩ : ∃ i, n = i + 1 := ⟨n - 1, by omega⟩
    obtain ⟨n', rfl⟩ : ∃ i, n' = i + 1 := ⟨n' - 1, by omega⟩
    have h200 : ¬ (200 : Int32) ≤ nI x := nI_ge (b := 200) (by omega) (by decide)
    rw [hC n, if_neg h200, hD n']
    rcases t_isE hk g hw with ⟨h0, h1, h2⟩ | ⟨-, h1, h2⟩
    rotate_left
    · right
      rw [h1, Option.bind_some, if_pos rfl, acc0 h2, Option.bind_some, if_pos rfl]
      exact ⟨K, U, s, e, κ, f, lf, rfl, rfl, g, cd, hlf, h14, FRQ.refl U, hf⟩
    obtain ⟨K1, U1, s1, e1, κ1, a1, a2, -, hs1, g1, f1⟩ := t_ad hk g (by omega)
    have hll : (l ++ lf).length = l.length + lf.length := List.length_append
    rw [h1, Option.bind_some, if_neg (show ¬ (1 : Int32) = 0 by decide), a1, Option.bind_some, acc1 h2 a2, Option.bind_some, if_neg (show ¬ (1 : Int32) = 0 by decide)]
    rcases hΦ K1 U1 s1 e1 κ1 (l ++ lf) g1 (cd.fru f1) (by omega) (f1.n.trans h14) with ⟨K2, U2, c, y, r1, r2, er, f2⟩ | ⟨K2, U2, s2, e2, κ2, f', l2, r1, r2, g2, cd2, hl2, h142, f2, hf2⟩
    · left
      obtain ⟨n, rfl⟩ : ∃ i, n = i + 1 := ⟨n - 1, by omega⟩
      obtain ⟨n', rfl⟩ : ∃ i, n' = i + 1 := ⟨n' - 1, by omega⟩
      have z := lp_err hC hD hk er n n' (op (lI (msk f A.n)) y) (nI x + 1)
      rw [r1, Option.bind_some, r2, Option.bind_some, e_emit er.un, Option.bind_some]
      exact ⟨K2, U2, c, _, z.1, z.2, er, f1.q.trans f2⟩
    · have hl3 : (l ++ lf ++ l2).length = l.length + lf.length + l2.length := by rw [List.length_append, hll]
      have he2 := g2.1.el
      have hse2 := g2.1.se
      have em1 := r_emit (k := k) cd2 g2.2.2.2 (by omega) cod
      have cd3 : CDS (em U2 (l ++ lf ++ l2) cod) (l ++ (lf ++ l2 ++ [cod])) := by
        have ea : l ++ lf ++ l2 ++ [cod] = l ++ (lf ++ l2 ++ [cod]) := by simp only [List.append_assoc]
        rw [← ea]
        exact em_cd cd2 cod
      have hl4 : (lf ++ l2 ++ [cod]).length = lf.length + l2.length + 1 := by rw [List.length_append, List.length_append]; rfl
      rw [r1, Option.bind_some]
      show QR A b L s0 o l U (C n (op (lI (msk f A.n)) (lI (msk f' A.n))) (nI x + 1) K2) ((Ψ U1).bind fun q3 => (M_X10_emit k q3 cod).bind fun q4 => D n' q4)
      rw [r2, Option.bind_some, em1, Option.bind_some, hop, nI_1]
      exact QR.fr ((f1.q.trans f2).trans (em_fr U2 _ _)) (ih (x + 1) K2 _ s2 e2 κ2 s0 l (lf ++ l2 ++ [cod]) (fun i => o2 (f i) (f' i)) (by omega) (by omega) (g2.em _ _) cd3 hl (by omega) ((em_0 U2 _ _ (by decide)).trans h142) (EVL.bin hev hf hf2) n n' (by omega) (by omega))
/-- a part, and more of them -/
theorem q_first (hk : 20000 ≤ k) (hL : L ≤ 200) (hw : WD w w') (hC : LPC k w op Φ C) (hD : LPR k w' cod Ψ D)
    (hop : ∀ f g, op (lI (msk f A.n)) (lI (msk g A.n)) = lI (msk (fun i => o2 (f i) (g i)) A.n)) (hev : ∀ x y (p : Int32 → Option Int32) st, ev1 p cod (b1 y :: b1 x :: st) = some (b1 (o2 x y) :: st)) (hΦ : PSP A b L o Φ Ψ) : PSP A b L o (fun S => (Φ S).bind fun q7 => C k q7.1 0 q7.2) (fun S => (Ψ S).bind fun q5 => D k q5) := fun K U s e κ l g cd hl h14 => by
  obtain ⟨n, hn⟩ : ∃ n, k = n + 1 := ⟨k - 1, by omega⟩
  show QR A b L s o l U ((Φ K).bind fun q7 => C k q7.1 0 q7.2) ((Ψ U).bind fun q5 => D k q5)
  rcases hΦ K U s e κ l g cd hl h14 with ⟨K2, U2, c, y, r1, r2, er, f2⟩ | ⟨K2, U2, s2, e2, κ2, f', l2, r1, r2, g2, cd2, hl2, h142, f2, hf2⟩
  · left
    have z := lp_err hC hD hk er n n y 0
    rw [← hn] at z
    rw [r1, Option.bind_some, r2, Option.bind_some]
    exact ⟨K2, U2, c, y, z.1, z.2, er, f2⟩
  · rw [r1, Option.bind_some, r2, Option.bind_some]
    exact QR.fr f2 (q_loop hk hL hw hC hD hop hev hΦ 200 0 K2 U2 s2 e2 κ2 s l l2 f' rfl (Nat.zero_le _) g2 cd2 hl hl2 h142 hf2 k k (by omega) (by omega))
end QLOOP
section QTEST
variable {F : VV} {A : AF} {b : Nat → Int32} {L k o : Nat} {φ : VV → VV → Int32 → Option (Int64 × VV)} {ψ : VV → Option VV}
theorem s_conj (hk : 20000 ≤ k) (hL : L ≤ 200) (hΦ : PSP A b L o (fun S => φ S F (nI o)) ψ) : PSP A b L o (fun S => M_X4_conjunction k φ S F (nI o)) (fun S => M_X10_compileConjunction k ψ S) :=
  q_first (Φ := fun S => φ S F (nI o)) (Ψ := ψ) (C := fun n z x S => M_X4_conjunction_10 k φ F n (nI o) z x S) (D := fun n S => M_X10_compileConjunction_4 k ψ n S) (op := fun a c => a &&& c) (o2 := fun x y => x && y) (cod := -24) hk hL wd_and (fun _ _ _ _ => rfl) (fun _ _ => rfl) (fun f g => and_msk f g A.n) ev_and hΦ
theorem s_test (hk : 20000 ≤ k) (hL : L ≤ 200) (hΦ : PSP A b L o (fun S => φ S F (nI o)) ψ) : PSP A b L o (fun S => M_X4_test k φ S F (nI o)) (fun S => M_X10_compileTest k ψ S) :=
  q_first (Φ := fun S => M_X4_conjunction k φ S F (nI o)) (Ψ := fun S => M_X10_compileConjunction k ψ S) (C := fun n z x S => M_X4_test_10 k φ F n (nI o) z x S) (D := fun n S => M_X10_compileTest_4 k ψ n S) (op := fun a c => a ||| c) (o2 := fun x y => x || y) (cod := -25) hk hL wd_or (fun _ _ _ _ => rfl) (fun _ _ => rfl) (fun f g => or_msk f g A.n) ev_or (s_conj hk hL hΦ)
end QTEST
