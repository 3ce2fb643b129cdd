-- ===== the reference reads a token =====
def UC (U : VV) (b : Nat → Int32) (L s e κ : Nat) : Prop := (U 0 7 = nI L) ∧ (U 0 8 = nI e) ∧ (U 0 9 = nI s) ∧ (U 0 10 = nI κ) ∧ (∀ i, i < L → U 8 i = b i)
theorem UC.u7 {U : VV} {b : Nat → Int32} {L s e κ : Nat} (R__ : UC U b L s e κ) : U 0 7 = nI L := R__.1
theorem UC.u8 {U : VV} {b : Nat → Int32} {L s e κ : Nat} (R__ : UC U b L s e κ) : U 0 8 = nI e := R__.2.1
theorem UC.u9 {U : VV} {b : Nat → Int32} {L s e κ : Nat} (R__ : UC U b L s e κ) : U 0 9 = nI s := R__.2.2.1
theorem UC.uk {U : VV} {b : Nat → Int32} {L s e κ : Nat} (R__ : UC U b L s e κ) : U 0 10 = nI κ := R__.2.2.2.1
theorem UC.uB {U : VV} {b : Nat → Int32} {L s e κ : Nat} (R__ : UC U b L s e κ) : ∀ i, i < L → U 8 i = b i := R__.2.2.2.2
theorem UC.ofs {U : VV} {b : Nat → Int32} {L s e κ : Nat} (u7 : U 0 7 = nI L) (u8 : U 0 8 = nI e) (u9 : U 0 9 = nI s) (uk : U 0 10 = nI κ) (uB : ∀ i, i < L → U 8 i = b i) : UC U b L s e κ := ⟨u7, u8, u9, uk, uB⟩
theorem upd_id {G : Nat → Int32} {i : Nat} {v : Int32} (h : G i = v) : upd G i v = G := by
  funext j
  unfold upd
  by_cases e : j = i
  · rw [if_pos e, e, h]
  · rw [if_neg e]
section SCAN
variable {U : VV} {b : Nat → Int32} {L s e κ e0 k : Nat}
theorem r_byte (h7 : U 0 7 = nI L) (hL : L ≤ 700) (hb : ∀ i, i < L → U 8 i = b i) {j : Nat} (hj : j ≤ L) : M_X10_byteAt k U (nI j) = some (if j < L then b j else -1) := by
  simp only [M_X10_byteAt, M_X10_byteAt_0]
  rw [h7]
  by_cases h : j < L
  · rw [if_neg (nI_ge h (by omega)), if_pos (inb_nI (by omega) (by decide)), nI_clamp (by omega), if_pos h, hb j h]
  · rw [if_pos (nI_le (by omega) (by omega)), if_neg h]
theorem r_letter (h7 : U 0 7 = nI L) (hL : L ≤ 700) (hb : ∀ i, i < L → U 8 i = b i) {j : Nat} (hj : j ≤ L) : M_X10_isLetter k U (nI j) = some (if j < L ∧ kob (b j) = 1 then 1 else 0) := by
  simp only [M_X10_isLetter, M_X10_isLetter_0]
  rw [r_byte h7 hL hb hj, Option.bind_some]
  by_cases h : j < L
  · rw [if_pos h]
    by_cases h1 : b j < 97
    · rw [if_pos h1, if_neg (show ¬ (j < L ∧ kob (b j) = 1) from fun h2 => (kob_1.mp h2.2).1 h1)]
    · rw [if_neg h1, Option.bind_some]
      by_cases h2 : 122 < b j
      · rw [if_pos h2, if_neg (show ¬ (j < L ∧ kob (b j) = 1) from fun h3 => (kob_1.mp h3.2).2 h2)]
      · rw [if_neg h2, if_pos (show j < L ∧ kob (b j) = 1 from ⟨h, kob_1.mpr ⟨h1, h2⟩⟩)]
  · rw [if_neg h, if_pos (show (-1 : Int32) < 97 by decide), if_neg (show ¬ (j < L ∧ kob (b j) = 1) from fun h2 => h h2.1)]
theorem r_digit (h7 : U 0 7 = nI L) (hL : L ≤ 700) (hb : ∀ i, i < L → U 8 i = b i) {j : Nat} (hj : j ≤ L) : M_X10_isDigit k U (nI j) = some (if j < L ∧ kob (b j) = 2 then 1 else 0) := by
  simp only [M_X10_isDigit, M_X10_isDigit_0]
  rw [r_byte h7 hL hb hj, Option.bind_some]
  by_cases h : j < L
  · rw [if_pos h]
    by_cases h1 : b j < 48
    · rw [if_pos h1, if_neg (show ¬ (j < L ∧ kob (b j) = 2) from fun h2 => (kob_2.mp h2.2).1 h1)]
    · rw [if_neg h1, Option.bind_some]
      by_cases h2 : 57 < b j
      · rw [if_pos h2, if_neg (show ¬ (j < L ∧ kob (b j) = 2) from fun h3 => (kob_2.mp h3.2).2 h2)]
      · rw [if_neg h2, if_pos (show j < L ∧ kob (b j) = 2 from ⟨h, kob_2.mpr ⟨h1, h2⟩⟩)]
  · rw [if_neg h, if_pos (show (-1 : Int32) < 48 by decide), if_neg (show ¬ (j < L ∧ kob (b j) = 2) from fun h2 => h h2.1)]
theorem r_word (hk : 20000 ≤ k) (hL : L ≤ 700) (hb : ∀ i, i < L → U 8 i = b i) (G : Nat → Int32) (g7 : G 7 = nI L) (hse : s ≤ e) (hel : e ≤ L) (hc : ∀ j, s ≤ j → j < e → kob (b j) = 1) (hx : e < L → kob (b e) ≠ 1) : M_X10_scan_77 k k (va_up U 0 (upd G 8 (nI s))) = some (va_up U 0 (upd (upd G 8 (nI e)) 10 1)) := by
  have hl : ∀ j, j ≤ L → M_X10_isLetter k (va_up U 0 (upd G 8 (nI j))) (nI j) = some (if j < L ∧ kob (b j) = 1 then 1 else 0) := fun j hj => r_letter (U := va_up U 0 (upd G 8 (nI j))) g7 hL hb hj
  refine loop_from (fun n j => M_X10_scan_77 k n (va_up U 0 (upd G 8 (nI j)))) hse _ (fun n j a c => ?_) (fun n => ?_) (by omega)
  · show ((M_X10_isLetter k (va_up U 0 (upd G 8 (nI j))) (nI j)).bind fun q5 => if q5 = 0 then some (va_up (va_up U 0 (upd G 8 (nI j))) 0 (upd (upd G 8 (nI j)) 10 1)) else M_X10_scan_77 k n (va_up (va_up U 0 (upd G 8 (nI j))) 0 (upd (upd G 8 (nI j)) 8 (nI j + 1)))) = M_X10_scan_77 k n (va_up U 0 (upd G 8 (nI (j + 1))))
    rw [hl j (by omega), Option.bind_some, if_pos (show j < L ∧ kob (b j) = 1 from ⟨by omega, hc j a c⟩), if_neg (show ¬ (1 : Int32) = 0 by decide), va_up_up, upd_upd, nI_1]
  · show ((M_X10_isLetter k (va_up U 0 (upd G 8 (nI e))) (nI e)).bind fun q5 => if q5 = 0 then some (va_up (va_up U 0 (upd G 8 (nI e))) 0 (upd (upd G 8 (nI e)) 10 1)) else M_X10_scan_77 k n (va_up (va_up U 0 (upd G 8 (nI e))) 0 (upd (upd G 8 (nI e)) 8 (nI e + 1)))) = _
    rw [hl e hel, Option.bind_some, if_neg (show ¬ (e < L ∧ kob (b e) = 1) from fun h => hx h.1 h.2), if_pos rfl, va_up_up]
theorem r_num (hk : 20000 ≤ k) (hL : L ≤ 700) (hb : ∀ i, i < L → U 8 i = b i) (G : Nat → Int32) (g7 : G 7 = nI L) (hse : s ≤ e) (hel : e ≤ L) (hc : ∀ j, s ≤ j → j < e → kob (b j) = 2) (hx : e < L → kob (b e) ≠ 2) : M_X10_scan_120 k k (va_up U 0 (upd G 8 (nI s))) = some (va_up U 0 (upd (upd G 8 (nI e)) 10 2)) := by
  have hl : ∀ j, j ≤ L → M_X10_isDigit k (va_up U 0 (upd G 8 (nI j))) (nI j) = some (if j < L ∧ kob (b j) = 2 then 1 else 0) := fun j hj => r_digit (U := va_up U 0 (upd G 8 (nI j))) g7 hL hb hj
  refine loop_from (fun n j => M_X10_scan_120 k n (va_up U 0 (upd G 8 (nI j)))) hse _ (fun n j a c => ?_) (fun n => ?_) (by omega)
  · show ((M_X10_isDigit k (va_up U 0 (upd G 8 (nI j))) (nI j)).bind fun q5 => if q5 = 0 then some (va_up (va_up U 0 (upd G 8 (nI j))) 0 (upd (upd G 8 (nI j)) 10 2)) else M_X10_scan_120 k n (va_up (va_up U 0 (upd G 8 (nI j))) 0 (upd (upd G 8 (nI j)) 8 (nI j + 1)))) = M_X10_scan_120 k n (va_up U 0 (upd G 8 (nI (j + 1))))
    rw [hl j (by omega), Option.bind_some, if_pos (show j < L ∧ kob (b j) = 2 from ⟨by omega, hc j a c⟩), if_neg (show ¬ (1 : Int32) = 0 by decide), va_up_up, upd_upd, nI_1]
  · show ((M_X10_isDigit k (va_up U 0 (upd G 8 (nI e))) (nI e)).bind fun q5 => if q5 = 0 then some (va_up (va_up U 0 (upd G 8 (nI e))) 0 (upd (upd G 8 (nI e)) 10 2)) else M_X10_scan_120 k n (va_up (va_up U 0 (upd G 8 (nI e))) 0 (upd (upd G 8 (nI e)) 8 (nI e + 1)))) = _
    rw [hl e hel, Option.bind_some, if_neg (show ¬ (e < L ∧ kob (b e) = 2) from fun h => hx h.1 h.2), if_pos rfl, va_up_up]
/-- behind the blanks -/
theorem r_tail (hk : 20000 ≤ k) (hb : ∀ i, i < L → U 8 i = b i) (t : NXT b L e0 s e κ) (G : Nat → Int32) (g7 : G 7 = nI L) (g8 : G 8 = nI s) : (if nI s < G 7 then ((M_X10_isLetter k (va_up U 0 G) (nI s)).bind fun q16 => if q16 = 0 then ((M_X10_isDigit k (va_up U 0 G) (nI s)).bind fun q18 => if q18 = 0 then some (va_up U 0 (upd (upd G 8 (nI s + 1)) 10 3)) else M_X10_scan_120 k k (va_up U 0 G)) else M_X10_scan_77 k k (va_up U 0 G)) else some (va_up U 0 (upd G 10 0))) = some (va_up U 0 (upd (upd G 8 (nI e)) 10 (nI κ))) := by
  have h7 := t.tk.h7
  have hel := t.tk.el
  have hse := t.tk.se
  have hG : upd G 8 (nI s) = G := upd_id g8
  by_cases hs : s < L
  · have h0 : κ ≠ 0 := fun h => absurd (t.tk.z h) (by omega)
    have hp := t.tk.p h0
    have hκ : kob (b s) = κ := t.tk.c s (Nat.le_refl _) hp
    have hlet : M_X10_isLetter k (va_up U 0 G) (nI s) = some (if s < L ∧ kob (b s) = 1 then 1 else 0) := r_letter (U := va_up U 0 G) g7 h7 hb (by omega)
    have hdig : M_X10_isDigit k (va_up U 0 G) (nI s) = some (if s < L ∧ kob (b s) = 2 then 1 else 0) := r_digit (U := va_up U 0 G) g7 h7 hb (by omega)
    rw [g7, if_pos (nI_lt hs (by omega)), hlet, Option.bind_some, hdig]
    rcases (show κ = 1 ∨ κ = 2 ∨ κ = 3 by have := t.tk.k3; omega) with h | h | h
    · have hw := r_word (U := U) (b := b) (L := L) hk h7 hb G g7 hse hel (fun j a c => (t.tk.c j a c).trans h) (fun hl => by rw [← h]; exact t.st hl (by omega))
      rw [hG] at hw
      rw [if_pos (show s < L ∧ kob (b s) = 1 from ⟨hs, hκ.trans h⟩), if_neg (show ¬ (1 : Int32) = 0 by decide), hw, h]
      rfl
    · have hw := r_num (U := U) (b := b) (L := L) hk h7 hb G g7 hse hel (fun j a c => (t.tk.c j a c).trans h) (fun hl => by rw [← h]; exact t.st hl (by omega))
      rw [hG] at hw
      rw [if_neg (show ¬ (s < L ∧ kob (b s) = 1) from fun q => by have := q.2; omega), if_pos rfl, Option.bind_some, if_pos (show s < L ∧ kob (b s) = 2 from ⟨hs, hκ.trans h⟩), if_neg (show ¬ (1 : Int32) = 0 by decide), hw, h]
      rfl
    · rw [if_neg (show ¬ (s < L ∧ kob (b s) = 1) from fun q => by have := q.2; omega), if_pos rfl, Option.bind_some, if_neg (show ¬ (s < L ∧ kob (b s) = 2) from fun q => by have := q.2; omega), if_pos rfl, nI_1, t.tk.o h, h]
      rfl
  · have hz : κ = 0 := by
      by_cases h : κ = 0
      · exact h
      · exact absurd (t.tk.p h) (by omega)
    rw [g7, if_neg (nI_nlt (by omega) (by omega)), show e = s by omega, hG, hz]
    rfl
theorem r_scan (hk : 20000 ≤ k) (h7 : U 0 7 = nI L) (h8 : U 0 8 = nI e0) (hb : ∀ i, i < L → U 8 i = b i) (t : NXT b L e0 s e κ) : ∃ U', M_X10_scan k U = some U' ∧ UC U' b L s e κ ∧ (∀ j, j ≠ 0 → U' j = U j) ∧ ∀ c, c ≠ 8 → c ≠ 9 → c ≠ 10 → U' 0 c = U 0 c := by
  have hL := t.tk.h7
  have hel := t.tk.el
  have hse := t.tk.se
  have hes := t.es
  refine ⟨va_up U 0 (upd (upd (upd (upd (U 0) 8 (nI s)) 9 (nI s)) 8 (nI e)) 10 (nI κ)), ?_, UC.ofs (u7 := h7) (u8 := rfl) (u9 := rfl) (uk := rfl) (uB := hb), fun j hj => vaN _ _ hj, fun c h8 h9 h10 => ?_⟩
  · have a1 : M_X10_scan k U = M_X10_scan_0 k k (va_up U 0 (upd (U 0) 8 (nI e0))) := by
      rw [upd_id h8, va_same]
      rfl
    have hby : ∀ j, j ≤ L → M_X10_byteAt k (va_up U 0 (upd (U 0) 8 (nI j))) (nI j) = some (if j < L then b j else -1) := fun j hj => r_byte (U := va_up U 0 (upd (U 0) 8 (nI j))) h7 hL hb hj
    rw [a1]
    refine loop_from (fun n j => M_X10_scan_0 k n (va_up U 0 (upd (U 0) 8 (nI j)))) hes _ (fun n j a c => ?_) (fun n => ?_) (by omega)
    · show ((M_X10_byteAt k (va_up U 0 (upd (U 0) 8 (nI j))) (nI j)).bind fun q9 => if q9 = 32 then M_X10_scan_0 k n (va_up (va_up U 0 (upd (U 0) 8 (nI j))) 0 (upd (upd (U 0) 8 (nI j)) 8 (nI j + 1))) else ((M_X10_byteAt k (va_up U 0 (upd (U 0) 8 (nI j))) (nI j)).bind fun q12 => if q12 = 10 then M_X10_scan_0 k n (va_up (va_up U 0 (upd (U 0) 8 (nI j))) 0 (upd (upd (U 0) 8 (nI j)) 8 (nI j + 1))) else _)) = M_X10_scan_0 k n (va_up U 0 (upd (U 0) 8 (nI (j + 1))))
      rw [hby j (by omega), Option.bind_some, if_pos (show j < L by omega), va_up_up, upd_upd, nI_1]
      by_cases h32 : b j = 32
      · rw [if_pos h32]
      · have h10 : b j = 10 := (of_decide_eq_true (t.bs j a c)).resolve_left h32
        rw [if_neg h32, Option.bind_some, if_pos h10]
    · have tl := r_tail hk hb t (upd (upd (U 0) 8 (nI s)) 9 (nI s)) h7 rfl
      have key : ∀ X Y : Option VV, ((M_X10_byteAt k (va_up U 0 (upd (U 0) 8 (nI s))) (nI s)).bind fun q9 => if q9 = 32 then X else ((M_X10_byteAt k (va_up U 0 (upd (U 0) 8 (nI s))) (nI s)).bind fun q12 => if q12 = 10 then X else Y)) = Y := fun X Y => by
        rw [hby s (by omega), Option.bind_some]
        by_cases hs : s < L
        · have hn := of_decide_eq_false (t.nb hs)
          rw [if_pos hs, if_neg (fun h => hn (Or.inl h)), Option.bind_some, if_neg (fun h => hn (Or.inr h))]
        · rw [if_neg hs, if_neg (show ¬ (-1 : Int32) = 32 by decide), Option.bind_some, if_neg (show ¬ (-1 : Int32) = 10 by decide)]
      refine Eq.trans (key (M_X10_scan_0 k n (va_up (va_up U 0 (upd (U 0) 8 (nI s))) 0 (upd (upd (U 0) 8 (nI s)) 8 (nI s + 1)))) (if nI s < U 0 7 then ((M_X10_isLetter k (va_up (va_up U 0 (upd (U 0) 8 (nI s))) 0 (upd (upd (U 0) 8 (nI s)) 9 (nI s))) (nI s)).bind fun q16 => if q16 = 0 then ((M_X10_isDigit k (va_up (va_up U 0 (upd (U 0) 8 (nI s))) 0 (upd (upd (U 0) 8 (nI s)) 9 (nI s))) (nI s)).bind fun q18 => if q18 = 0 then some (va_up (va_up (va_up (va_up U 0 (upd (U 0) 8 (nI s))) 0 (upd (upd (U 0) 8 (nI s)) 9 (nI s))) 0 (upd (upd (upd (U 0) 8 (nI s)) 9 (nI s)) 8 (nI s + 1))) 0 (upd (upd (upd (upd (U 0) 8 (nI s)) 9 (nI s)) 8 (nI s + 1)) 10 3)) else M_X10_scan_120 k k (va_up (va_up U 0 (upd (U 0) 8 (nI s))) 0 (upd (upd (U 0) 8 (nI s)) 9 (nI s)))) else M_X10_scan_77 k k (va_up (va_up U 0 (upd (U 0) 8 (nI s))) 0 (upd (upd (U 0) 8 (nI s)) 9 (nI s)))) else some (va_up (va_up (va_up U 0 (upd (U 0) 8 (nI s))) 0 (upd (upd (U 0) 8 (nI s)) 9 (nI s))) 0 (upd (upd (upd (U 0) 8 (nI s)) 9 (nI s)) 10 0)))) ?_
      rw [va_up_up, va_up_up, va_up_up, va_up_up]
      exact tl
  · show upd (upd (upd (upd (U 0) 8 (nI s)) 9 (nI s)) 8 (nI e)) 10 (nI κ) c = U 0 c
    rw [upd_ne _ _ h10, upd_ne _ _ h8, upd_ne _ _ h9, upd_ne _ _ h8]
end SCAN
