-- ===== bytes are fed =====
theorem shr_same (x : Int32) {s : Nat} (hs : s ≤ 24) (h1 : ((nI s).toUInt32 &&& Int32.toUInt32 31).toBitVec % 32 = BitVec.ofNat 32 s) : ((x.toUInt32 >>> ((nI s).toUInt32 &&& Int32.toUInt32 31)).toInt32) &&& (255 : Int32) = (x >>> (nI s &&& 31)) &&& (255 : Int32) := by
  apply Int32.toBitVec_inj.mp
  rw [Int32.toBitVec_and, Int32.toBitVec_and, sh31 (by omega), Int32.toBitVec_shiftRight, smod32 (by omega)]
  have e1 : ((x.toUInt32 >>> ((nI s).toUInt32 &&& Int32.toUInt32 31)).toInt32).toBitVec = x.toBitVec >>> (((nI s).toUInt32 &&& Int32.toUInt32 31).toBitVec % 32) := rfl
  rw [e1, h1]
  have e2 : x.toBitVec.sshiftRight' (BitVec.ofNat 32 s) = x.toBitVec.sshiftRight s := by
    show x.toBitVec.sshiftRight (BitVec.ofNat 32 s).toNat = _
    rw [BitVec.toNat_ofNat, Nat.mod_eq_of_lt (by omega)]
  have e3 : x.toBitVec >>> (BitVec.ofNat 32 s) = x.toBitVec >>> s := by
    show x.toBitVec >>> (BitVec.ofNat 32 s).toNat = _
    rw [BitVec.toNat_ofNat, Nat.mod_eq_of_lt (by omega)]
  rw [e2, e3]
  apply BitVec.eq_of_getLsbD_eq
  intro i hi
  rw [BitVec.getLsbD_and, BitVec.getLsbD_and, BitVec.getLsbD_ushiftRight, BitVec.getLsbD_sshiftRight]
  by_cases h8 : i < 8
  · rw [decide_eq_false (by omega : ¬ 32 ≤ i), if_pos (by omega : s + i < 32)]
    rfl
  · have hz : ∀ j : Fin 32, 8 ≤ j.val → (255 : Int32).toBitVec.getLsbD j.val = false := by decide
    rw [hz ⟨i, hi⟩ (show 8 ≤ i by omega), Bool.and_false, Bool.and_false]
def byt (x : Int32) (s : Nat) : Int32 := (x >>> (nI s &&& 31)) &&& 255
theorem byt_c (x : Int32) {s : Nat} (hs : s = 0 ∨ s = 8 ∨ s = 16 ∨ s = 24) : ((x.toUInt32 >>> ((nI s).toUInt32 &&& Int32.toUInt32 31)).toInt32) &&& (255 : Int32) = byt x s := by
  rcases hs with rfl | rfl | rfl | rfl
  · exact shr_same x (by decide) (by decide)
  · exact shr_same x (by decide) (by decide)
  · exact shr_same x (by decide) (by decide)
  · exact shr_same x (by decide) (by decide)
def emF (T : VV) (n : Nat) (v : Int32) : VV := va_up (va_up T 8 (upd (T 8) n v)) 0 (upd (T 0) 6 (nI (n + 1)))
def emXn (X : VV) (n : Nat) (f : Nat → Int32) : Nat → VV
  | 0 => X
  | i + 1 => emX (emXn X n f i) (n + i) (f i)
def emFn (T : VV) (n : Nat) (f : Nat → Int32) : Nat → VV
  | 0 => T
  | i + 1 => emF (emFn T n f i) (n + i) (f i)
theorem c_byte {k : Nat} {X : VV} {n : Nat} (hX : X 0 0 = nI n) (hn : n < 700) (f : Nat) (x : Int32) {s : Nat} (hs : s = 0 ∨ s = 8 ∨ s = 16 ∨ s = 24) : M_X7_append_3 k (f + 1) x (nI s) X = M_X7_append_3 k f x (nI s + (-8)) (emX X n (byt x s)) := by
  have h0 : ¬ nI s < 0 := nI_pos (by omega)
  have h2 : va_up X 1 (upd (X 1) n (byt x s)) 0 0 = nI n := hX
  simp only [M_X7_append_3, lt_eq]
  rw [if_neg h0, byt_c x hs, hX, R_putI k hn (by decide), Option.bind_some, h2, nI_1]
  rfl
theorem c_word {k : Nat} (hk : 20000 ≤ k) {X : VV} {n : Nat} (hX : X 0 0 = nI n) (hn : n + 4 ≤ 700) (x : Int32) : M_X7_append k X x = some (emX (emX (emX (emX X n (byt x 24)) (n + 1) (byt x 16)) (n + 2) (byt x 8)) (n + 3) (byt x 0)) := by
  obtain ⟨f, hf⟩ : ∃ f, k = f + 5 := ⟨k - 5, by omega⟩
  have a1 := c_byte (k := k) hX (by omega) (f + 4) x (s := 24) (by simp)
  have a2 := c_byte (k := k) (X := emX X n (byt x 24)) (n := n + 1) rfl (by omega) (f + 3) x (s := 16) (by simp)
  have a3 := c_byte (k := k) (X := emX (emX X n (byt x 24)) (n + 1) (byt x 16)) (n := n + 2) rfl (by omega) (f + 2) x (s := 8) (by simp)
  have a4 := c_byte (k := k) (X := emX (emX (emX X n (byt x 24)) (n + 1) (byt x 16)) (n + 2) (byt x 8)) (n := n + 3) rfl (by omega) (f + 1) x (s := 0) (by simp)
  have s1 : nI 24 + (-8) = nI 16 := by decide
  have s2 : nI 16 + (-8) = nI 8 := by decide
  have s3 : nI 8 + (-8) = nI 0 := by decide
  have s4 : nI 0 + (-8) < 0 := by decide
  rw [s1] at a1
  rw [s2] at a2
  rw [s3] at a3
  have a5 : M_X7_append_3 k (f + 1) x (nI 0 + (-8)) (emX (emX (emX (emX X n (byt x 24)) (n + 1) (byt x 16)) (n + 2) (byt x 8)) (n + 3) (byt x 0)) = some (emX (emX (emX (emX X n (byt x 24)) (n + 1) (byt x 16)) (n + 2) (byt x 8)) (n + 3) (byt x 0)) := by
    simp only [M_X7_append_3]
    rw [if_pos s4]
  have e : M_X7_append k X x = M_X7_append_3 k k x (nI 24) X := rfl
  rw [e]
  have e2 : M_X7_append_3 k k x (nI 24) X = M_X7_append_3 k (f + 5) x (nI 24) X := by rw [hf]
  rw [e2, a1, a2, a3, a4, a5]
def val5 (a b c d e : Int32) (i : Nat) : Int32 := byt (if i < 4 then a else if i < 8 then b else if i < 12 then c else if i < 16 then d else e) (24 - 8 * (i % 4))
theorem c_feed {k : Nat} (hk : 20000 ≤ k) {S : VV × VV × VV × VV × VV × Int32} {n : Nat} (hX : S.2.2.2.1 0 0 = nI n) (hn : n + 20 ≤ 700) (a b c d e : Int32) : M_X9_feed k S a b c d e = some (nI (n + 20), (S.1, S.2.1, S.2.2.1, emXn S.2.2.2.1 n (val5 a b c d e) 20, S.2.2.2.2)) := by
  have h0 : nI n + 20 ≤ (700 : Int32) := by
    rw [show (20 : Int32) = nI 20 from rfl, nI_add]
    exact nI_le (b := 700) hn (by decide)
  simp only [M_X9_feed, M_X9_feed_0, lt_eq]
  rw [hX, if_pos h0, c_word hk hX (by omega), Option.bind_some, c_word hk (n := n + 4) rfl (by omega), Option.bind_some, c_word hk (n := n + 8) rfl (by omega), Option.bind_some, c_word hk (n := n + 12) rfl (by omega), Option.bind_some, c_word hk (n := n + 16) rfl (by omega), Option.bind_some]
  rfl
theorem r_feed {k : Nat} (hk : 20000 ≤ k) {T : VV} {n : Nat} (hT : T 0 6 = nI n) (hn : n + 20 ≤ 700) (a b c d e : Int32) : M_X10_feed_23 k k a b c d e 0 T = some (nI (n + 20), emFn T n (val5 a b c d e) 20) := by
  have h6 : ∀ i, emFn T n (val5 a b c d e) i 0 6 = nI (n + i) := fun i => by
    cases i with
    | zero => exact hT
    | succ i => rfl
  refine loop_st0 (fun m i => M_X10_feed_23 k m a b c d e (nI i) (emFn T n (val5 a b c d e) i)) 20 _ (fun m i hi => ?_) (fun m => ?_) (by omega)
  · have h0 : ¬ (20 : Int32) ≤ nI i := nI_ge hi (by decide)
    have put : ∀ w, w = (if i < 4 then a else if i < 8 then b else if i < 12 then c else if i < 16 then d else e) → M_X10_feed_76 k (M_X10_feed_23 k m) a b c d e (nI i) w (emFn T n (val5 a b c d e) i) = M_X10_feed_23 k m a b c d e (nI (i + 1)) (emFn T n (val5 a b c d e) (i + 1)) := fun w hw => by
      have hv : (w >>> (((24 : Int32) - ((8 : Int32) * (nI i - nI i / (4 : Int32) * (4 : Int32)))) &&& 31)) &&& (255 : Int32) = val5 a b c d e i := by
        have hm : nI i - nI i / (4 : Int32) * (4 : Int32) = nI (i % 4) := nI_mod (b := 4) (by omega) (by decide)
        have h4 : i % 4 < 4 := Nat.mod_lt _ (by decide)
        rw [hm, show (8 : Int32) = nI 8 from rfl, nI_mul, show (24 : Int32) = nI 24 from rfl, nI_sub (by omega), hw]
        rfl
      have h2 : ∀ Y, va_up (emFn T n (val5 a b c d e) i) 8 Y 0 6 = nI (n + i) := fun Y => h6 i
      simp only [M_X10_feed_76, lt_eq]
      rw [hv, h6 i, if_pos (inb_nI (by omega) (by decide)), nI_clamp (by omega), h2, nI_1, nI_1]
      rfl
    simp only [M_X10_feed_23]
    rw [if_neg h0]
    by_cases h4 : 4 ≤ i
    · have g4 : (4 : Int32) ≤ nI i := nI_le (a := 4) h4 (by omega)
      rw [if_pos g4]
      by_cases h8 : 8 ≤ i
      · have g8 : (8 : Int32) ≤ nI i := nI_le (a := 8) h8 (by omega)
        rw [if_pos g8]
        by_cases h12 : 12 ≤ i
        · have g12 : (12 : Int32) ≤ nI i := nI_le (a := 12) h12 (by omega)
          rw [if_pos g12]
          by_cases h16 : 16 ≤ i
          · have g16 : (16 : Int32) ≤ nI i := nI_le (a := 16) h16 (by omega)
            rw [if_pos g16]
            exact put e (by rw [if_neg (by omega), if_neg (by omega), if_neg (by omega), if_neg (by omega)])
          · have g16 : ¬ (16 : Int32) ≤ nI i := nI_ge (b := 16) (by omega) (by decide)
            rw [if_neg g16]
            exact put d (by rw [if_neg (by omega), if_neg (by omega), if_neg (by omega), if_pos (by omega)])
        · have g12 : ¬ (12 : Int32) ≤ nI i := nI_ge (b := 12) (by omega) (by decide)
          rw [if_neg g12]
          exact put c (by rw [if_neg (by omega), if_neg (by omega), if_pos (by omega)])
      · have g8 : ¬ (8 : Int32) ≤ nI i := nI_ge (b := 8) (by omega) (by decide)
        rw [if_neg g8]
        exact put b (by rw [if_neg (by omega), if_pos (by omega)])
    · have g4 : ¬ (4 : Int32) ≤ nI i := nI_ge (b := 4) (by omega) (by decide)
      rw [if_neg g4]
      exact put a (by rw [if_pos (by omega)])
  · simp only [M_X10_feed_23]
    rw [h6]
    exact if_pos (Int32.le_refl _)
theorem em_rel {X T : VV} {n : Nat} (f : Nat → Int32) (h : ∀ i, i < n → X 1 i = T 8 i) : ∀ m i, i < n + m → emXn X n f m 1 i = emFn T n f m 8 i
  | 0, i, hi => h i (by omega)
  | m + 1, i, hi => by
    have ih := em_rel f h m
    show upd (emXn X n f m 1) (n + m) (f m) i = upd (emFn T n f m 8) (n + m) (f m) i
    by_cases e : i = n + m
    · subst e; rw [upd_self, upd_self]
    · rw [upd_ne _ _ e, upd_ne _ _ e]; exact ih i (by omega)
theorem emXn_2 (X : VV) (n : Nat) (f : Nat → Int32) : ∀ m c, c ≠ 0 → emXn X n f m 0 c = X 0 c
  | 0, _, _ => rfl
  | m + 1, c, h => (upd_ne _ _ h).trans (emXn_2 X n f m c h)
theorem emFn_f (T : VV) (n : Nat) (f : Nat → Int32) : ∀ m, (∀ j, j ≠ 0 → j ≠ 8 → emFn T n f m j = T j) ∧ ∀ c, c ≠ 6 → emFn T n f m 0 c = T 0 c
  | 0 => ⟨fun _ _ _ => rfl, fun _ _ => rfl⟩
  | m + 1 => by
    obtain ⟨h1, h2⟩ := emFn_f T n f m
    refine ⟨fun j h0 h8 => ?_, fun c hc => ?_⟩
    · show va_up (va_up (emFn T n f m) 8 _) 0 _ j = T j
      rw [vaN _ _ h0, vaN _ _ h8, h1 j h0 h8]
    · exact (upd_ne _ _ hc).trans (h2 c hc)
theorem n_feed {S : VV × VV × VV × VV × VV × Int32} {T : VV} {V : Nat × Int32 × Int32 × (Nat → VV)} {N k : Nat} (G : GIx S T V N) (hk : 20000 ≤ k) (a b c d e : Int32) : ∃ v S' T', M_X9_feed k S a b c d e = some (v, S') ∧ M_X10_feed k T a b c d e = some (v, T') ∧ GIx S' T' V N := by
  obtain ⟨n, b1, b2, b3, b4, b5⟩ := G.ti
  have e6 : va_up T 0 (upd (T 0) 1 0) 0 6 = nI n := b3
  by_cases hn : n + 20 ≤ 700
  · have h0 : nI n + 20 ≤ (700 : Int32) := by
      rw [show (20 : Int32) = nI 20 from rfl, nI_add]
      exact nI_le (b := 700) hn (by decide)
    obtain ⟨f1, f2⟩ := emFn_f (th T 0) n (val5 a b c d e) 20
    have s : ∀ x, x ≠ 6 → x ≠ 1 → emFn (th T 0) n (val5 a b c d e) 20 0 x = T 0 x := fun x h6 h1 => (f2 x h6).trans (upd_ne _ _ h1)
    have r : ∀ j, j ≠ 0 → j ≠ 8 → emFn (th T 0) n (val5 a b c d e) 20 j = T j := fun j h0 h8 => (f1 j h0 h8).trans (vaN _ _ h0)
    obtain ⟨A, hA, J⟩ := G.nw
    refine ⟨nI (n + 20), _, emFn (th T 0) n (val5 a b c d e) 20, c_feed hk b2 hn a b c d e, ?_, ?_⟩
    · simp only [M_X10_feed, M_X10_feed_0, lt_eq]
      rw [e6, if_pos h0]
      exact r_feed hk e6 hn a b c d e
    · refine GIx.ofs (nw := ⟨A, hA, J.frame (s 3 (by decide) (by decide)) (r 1 (by decide) (by decide))⟩) (ti := ⟨n + 20, hn, rfl, rfl, ?_, ?_⟩) (xi := G.xi.frame (s 5 (by decide) (by decide)) (r 7 (by decide) (by decide))) (si := G.si.frame (s 2 (by decide) (by decide)) (r 4 (by decide) (by decide))) (hi := G.hi.frame (s 0 (by decide) (by decide)) (r 5 (by decide) (by decide)))
      · exact em_rel (T := th T 0) (val5 a b c d e) (fun i hi => b4 i hi) 20
      · show emXn S.2.2.2.1 n (val5 a b c d e) 20 0 2 = _
        rw [emXn_2 _ _ _ _ _ (by decide), b5]
        exact (s 13 (by decide) (by decide)).symm
  · have h0 : ¬ nI n + 20 ≤ (700 : Int32) := by
      rw [show (20 : Int32) = nI 20 from rfl, nI_add]
      exact nI_ge (a := 700) (by omega) (by omega)
    refine ⟨-1, S, th T 0, ?_, ?_, G.frame (tf_th T 0)⟩
    · simp only [M_X9_feed, M_X9_feed_0, lt_eq]
      rw [b2, if_neg h0]
    · simp only [M_X10_feed, M_X10_feed_0, lt_eq]
      rw [e6, if_neg h0]
