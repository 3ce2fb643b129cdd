-- ===== a fleet is begun =====
def LA (W Z m : Nat) (st sh : Nat → Nat) : AF := mkA W Z m 0 0 (fun j => decide (j < W)) (fun _ => -1) st sh (fun _ => -1) (fun _ _ => 0) []
def LW (W Z m : Nat) (st sh : Nat → Nat) : Prop := (2 ≤ W) ∧ (W ≤ 12) ∧ (1 ≤ Z) ∧ (Z ≤ W) ∧ (Z ≤ 4) ∧ (m ≤ 12) ∧ (∀ i, i < 5 → st i < 1000) ∧ (st 1 ≤ 5) ∧ (∀ t, t < m → sh t < 2 ^ W) ∧ (∀ t, t < m → pcn (sh t) 12 = Z)
theorem LW.w2 {W Z m : Nat} {st sh : Nat → Nat} (R__ : LW W Z m st sh) : 2 ≤ W := R__.1
theorem LW.w12 {W Z m : Nat} {st sh : Nat → Nat} (R__ : LW W Z m st sh) : W ≤ 12 := R__.2.1
theorem LW.z1 {W Z m : Nat} {st sh : Nat → Nat} (R__ : LW W Z m st sh) : 1 ≤ Z := R__.2.2.1
theorem LW.zw {W Z m : Nat} {st sh : Nat → Nat} (R__ : LW W Z m st sh) : Z ≤ W := R__.2.2.2.1
theorem LW.z4 {W Z m : Nat} {st sh : Nat → Nat} (R__ : LW W Z m st sh) : Z ≤ 4 := R__.2.2.2.2.1
theorem LW.m12 {W Z m : Nat} {st sh : Nat → Nat} (R__ : LW W Z m st sh) : m ≤ 12 := R__.2.2.2.2.2.1
theorem LW.se {W Z m : Nat} {st sh : Nat → Nat} (R__ : LW W Z m st sh) : ∀ i, i < 5 → st i < 1000 := R__.2.2.2.2.2.2.1
theorem LW.r5 {W Z m : Nat} {st sh : Nat → Nat} (R__ : LW W Z m st sh) : st 1 ≤ 5 := R__.2.2.2.2.2.2.2.1
theorem LW.shl {W Z m : Nat} {st sh : Nat → Nat} (R__ : LW W Z m st sh) : ∀ t, t < m → sh t < 2 ^ W := R__.2.2.2.2.2.2.2.2.1
theorem LW.pcz {W Z m : Nat} {st sh : Nat → Nat} (R__ : LW W Z m st sh) : ∀ t, t < m → pcn (sh t) 12 = Z := R__.2.2.2.2.2.2.2.2.2
theorem LW.ofs {W Z m : Nat} {st sh : Nat → Nat} (w2 : 2 ≤ W) (w12 : W ≤ 12) (z1 : 1 ≤ Z) (zw : Z ≤ W) (z4 : Z ≤ 4) (m12 : m ≤ 12) (se : ∀ i, i < 5 → st i < 1000) (r5 : st 1 ≤ 5) (shl : ∀ t, t < m → sh t < 2 ^ W) (pcz : ∀ t, t < m → pcn (sh t) 12 = Z) : LW W Z m st sh := ⟨w2, w12, z1, zw, z4, m12, se, r5, shl, pcz⟩
theorem la_RST {W Z m : Nat} {st sh : Nat → Nat} (w : LW W Z m st sh) : RST (LA W Z m st sh) (fun _ => 0) (fun _ => 0) [] [] 0 (fun _ => 0) :=
  RST.ofs (li := LI.ofs (toAW := ⟨w.w2, w.w12, w.z1, w.zw, w.m12, Nat.zero_le _, (by decide : (0 : Nat) < 20000), w.se, w.shl, fun r hr => absurd hr (Nat.not_lt_zero r)⟩) (toAL := ⟨List.nodup_nil, fun r hr => absurd hr List.not_mem_nil⟩)
      (wt := fun r => ⟨fun h => absurd h List.not_mem_nil, fun h => absurd h.1 (Nat.not_lt_zero r)⟩) (q0 := fun r hr _ => absurd hr (Nat.not_lt_zero r)) (q1 := fun r hr _ => absurd hr (Nat.not_lt_zero r)))
    (su := fun r j hr _ _ => absurd hr List.not_mem_nil) (sr := fun r hr => absurd hr (Nat.not_lt_zero r)) (tt := ⟨List.Pairwise.nil, fun r hr => absurd hr List.not_mem_nil⟩) (ko := ⟨List.Pairwise.nil, fun x hx => absurd hx List.not_mem_nil⟩)
    (pm := List.Perm.refl []) (km := fun t ht => ⟨Nat.le_refl 0, fun i hi => absurd hi (Nat.not_lt_zero i)⟩) (fl := fun t ht => Nat.zero_le _) (ac := ⟨fun r hr => absurd hr (Nat.not_lt_zero r), rfl⟩) (r5 := w.r5) (pc := w.pcz) (z4 := w.z4)
/-- both sides keep a fleet that has no requests yet -/
def LF (F U : VV) (W Z m : Nat) (st sh : Nat → Nat) : Prop := LW W Z m st sh ∧ RelC F (LA W Z m st sh) (fun _ => 0) [] ∧ RelM U 2 (LA W Z m st sh) (fun _ => 0) [] 0 (fun _ => 0) ∧ ∀ t, t < 12 → F 3 (t * 3 + 1) = -1 ∧ F 3 (t * 3 + 2) = 0
theorem LF.jr {F U : VV} {W Z m : Nat} {st sh : Nat → Nat} (h : LF F U W Z m st sh) : JR F U 2 (LA W Z m st sh) 0 := ⟨_, _, _, _, _, _, h.2.1, h.2.2.1, la_RST h.1, Nat.le_refl 0⟩
def fil (v : Int32) (G : Nat → Int32) : Nat → Nat → Int32
  | 0 => G
  | i + 1 => upd (fil v G i) i v
theorem fil_at (v : Int32) (G : Nat → Int32) : ∀ i j, j < i → fil v G i j = v
  | 0, j, h => absurd h (Nat.not_lt_zero j)
  | i + 1, j, h => by
    show upd (fil v G i) i v j = v
    by_cases e : j = i
    · rw [e, upd_self]
    · rw [upd_ne _ _ e]
      exact fil_at v G i j (by omega)
def stl : List Nat := [5, 2, 3, 20, 50]
def st0 (i : Nat) : Nat := stl.getD i 0
def fst5 (G : Nat → Int32) : Nat → Nat → Int32
  | 0 => G
  | i + 1 => upd (fst5 G i) i (nI (st0 i))
theorem fst5_at (G : Nat → Int32) : ∀ i j, j < i → fst5 G i j = nI (st0 j)
  | 0, j, h => absurd h (Nat.not_lt_zero j)
  | i + 1, j, h => by
    show upd (fst5 G i) i (nI (st0 i)) j = _
    by_cases e : j = i
    · rw [e, upd_self]
    · rw [upd_ne _ _ e]
      exact fst5_at G i j (by omega)
theorem st0_list : ∀ i, i < 5 → ([5, 2, 3, 20, 50] : List Int32).getD i 0 = nI (st0 i) := by decide
theorem co_forget0 {F : VV} {k : Nat} (hk : 20000 ≤ k) : ∃ F', M_X0_forgetRequests k F = some F' ∧ (∀ j, j < 144 → F' 9 j = 0) ∧ F' 0 = upd (upd (F 0) 3 0) 6 0 ∧ F' 1 = F 1 ∧ F' 2 = F 2 ∧ F' 3 = fgT (F 3) 12 ∧ F' 6 0 = 0 := by
  obtain ⟨Y, eY, hY⟩ := co_zero hk (F 9)
  simp only [M_X0_forgetRequests, M_X0_forgetRequests_0, M_X3_clear, M_X3_clear_0, lt_eq]
  have e : ∀ K : VV, K 3 = F 9 → M_X6_clear k 12 12 144 (K 3) = some Y := fun K hK => by rw [hK]; exact eY
  rw [e _ rfl, Option.bind_some, Option.bind_some, co_forgetL hk]
  exact ⟨_, rfl, hY, rfl, rfl, rfl, rfl, rfl⟩
theorem c_begin {F : VV} {k W Z : Nat} (hk : 20000 ≤ k) (hW : W ≤ 12) : ∃ F', M_X0_begin k F (nI W) (nI Z) = some F' ∧ RelC F' (LA W Z 0 st0 (fun _ => 0)) (fun _ => 0) [] ∧ ∀ t, t < 12 → F' 3 (t * 3 + 1) = -1 ∧ F' 3 (t * 3 + 2) = 0 := by
  have b53 : ∀ X : VV, M_X0_begin_53 k k 0 X = M_X0_forgetRequests k (va_up X 1 (fst5 (X 1) 5)) := fun X => by
    have key := loop_st0 (fun n i => M_X0_begin_53 k n (nI i) (va_up X 1 (fst5 (X 1) i))) 5 (M_X0_forgetRequests k (va_up X 1 (fst5 (X 1) 5))) (fun n i hi => by
      show (if nI 5 ≤ nI i then _ else (if inb (nI i) 5 = true then (M_X5_put k 5 (fst5 (X 1) i) (nI i) (([5, 2, 3, 20, 50] : List Int32).getD (nI i).toNatClampNeg 0)).bind fun q6 => M_X0_begin_53 k n (nI i + 1) (va_up (va_up X 1 (fst5 (X 1) i)) 1 q6) else none)) = M_X0_begin_53 k n (nI (i + 1)) (va_up X 1 (upd (fst5 (X 1) i) i (nI (st0 i))))
      rw [if_neg (nI_ge hi (by decide)), if_pos (inb_nI hi (by decide)), nI_clamp (by omega), st0_list i hi, R_putI k hi (by decide), Option.bind_some, va_up_up, nI_1]) (fun n => by
      show (if nI 5 ≤ nI 5 then ((M_X0_forgetRequests k (va_up X 1 (fst5 (X 1) 5))).bind fun q3 => some q3) else _) = _
      rw [if_pos (nI_le (Nat.le_refl 5) (by decide))]
      exact bindS _) (fuel := k) (by omega)
    rw [show va_up X 1 (fst5 (X 1) 0) = X from va_same X 1] at key
    exact key
  have b30 : ∀ X : VV, M_X0_begin_30 k k 0 X = M_X0_begin_53 k k 0 (va_up X 2 (fil (-1) (X 2) 12)) := fun X => by
    have key := loop_st0 (fun n i => M_X0_begin_30 k n (nI i) (va_up X 2 (fil (-1) (X 2) i))) 12 (M_X0_begin_53 k k 0 (va_up X 2 (fil (-1) (X 2) 12))) (fun n i hi => by
      show (if (12 : Int32) ≤ nI i then _ else ((M_X5_put k 12 (fil (-1) (X 2) i) (nI i) (-1)).bind fun q9 => M_X0_begin_30 k n (nI i + 1) (va_up (va_up X 2 (fil (-1) (X 2) i)) 2 q9))) = M_X0_begin_30 k n (nI (i + 1)) (va_up X 2 (upd (fil (-1) (X 2) i) i (-1)))
      rw [if_neg (show ¬ (12 : Int32) ≤ nI i from nI_ge (b := 12) hi (by decide)), R_putI k hi (by decide), Option.bind_some, va_up_up, nI_1]) (fun n => by
      show (if (12 : Int32) ≤ nI 12 then M_X0_begin_53 k k 0 (va_up X 2 (fil (-1) (X 2) 12)) else _) = _
      rw [if_pos (show (12 : Int32) ≤ nI 12 from nI_le (Nat.le_refl 12) (by decide))]) (fuel := k) (by omega)
    rw [show va_up X 2 (fil (-1) (X 2) 0) = X from va_same X 2] at key
    exact key
  have e0 : M_X0_begin k F (nI W) (nI Z) = M_X0_begin_30 k k 0 (va_up F 0 (upd (upd (upd (upd (upd (F 0) 0 (nI W)) 1 (nI Z)) 2 0) 4 0) 5 (((1 : Int32) <<< (nI W &&& 31)) - 1))) := by
    show M_X0_begin_30 k k 0 (va_up (va_up (va_up (va_up (va_up F 0 (upd (F 0) 0 (nI W))) 0 (upd (upd (F 0) 0 (nI W)) 1 (nI Z))) 0 (upd (upd (upd (F 0) 0 (nI W)) 1 (nI Z)) 2 0)) 0 (upd (upd (upd (upd (F 0) 0 (nI W)) 1 (nI Z)) 2 0) 4 0)) 0 (upd (upd (upd (upd (upd (F 0) 0 (nI W)) 1 (nI Z)) 2 0) 4 0) 5 (((1 : Int32) <<< (nI W &&& 31)) - 1))) = _
    rw [va_up_up, va_up_up, va_up_up, va_up_up]
  obtain ⟨F', e1, h9, h0, h1, h2, h3, h6⟩ := co_forget0 (F := va_up (va_up (va_up F 0 (upd (upd (upd (upd (upd (F 0) 0 (nI W)) 1 (nI Z)) 2 0) 4 0) 5 (((1 : Int32) <<< (nI W &&& 31)) - 1))) 2 (fil (-1) (F 2) 12)) 1 (fst5 (F 1) 5)) hk
  have h0 : F' 0 = upd (upd (upd (upd (upd (upd (upd (F 0) 0 (nI W)) 1 (nI Z)) 2 0) 4 0) 5 (((1 : Int32) <<< (nI W &&& 31)) - 1)) 3 0) 6 0 := h0
  have h1 : F' 1 = fst5 (F 1) 5 := h1
  have h2 : F' 2 = fil (-1) (F 2) 12 := h2
  have h3 : F' 3 = fgT (F 3) 12 := h3
  refine ⟨F', ?_, RelC.ofs (s0 := by rw [h0]; rfl) (s1 := by rw [h0]; rfl) (s2 := by rw [h0]; rfl) (s3 := by rw [h0]; rfl) (s4 := by rw [h0]; rfl) (s5 := ?_) (s6 := by rw [h0]; rfl) (se := fun i hi => by rw [h1]; exact fst5_at _ _ _ hi) (ag := fun w hw => ?_) (te := fun t ht => absurd ht (Nat.not_lt_zero t)) (rq := fun r c hr _ => absurd hr (Nat.not_lt_zero r)) (li := fun i hi => absurd hi (Nat.not_lt_zero i)) (k0 := h6) (k1 := fun i hi => absurd hi (Nat.not_lt_zero i)) (kp := fun t w ht hw => h9 (t * 12 + w) (by omega)), fun t ht => ?_⟩
  · rw [e0, b30, b53]
    exact e1
  · rw [h0]
    show ((1 : Int32) <<< (nI W &&& 31)) - 1 = nI (msk (fun j => decide (j < W)) W)
    have hm : msk (fun j => decide (j < W)) W = 2 ^ W - 1 := by
      have hp : 0 < 2 ^ W := Nat.pos_of_ne_zero (by simp)
      have := msk_of (a := 2 ^ W - 1) (n := W) (by omega)
      rw [← this]
      exact msk_ext (fun i hi => by rw [Nat.testBit_two_pow_sub_one])
    have hp : 1 ≤ 2 ^ W := Nat.pos_of_ne_zero (by simp)
    rw [bit_nI (by omega), show (1 : Int32) = nI 1 from rfl, nI_sub hp, hm]
  · have hw : w < W := hw
    rw [h2]
    exact fil_at _ _ _ _ (by omega)
  · rw [h3]
    exact (fgT_at (F 3) 12 t).2 ht
-- the reference
def clr0 (Y : Nat → Int32) : Nat → Int32 := upd (upd (upd (upd (upd Y 5 5) 6 2) 7 3) 8 20) 9 50
theorem r_clear {k : Nat} (hk : 20000 ≤ k) (G : Nat → Int32) : ∃ Y, M_X10_clear k 1692 G = some (clr0 Y) ∧ ∀ j, j < 1692 → Y j = 0 := by
  refine ⟨foldU (fun i Y => upd Y i 0) 1692 G, ?_, fun j hj => by rw [zero_fold, if_pos hj]⟩
  refine loop_f0 (fun n i Y => M_X10_clear_2 k 1692 n i Y) 1692 (fun i Y => upd Y i 0) (fun Y => some (clr0 Y)) (fun n i Y hi => ?_) (fun n Y => ?_) G (by omega)
  · simp only [M_X10_clear_2, lt_eq]
    rw [if_neg (show ¬ (1692 : Int32) ≤ nI i from nI_ge (b := 1692) hi (by decide)), if_pos (inb_nI hi (by decide)), nI_clamp (by omega), nI_1]
  · simp only [M_X10_clear_2, lt_eq]
    rw [if_pos (show (1692 : Int32) ≤ nI 1692 from nI_le (Nat.le_refl 1692) (by decide)), if_pos (show inb (5 : Int32) 1692 = true by decide), if_pos (show inb (6 : Int32) 1692 = true by decide), if_pos (show inb (7 : Int32) 1692 = true by decide), if_pos (show inb (8 : Int32) 1692 = true by decide), if_pos (show inb (9 : Int32) 1692 = true by decide)]
    rfl
def lyF (G : Nat → Int32) : Nat → Nat → Int32
  | 0 => G
  | j + 1 => upd (upd (lyF G j) (12 + 2 * j + 0) 1) (12 + 2 * j + 1) (-1)
theorem lyF_lo (G : Nat → Int32) : ∀ j x, x < 12 → lyF G j x = G x
  | 0, _, _ => rfl
  | j + 1, x, h => by
    show upd (upd (lyF G j) (12 + 2 * j + 0) 1) (12 + 2 * j + 1) (-1) x = G x
    rw [upd_ne _ _ (by omega), upd_ne _ _ (by omega)]
    exact lyF_lo G j x h
theorem lyF_at (G : Nat → Int32) : ∀ j w, w < j → lyF G j (12 + 2 * w + 0) = 1 ∧ lyF G j (12 + 2 * w + 1) = -1
  | 0, w, h => absurd h (Nat.not_lt_zero w)
  | j + 1, w, h => by
    show upd (upd (lyF G j) (12 + 2 * j + 0) 1) (12 + 2 * j + 1) (-1) (12 + 2 * w + 0) = 1 ∧ upd (upd (lyF G j) (12 + 2 * j + 0) 1) (12 + 2 * j + 1) (-1) (12 + 2 * w + 1) = -1
    by_cases e : w = j
    · subst e
      exact ⟨by rw [upd_ne _ _ (by omega), upd_self], by rw [upd_self]⟩
    · obtain ⟨h1, h2⟩ := lyF_at G j w (by omega)
      exact ⟨by rw [upd_ne _ _ (by omega), upd_ne _ _ (by omega)]; exact h1, by rw [upd_ne _ _ (by omega), upd_ne _ _ (by omega)]; exact h2⟩
theorem r_lay {k W Z : Nat} (hk : 20000 ≤ k) (hW : W ≤ 12) (G : Nat → Int32) : M_X10_layWorkers k 1692 G (nI W) (nI Z) = some (lyF (upd (upd G 0 (nI W)) 1 (nI Z)) W) := by
  have e0 : M_X10_layWorkers k 1692 G (nI W) (nI Z) = M_X10_layWorkers_10 k 1692 k (nI W) 0 (upd (upd G 0 (nI W)) 1 (nI Z)) := by
    simp only [M_X10_layWorkers, M_X10_layWorkers_0, lt_eq]
    rw [if_pos (show inb (0 : Int32) 1692 = true by decide), if_pos (show inb (1 : Int32) 1692 = true by decide)]
    rfl
  rw [e0]
  refine loop_st0 (fun n i => M_X10_layWorkers_10 k 1692 n (nI W) (nI i) (lyF (upd (upd G 0 (nI W)) 1 (nI Z)) i)) W _ (fun n i hi => ?_) (fun n => ?_) (by omega)
  · simp only [M_X10_layWorkers_10, lt_eq]
    rw [if_neg (nI_ge hi (by omega)), worAt k i 0 (x := 0) rfl, Option.bind_some, ifin rfl (by omega), nI_clamp (by omega), worAt k i 1 (x := 1) rfl, Option.bind_some, ifin rfl (by omega), nI_clamp (by omega), nI_1]
    rfl
  · simp only [M_X10_layWorkers_10]
    rw [if_pos (nI_le (Nat.le_refl _) (by omega))]
/-- the fleet that the first line of a text begins -/
theorem l_begin {F U : VV} {k W Z : Nat} (hk : 20000 ≤ k) (h2 : 2 ≤ W) (hW : W ≤ 12) (hZ : 1 ≤ Z) (hZW : Z ≤ W) (hZ4 : Z ≤ 4) {Y : Nat → Int32} (hU : U 2 = clr0 Y) (hY : ∀ j, j < 1692 → Y j = 0) (h3 : U 0 3 = 2) : ∃ F' G, M_X0_begin k F (nI W) (nI Z) = some F' ∧ M_X10_layWorkers k 1692 (U 2) (nI W) (nI Z) = some G ∧ LF F' (va_up U 2 G) W Z 0 st0 (fun _ => 0) := by
  obtain ⟨F', e1, R, hT⟩ := c_begin (F := F) (Z := Z) hk hW
  refine ⟨F', _, e1, r_lay hk hW (U 2), LW.ofs (w2 := h2) (w12 := hW) (z1 := hZ) (zw := hZW) (z4 := hZ4) (m12 := Nat.zero_le _) (se := by decide) (r5 := by decide) (shl := fun t ht => absurd ht (Nat.not_lt_zero t)) (pcz := fun t ht => absurd ht (Nat.not_lt_zero t)), R, ?_, hT⟩
  have lo : ∀ x, x < 12 → va_up U 2 (lyF (upd (upd (U 2) 0 (nI W)) 1 (nI Z)) W) 2 x = upd (upd (clr0 Y) 0 (nI W)) 1 (nI Z) x := fun x hx => by
    rw [vaS, lyF_lo _ _ _ hx, hU]
  refine RelM.ofs (gs := ⟨by
      show (U 0 3).toNatClampNeg = 2
      rw [h3]
      decide, rfl⟩) (s0 := (lo 0 (by decide)).trans rfl) (s1 := (lo 1 (by decide)).trans rfl) (s2 := (lo 2 (by decide)).trans (hY 2 (by decide))) (s3 := (lo 3 (by decide)).trans (hY 3 (by decide))) (s4 := (lo 4 (by decide)).trans (hY 4 (by decide)))
    (se := fun i hi => ?_) (s10 := (lo 10 (by decide)).trans (hY 10 (by decide))) (s11 := (lo 11 (by decide)).trans (hY 11 (by decide))) (wo := fun j hj => ?_) (te := fun t ht => absurd ht (Nat.not_lt_zero t)) (rq := fun r c hr _ => absurd hr (Nat.not_lt_zero r)) (ti := fun r hr => absurd hr (Nat.not_lt_zero r)) (ki := fun i hi => absurd hi (Nat.not_lt_zero i))
  · rw [lo (5 + i) (by omega)]
    rcases (show i = 0 ∨ i = 1 ∨ i = 2 ∨ i = 3 ∨ i = 4 by omega) with rfl | rfl | rfl | rfl | rfl <;> rfl
  · have hj : j < W := hj
    obtain ⟨a1, a2⟩ := lyF_at (upd (upd (U 2) 0 (nI W)) 1 (nI Z)) W j hj
    refine ⟨?_, by rw [vaS]; exact a2⟩
    show va_up U 2 (lyF (upd (upd (U 2) 0 (nI W)) 1 (nI Z)) W) 2 (12 + 2 * j + 0) = b1 (decide (j < W))
    rw [vaS, a1, decide_eq_true hj]
    rfl
-- settings and tenants of a fleet that has no requests yet
theorem l_set {F U : VV} {W Z m : Nat} {st sh : Nat → Nat} (h : LF F U W Z m st sh) {i : Nat} (hi : i < 5) {v : Nat} (hv : v < 1000) (h1 : i = 1 → v ≤ 5) : LF (va_up F 1 (upd (F 1) i (nI v))) (va_up U 2 (upd (U 2) (5 + i) (nI v))) W Z m (up1 st i v) sh := by
  obtain ⟨w, R, M, hT⟩ := h
  refine ⟨LW.ofs (w2 := w.w2) (w12 := w.w12) (z1 := w.z1) (zw := w.zw) (z4 := w.z4) (m12 := w.m12) (se := fun x hx => ?_) (r5 := ?_) (shl := w.shl) (pcz := w.pcz), R.putSt v, M.putSt (la_RST w).li.toAW hi v, hT⟩
  · unfold up1
    split
    · exact hv
    · exact w.se x hx
  · unfold up1
    split
    · rename_i e; exact h1 e.symm
    · exact w.r5
def tenG (G : Nat → Int32) (m : Nat) (v : Int32) : Nat → Int32 := upd (upd (upd (upd G (36 + 3 * m + 0) v) (36 + 3 * m + 1) (-1)) (36 + 3 * m + 2) 0) 2 (nI (m + 1))
theorem tenG_ne (G : Nat → Int32) (m : Nat) (v : Int32) {x : Nat} (h2 : x ≠ 2) (h : x < 36 + 3 * m ∨ 36 + 3 * m + 3 ≤ x) : tenG G m v x = G x := by
  unfold tenG
  rw [upd_ne _ _ h2, upd_ne _ _ (by omega), upd_ne _ _ (by omega), upd_ne _ _ (by omega)]
theorem c_ten {F : VV} {k m : Nat} (hm : m < 12) (h2 : F 0 2 = nI m) (v : Int32) : M_X0_addTenant k F v = some (va_up (va_up F 3 (upd (F 3) (m * 3 + 0) v)) 0 (upd (F 0) 2 (nI (m + 1)))) := by
  simp only [M_X0_addTenant, M_X0_addTenant_0, lt_eq]
  have c2 : va_up F 3 (upd (F 3) (m * 3 + 0) v) 0 2 = nI m := h2
  rw [h2, TT_putI k (r := m) (c := 0) (x := 0) hm (by decide) rfl, Option.bind_some, c2, nI_1]
  rfl
theorem l_ten {F U : VV} {W Z m : Nat} {st sh : Nat → Nat} (h : LF F U W Z m st sh) (hm : m < 12) {v : Nat} (hv : v < 2 ^ W) (hp : pcn v 12 = Z) : LF (va_up (va_up F 3 (upd (F 3) (m * 3 + 0) (nI v))) 0 (upd (F 0) 2 (nI (m + 1)))) (va_up U 2 (tenG (U 2) m (nI v))) W Z (m + 1) st (up1 sh m v) := by
  obtain ⟨w, R, M, hT⟩ := h
  have hW := w.w12
  refine ⟨LW.ofs (w2 := w.w2) (w12 := w.w12) (z1 := w.z1) (zw := w.zw) (z4 := w.z4) (m12 := hm) (se := w.se) (r5 := w.r5) (shl := fun t ht => ?_) (pcz := fun t ht => ?_), ?_, ?_, fun t ht => ?_⟩
  · unfold up1
    split
    · exact hv
    · exact w.shl t (by omega)
  · unfold up1
    split
    · exact hp
    · exact w.pcz t (by omega)
  · refine RelC.ofs (s0 := R.s0) (s1 := R.s1) (s2 := rfl) (s3 := R.s3) (s4 := R.s4) (s5 := R.s5) (s6 := R.s6) (se := R.se) (ag := R.ag) (te := fun t ht => ?_) (rq := R.rq) (li := R.li) (k0 := R.k0) (k1 := R.k1) (kp := R.kp)
    have ht : t < m + 1 := ht
    show upd (F 3) (m * 3 + 0) (nI v) (t * 3 + 0) = nI (up1 sh m v t) ∧ upd (F 3) (m * 3 + 0) (nI v) (t * 3 + 1) = -1 ∧ upd (F 3) (m * 3 + 0) (nI v) (t * 3 + 2) = 0
    obtain ⟨g1, g2⟩ := hT t (by omega)
    refine ⟨?_, by rw [upd_ne _ _ (by omega)]; exact g1, by rw [upd_ne _ _ (by omega)]; exact g2⟩
    by_cases e : t = m
    · rw [e, upd_self, up1_self]
    · rw [upd_ne _ _ (by omega), up1_ne _ _ e]
      exact (R.te t (show t < m by omega)).1
  · have ne : ∀ x, x ≠ 2 → (x < 36 + 3 * m ∨ 36 + 3 * m + 3 ≤ x) → va_up U 2 (tenG (U 2) m (nI v)) 2 x = U 2 x := fun x h2 h => by rw [vaS]; exact tenG_ne _ _ _ h2 h
    refine RelM.ofs (gs := M.gs.up _) (s0 := (ne 0 (by decide) (by omega)).trans M.s0) (s1 := (ne 1 (by decide) (by omega)).trans M.s1) (s2 := ?_) (s3 := (ne 3 (by decide) (by omega)).trans M.s3) (s4 := (ne 4 (by decide) (by omega)).trans M.s4) (se := fun i hi => (ne (5 + i) (by omega) (by omega)).trans (M.se i hi)) (s10 := (ne 10 (by decide) (by omega)).trans M.s10) (s11 := (ne 11 (by decide) (by omega)).trans M.s11) (wo := fun j hj => ?_) (te := fun t ht => ?_) (rq := fun r c hr _ => absurd hr (Nat.not_lt_zero r)) (ti := fun r hr => absurd hr (Nat.not_lt_zero r)) (ki := fun i hi => absurd hi (Nat.not_lt_zero i))
    · rw [vaS]
      exact upd_self _ _ _
    · have hj : j < W := hj
      exact ⟨(ne _ (by omega) (by omega)).trans (M.wo j hj).1, (ne _ (by omega) (by omega)).trans (M.wo j hj).2⟩
    · have ht : t < m + 1 := ht
      by_cases e : t = m
      · subst e
        rw [vaS]
        show tenG (U 2) t (nI v) (36 + 3 * t + 0) = nI (up1 sh t v t) ∧ tenG (U 2) t (nI v) (36 + 3 * t + 1) = -1 ∧ tenG (U 2) t (nI v) (36 + 3 * t + 2) = 0
        unfold tenG
        rw [up1_self]
        refine ⟨?_, ?_, ?_⟩
        · rw [upd_ne _ _ (by omega), upd_ne _ _ (by omega), upd_ne _ _ (by omega), upd_self]
        · rw [upd_ne _ _ (by omega), upd_ne _ _ (by omega), upd_self]
        · rw [upd_ne _ _ (by omega), upd_self]
      · have hl : t < m := by omega
        obtain ⟨a1, a2, a3⟩ := M.te t hl
        refine ⟨?_, (ne _ (by omega) (by omega)).trans a2, (ne _ (by omega) (by omega)).trans a3⟩
        show va_up U 2 (tenG (U 2) m (nI v)) 2 (36 + 3 * t + 0) = nI (up1 sh m v t)
        rw [ne _ (by omega) (by omega), up1_ne _ _ e]
        exact a1
  · show upd (F 3) (m * 3 + 0) (nI v) (t * 3 + 1) = -1 ∧ upd (F 3) (m * 3 + 0) (nI v) (t * 3 + 2) = 0
    obtain ⟨g1, g2⟩ := hT t ht
    exact ⟨by rw [upd_ne _ _ (by omega)]; exact g1, by rw [upd_ne _ _ (by omega)]; exact g2⟩
