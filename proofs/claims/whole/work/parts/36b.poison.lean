-- ===== a poisoned request aside =====
def fgA (A : AF) : AF := mkA A.W A.Z A.m 0 A.t A.up A.again A.st A.sh (fun _ => -1) A.Q []
theorem fg_RST {A : AF} {fg mk : Nat → Nat} {ks ks' : KL} {tk : Nat} {tkt : Nat → Nat} (I : RST A fg mk ks ks' tk tkt) : RST (fgA A) (fun _ => 0) (fun _ => 0) [] [] tk tkt :=
  RST.ofs (li := LI.ofs (toAW := ⟨I.li.w2, I.li.w12, I.li.z1, I.li.zw, I.li.m12, Nat.zero_le _, I.li.t4, I.li.se, I.li.sh, fun r hr => absurd hr (Nat.not_lt_zero r)⟩) (toAL := ⟨List.nodup_nil, fun r hr => absurd hr List.not_mem_nil⟩)
      (wt := fun r => ⟨fun h => absurd h List.not_mem_nil, fun h => absurd h.1 (Nat.not_lt_zero r)⟩) (q0 := fun r hr _ => absurd hr (Nat.not_lt_zero r)) (q1 := fun r hr _ => absurd hr (Nat.not_lt_zero r)))
    (su := fun r j hr _ _ => absurd hr List.not_mem_nil) (sr := fun r hr => absurd hr (Nat.not_lt_zero r)) (tt := ⟨List.Pairwise.nil, fun r hr => absurd hr List.not_mem_nil⟩) (ko := ⟨List.Pairwise.nil, fun x hx => absurd hx List.not_mem_nil⟩)
    (pm := List.Perm.refl []) (km := fun t ht => ⟨Nat.le_refl 0, fun i hi => absurd hi (Nat.not_lt_zero i)⟩) (fl := fun t ht => Nat.zero_le _) (ac := ⟨fun r hr => absurd hr (Nat.not_lt_zero r), rfl⟩) (r5 := I.r5) (pc := I.pc) (z4 := I.z4)
theorem zero_fold (X : Nat → Int32) : ∀ n j, foldU (fun i Y => upd Y i 0) n X j = if j < n then 0 else X j
  | 0, j => by rw [if_neg (Nat.not_lt_zero j)]; rfl
  | n + 1, j => by
    have ih := zero_fold X n j
    show upd (foldU (fun i Y => upd Y i 0) n X) n 0 j = _
    by_cases e : j = n
    · subst e; rw [upd_self, if_pos (Nat.lt_succ_self _)]
    · rw [upd_ne _ _ e, ih]
      by_cases h : j < n
      · rw [if_pos h, if_pos (by omega)]
      · rw [if_neg h, if_neg (by omega)]
theorem co_zero {k : Nat} (hk : 20000 ≤ k) (X : Nat → Int32) : ∃ Y, M_X6_clear k 12 12 144 X = some Y ∧ ∀ j, j < 144 → Y j = 0 := by
  refine ⟨foldU (fun i Y => upd Y i 0) 144 X, ?_, fun j hj => by rw [zero_fold, if_pos hj]⟩
  refine loop_f0 (fun n i Y => M_X6_clear_2 k 12 12 144 n i Y) 144 (fun i Y => upd Y i 0) some (fun n i Y hi => ?_) (fun n Y => ?_) X (by omega)
  · simp only [M_X6_clear_2, lt_eq]
    rw [if_neg (nI_ge hi (by decide)), if_pos (inb_nI hi (by decide)), nI_clamp (by omega), nI_1]
  · simp only [M_X6_clear_2]
    rw [if_pos (nI_le (Nat.le_refl _) (by decide))]
def fgT (G : Nat → Int32) : Nat → Nat → Int32
  | 0 => G
  | i + 1 => upd (upd (fgT G i) (i * 3 + 1) (-1)) (i * 3 + 2) 0
theorem fgT_at (G : Nat → Int32) : ∀ i t, fgT G i (t * 3 + 0) = G (t * 3 + 0) ∧ (t < i → fgT G i (t * 3 + 1) = -1 ∧ fgT G i (t * 3 + 2) = 0)
  | 0, t => ⟨rfl, fun h => absurd h (Nat.not_lt_zero t)⟩
  | i + 1, t => by
    obtain ⟨h1, h2⟩ := fgT_at G i t
    show upd (upd (fgT G i) (i * 3 + 1) (-1)) (i * 3 + 2) 0 (t * 3 + 0) = _ ∧ (t < i + 1 → upd (upd (fgT G i) (i * 3 + 1) (-1)) (i * 3 + 2) 0 (t * 3 + 1) = -1 ∧ upd (upd (fgT G i) (i * 3 + 1) (-1)) (i * 3 + 2) 0 (t * 3 + 2) = 0)
    refine ⟨by rw [upd_ne _ _ (by omega), upd_ne _ _ (by omega)]; exact h1, fun ht => ?_⟩
    by_cases e : t = i
    · subst e
      exact ⟨by rw [upd_ne _ _ (by omega), upd_self], by rw [upd_self]⟩
    · have h3 := h2 (by omega)
      exact ⟨by rw [upd_ne _ _ (by omega), upd_ne _ _ (by omega)]; exact h3.1, by rw [upd_ne _ _ (by omega), upd_ne _ _ (by omega)]; exact h3.2⟩
theorem co_forgetL {k : Nat} (hk : 20000 ≤ k) (S : VV) : M_X0_forgetRequests_19 k k 0 S = some (va_up S 3 (fgT (S 3) 12)) := by
  have key := loop_st0 (fun n i => M_X0_forgetRequests_19 k n (nI i) (va_up S 3 (fgT (S 3) i))) 12 (some (va_up S 3 (fgT (S 3) 12))) (fun n i hi => by
    have h0 : ¬ (12 : Int32) ≤ nI i := nI_ge hi (by decide)
    simp only [M_X0_forgetRequests_19, lt_eq]
    rw [if_neg h0, TT_putI k (r := i) (c := 1) (x := 1) hi (by decide) rfl, Option.bind_some, TT_putI k (r := i) (c := 2) (x := 2) hi (by decide) rfl, Option.bind_some, va_up_up, va_up_up, nI_1]
    rfl) (fun n => by
    simp only [M_X0_forgetRequests_19]
    exact if_pos (nI_le (Nat.le_refl 12) (by decide))) (fuel := k) (by omega)
  rw [show va_up S 3 (fgT (S 3) 0) = S from va_same S 3] at key
  exact key
theorem co_forget {F : VV} {A : AF} {fg : Nat → Nat} {ks : KL} {k : Nat} (R : RelC F A fg ks) (w : AW A) (hk : 20000 ≤ k) : ∃ F', M_X0_forgetRequests k F = some F' ∧ RelC F' (fgA A) (fun _ => 0) [] := by
  have hm := w.m12
  obtain ⟨Y, eY, hY⟩ := co_zero hk (F 9)
  simp only [M_X0_forgetRequests, M_X0_forgetRequests_0, M_X3_clear, M_X3_clear_0, lt_eq]
  have e : ∀ K : VV, K 3 = F 9 → M_X6_clear k 12 12 144 (K 3) = some Y := fun K hK => by rw [hK]; exact eY
  rw [e _ rfl, Option.bind_some, Option.bind_some, co_forgetL hk]
  refine ⟨_, rfl, RelC.ofs (s0 := R.s0) (s1 := R.s1) (s2 := R.s2) (s3 := rfl) (s4 := R.s4) (s5 := R.s5) (s6 := rfl) (se := R.se) (ag := R.ag) (te := fun t ht => ?_) (rq := fun r c hr _ => absurd hr (Nat.not_lt_zero r)) (li := fun i hi => absurd hi (Nat.not_lt_zero i)) (k0 := rfl) (k1 := fun i hi => absurd hi (Nat.not_lt_zero i)) (kp := fun t w ht hw => ?_)⟩
  · have ht : t < A.m := ht
    obtain ⟨h1, h2⟩ := fgT_at (F 3) 12 t
    have h3 := h2 (by omega)
    exact ⟨h1.trans (R.te t ht).1, h3.1, h3.2⟩
  · exact hY (t * 12 + w) (by omega)
-- the reference forgets
def fgH (G : Nat → Int32) : Nat → Nat → Int32
  | 0 => upd (upd G 3 0) 11 0
  | i + 1 => upd (upd (fgH G i) (36 + 3 * i + 1) (-1)) (36 + 3 * i + 2) 0
theorem fgH_lo (G : Nat → Int32) : ∀ i x, x < 36 → x ≠ 3 → x ≠ 11 → fgH G i x = G x
  | 0, x, h, h3, h11 => by
    show upd (upd G 3 0) 11 0 x = G x
    rw [upd_ne _ _ h11, upd_ne _ _ h3]
  | i + 1, x, h, h3, h11 => by
    show upd (upd (fgH G i) (36 + 3 * i + 1) (-1)) (36 + 3 * i + 2) 0 x = G x
    rw [upd_ne _ _ (by omega), upd_ne _ _ (by omega)]
    exact fgH_lo G i x h h3 h11
theorem fgH_0 (G : Nat → Int32) : ∀ i, fgH G i 3 = 0 ∧ fgH G i 11 = 0
  | 0 => ⟨by show upd (upd G 3 0) 11 0 3 = 0; rw [upd_ne _ _ (by decide), upd_self], upd_self _ _ _⟩
  | i + 1 => by
    obtain ⟨h1, h2⟩ := fgH_0 G i
    show upd (upd (fgH G i) (36 + 3 * i + 1) (-1)) (36 + 3 * i + 2) 0 3 = 0 ∧ upd (upd (fgH G i) (36 + 3 * i + 1) (-1)) (36 + 3 * i + 2) 0 11 = 0
    exact ⟨by rw [upd_ne _ _ (by omega), upd_ne _ _ (by omega)]; exact h1, by rw [upd_ne _ _ (by omega), upd_ne _ _ (by omega)]; exact h2⟩
theorem fgH_t (G : Nat → Int32) : ∀ i t, fgH G i (36 + 3 * t + 0) = G (36 + 3 * t + 0) ∧ (t < i → fgH G i (36 + 3 * t + 1) = -1 ∧ fgH G i (36 + 3 * t + 2) = 0)
  | 0, t => ⟨by show upd (upd G 3 0) 11 0 _ = _; rw [upd_ne _ _ (by omega), upd_ne _ _ (by omega)], fun h => absurd h (Nat.not_lt_zero t)⟩
  | i + 1, t => by
    obtain ⟨h1, h2⟩ := fgH_t G i t
    show upd (upd (fgH G i) (36 + 3 * i + 1) (-1)) (36 + 3 * i + 2) 0 (36 + 3 * t + 0) = _ ∧ (t < i + 1 → upd (upd (fgH G i) (36 + 3 * i + 1) (-1)) (36 + 3 * i + 2) 0 (36 + 3 * t + 1) = -1 ∧ upd (upd (fgH G i) (36 + 3 * i + 1) (-1)) (36 + 3 * i + 2) 0 (36 + 3 * t + 2) = 0)
    refine ⟨by rw [upd_ne _ _ (by omega), upd_ne _ _ (by omega)]; exact h1, fun ht => ?_⟩
    by_cases e : t = i
    · subst e
      exact ⟨by rw [upd_ne _ _ (by omega), upd_self], by rw [upd_self]⟩
    · have h3 := h2 (by omega)
      exact ⟨by rw [upd_ne _ _ (by omega), upd_ne _ _ (by omega)]; exact h3.1, by rw [upd_ne _ _ (by omega), upd_ne _ _ (by omega)]; exact h3.2⟩
theorem ro_forget {T : VV} {g : Nat} {A : AF} {mk : Nat → Nat} {ks : KL} {tk : Nat} {tkt : Nat → Nat} (M : RelM T g A mk ks tk tkt) (w : AW A) : RelM (va_up T g (fgH (T g) A.m)) g (fgA A) (fun _ => 0) [] tk tkt := by
  have hW := w.w12
  have lo : ∀ x, x < 36 → x ≠ 3 → x ≠ 11 → va_up T g (fgH (T g) A.m) g x = T g x := fun x h h3 h11 => by rw [vaS]; exact fgH_lo _ _ x h h3 h11
  refine RelM.ofs (gs := M.gs.up _) (s0 := (lo 0 (by decide) (by decide) (by decide)).trans M.s0) (s1 := (lo 1 (by decide) (by decide) (by decide)).trans M.s1) (s2 := (lo 2 (by decide) (by decide) (by decide)).trans M.s2) (s3 := ?_) (s4 := (lo 4 (by decide) (by decide) (by decide)).trans M.s4)
    (se := fun i hi => (lo (5 + i) (by omega) (by omega) (by omega)).trans (M.se i hi)) (s10 := (lo 10 (by decide) (by decide) (by decide)).trans M.s10) (s11 := ?_) (wo := fun j hj => ?_) (te := fun t ht => ?_) (rq := fun r c hr _ => absurd hr (Nat.not_lt_zero r)) (ti := fun r hr => absurd hr (Nat.not_lt_zero r)) (ki := fun i hi => absurd hi (Nat.not_lt_zero i))
  · rw [vaS]; exact (fgH_0 _ _).1
  · rw [vaS]; exact (fgH_0 _ _).2
  · have hj : j < A.W := hj
    exact ⟨(lo _ (by omega) (by omega) (by omega)).trans (M.wo j hj).1, (lo _ (by omega) (by omega) (by omega)).trans (M.wo j hj).2⟩
  · have ht : t < A.m := ht
    obtain ⟨h1, h2⟩ := fgH_t (T g) A.m t
    have h3 := h2 ht
    exact ⟨by rw [vaS]; exact h1.trans (M.te t ht).1, by rw [vaS]; exact h3.1, by rw [vaS]; exact h3.2⟩
theorem m_tenants {T : VV} {g m : Nat} (gs : GS T g) (h : T g 2 = nI m) (k : Nat) : M_X10_tenants k T = some (nI m) := by
  unfold M_X10_tenants M_X10_tenants_0
  rw [gG gs, ifin (i := 2) (x := 2) rfl (by decide)]
  exact congrArg some h
theorem ro_forgetL {T : VV} {g : Nat} {A : AF} {mk : Nat → Nat} {ks : KL} {tk : Nat} {tkt : Nat → Nat} (M : RelM T g A mk ks tk tkt) (w : AW A) {k : Nat} (hk : 20000 ≤ k) (x : Int32) : M_X10_poison_21 k k x 0 (va_up T g (fgH (T g) 0)) = ((M_X10_layRequest k (va_up T g (fgH (T g) A.m)) x 1 1).bind fun q17 => (M_X10_route k q17 0).bind fun q18 => lt (va_up q18 0 (upd (q18 0) 4 0)) fun F19 => M_X10_poison_76 k k x 0 F19) := by
  have hm := w.m12
  have ten : ∀ i, M_X10_tenants k (va_up T g (fgH (T g) i)) = some (nI A.m) := fun i => m_tenants (M.gs.up _) (by rw [vaS, fgH_lo _ _ 2 (by decide) (by decide) (by decide)]; exact M.s2) k
  refine loop_st0 (fun n i => M_X10_poison_21 k n x (nI i) (va_up T g (fgH (T g) i))) A.m _ (fun n i hi => ?_) (fun n => ?_) (by omega)
  · simp only [M_X10_poison_21]
    rw [ten i, Option.bind_some, if_neg (nI_ge hi (by omega)), gG (M.gs.up _), tenAt k i 1 (x := 1) rfl, Option.bind_some, ifin rfl (by omega), nI_clamp (by omega), lt_eq, vaS, va_up_up, gG (M.gs.up _), tenAt k i 2 (x := 2) rfl, Option.bind_some, ifin rfl (by omega), nI_clamp (by omega), lt_eq, vaS, va_up_up, nI_1]
    rfl
  · simp only [M_X10_poison_21]
    rw [ten A.m, Option.bind_some, if_pos (nI_le (Nat.le_refl _) (by omega))]
