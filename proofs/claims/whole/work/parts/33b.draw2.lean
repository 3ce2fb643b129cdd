-- ===== draws on both sides =====
def drS (W x : Nat) : Nat → Nat × Nat
  | 0 => (x, 0)
  | j + 1 => (nx (drS W x j).1, (drS W x j).2 ||| 2 ^ frW (drS W x j).2 W 0 (nx (drS W x j).1 / 65536 % (W - j)))
def drT (W Z x : Nat) (sh : Nat → Nat) : Nat → Nat × (Nat → Nat)
  | 0 => (x, sh)
  | t + 1 => ((drS W (drT W Z x sh t).1 Z).1, up1 (drT W Z x sh t).2 t (drS W (drT W Z x sh t).1 Z).2)
theorem cfr_all {s W : Nat} (hs : s < 2 ^ W) (hW : W ≤ 12) : cfr s W 0 + pcn s 12 = W := by
  have h := cfr_pcn s W 0
  rw [Nat.zero_add, ← pcn_12 hs hW] at h
  have : pcn s 0 = 0 := rfl
  omega
theorem drS_inv {W x : Nat} (hW : W ≤ 12) (hx : x < 2 ^ 31) : ∀ j, j ≤ W → (drS W x j).1 < 2 ^ 31 ∧ (drS W x j).2 < 2 ^ W ∧ pcn (drS W x j).2 12 = j
  | 0, _ => ⟨hx, Nat.two_pow_pos W, by show pcn 0 12 = 0; decide⟩
  | j + 1, h => by
    obtain ⟨h1, h2, h3⟩ := drS_inv hW hx j (by omega)
    have hc := cfr_all h2 hW
    rw [h3] at hc
    have hl : nx (drS W x j).1 / 65536 % (W - j) < W - j := Nat.mod_lt _ (by omega)
    obtain ⟨f1, f2, f3⟩ := frW_in (drS W x j).2 W 0 (nx (drS W x j).1 / 65536 % (W - j)) (by omega)
    rw [Nat.zero_add] at f2
    refine ⟨nx_lt _, Nat.or_lt_two_pow h2 (Nat.pow_lt_pow_right (by decide) f2), ?_⟩
    show pcn ((drS W x j).2 ||| 2 ^ frW (drS W x j).2 W 0 (nx (drS W x j).1 / 65536 % (W - j))) 12 = j + 1
    rw [pcn_or f3, h3, if_pos (by omega)]
theorem drT_inv {W Z m x : Nat} {sh : Nat → Nat} (hW : W ≤ 12) (hZ : Z ≤ W) (hx : x < 2 ^ 31) (hs : ∀ t, t < m → sh t < 2 ^ W) (hp : ∀ t, t < m → pcn (sh t) 12 = Z) : ∀ t, t ≤ m → (drT W Z x sh t).1 < 2 ^ 31 ∧ (∀ i, i < m → (drT W Z x sh t).2 i < 2 ^ W) ∧ ∀ i, i < m → pcn ((drT W Z x sh t).2 i) 12 = Z
  | 0, _ => ⟨hx, hs, hp⟩
  | t + 1, h => by
    obtain ⟨h1, h2, h3⟩ := drT_inv hW hZ hx hs hp t (by omega)
    obtain ⟨g1, g2, g3⟩ := drS_inv hW h1 Z hZ
    refine ⟨g1, fun i hi => ?_, fun i hi => ?_⟩
    · show up1 (drT W Z x sh t).2 t (drS W (drT W Z x sh t).1 Z).2 i < 2 ^ W
      unfold up1
      split
      · exact g2
      · exact h2 i hi
    · show pcn (up1 (drT W Z x sh t).2 t (drS W (drT W Z x sh t).1 Z).2 i) 12 = Z
      unfold up1
      split
      · exact g3
      · exact h3 i hi
section CLS
variable {F : VV} {A : AF} {fg : Nat → Nat} {ks : KL} {k : Nat}
theorem cq_freeWorker (h0 : F 0 0 = nI A.W) (hW : A.W ≤ 12) (hk : 20000 ≤ k) {s p : Nat} (hs : s < 2 ^ A.W) (hc : pcn s 12 < A.W) (hp : p < 2 ^ 31) : M_X0_freeWorker k F (nI s) (nI p) = some (nI (2 ^ frW s A.W 0 (p % (A.W - pcn s 12)))) := by
  have h4 : 2 ^ A.W ≤ 4096 := Nat.pow_le_pow_right (by omega) hW
  have hcf := cfr_all hs hW
  have hl : p % (A.W - pcn s 12) < A.W - pcn s 12 := Nat.mod_lt _ (by omega)
  simp only [M_X0_freeWorker, M_X0_freeWorker_0, lt_eq]
  rw [bc k (by omega), Option.bind_some, h0, nI_sub (by omega)]
  have hpos : (0 : Int32) < nI (A.W - pcn s 12) := by rw [← nI_0]; exact nI_lt (by omega) (by omega)
  rw [if_pos hpos, if_neg (nI_ne0 (by omega) (by omega)), nI_mod hp (by omega)]
  exact cq_free h0 hW (by omega) A.W 0 _ (by omega) (by omega) (by omega) k (by omega)
theorem cl_drawIn (κ : Int32 → Int32 → VV → Option VV) (h0 : F 0 0 = nI A.W) (h1 : F 0 1 = nI A.Z) (w : AW A) (hk : 20000 ≤ k) {x t : Nat} (hx : x < 2 ^ 31) (ht : t < 12) : M_X0_drawShards_18 k κ k (nI x) (nI t) 0 0 F = κ (nI (drS A.W x A.Z).1) (nI (t + 1)) (va_up F 3 (upd (F 3) (t * 3 + 0) (nI (drS A.W x A.Z).2))) := by
  have hW := w.w12
  have hZ := w.zw
  refine loop_st0 (fun n j => M_X0_drawShards_18 k κ n (nI (drS A.W x j).1) (nI t) (nI (drS A.W x j).2) (nI j) F) A.Z _ (fun n j hj => ?_) (fun n => ?_) (by omega)
  · obtain ⟨g1, g2, g3⟩ := drS_inv hW hx j (by omega)
    have hn := nx_lt (drS A.W x j).1
    simp only [M_X0_drawShards_18, lt_eq]
    rw [h1, if_neg (nI_ge hj (by omega)), nx_c, show (65536 : Int32) = nI 65536 from rfl, nI_div hn (by decide), cq_freeWorker h0 hW hk g2 (by omega) (by omega), Option.bind_some, or_nI, g3, nI_1]
    rfl
  · simp only [M_X0_drawShards_18, lt_eq]
    rw [h1, if_pos (nI_le (Nat.le_refl _) (by omega)), TT_putI k (r := t) (c := 0) (x := 0) ht (by decide) rfl, Option.bind_some, nI_1]
theorem co_draw (R : RelC F A fg ks) (w : AW A) (hp : ∀ t, t < A.m → pcn (A.sh t) 12 = A.Z) (hk : 20000 ≤ k) {x : Nat} (hx : x < 2 ^ 31) : ∃ F', M_X0_drawShards k F (nI x) = some F' ∧ RelC F' (A.wS (drT A.W A.Z x A.sh A.m).2) fg ks := by
  have hm := w.m12
  have key : ∀ m t (F : VV), t + m = A.m → RelC F (A.wS (drT A.W A.Z x A.sh t).2) fg ks → ∀ fuel, m < fuel → ∃ F', M_X0_drawShards_4 k fuel (nI (drT A.W A.Z x A.sh t).1) (nI t) F = some F' ∧ RelC F' (A.wS (drT A.W A.Z x A.sh A.m).2) fg ks := by
    intro m
    induction m with
    | zero =>
      intro t F ht R fuel hf
      obtain ⟨f, rfl⟩ : ∃ f, fuel = f + 1 := ⟨fuel - 1, by omega⟩
      have : t = A.m := by omega
      subst this
      refine ⟨F, ?_, R⟩
      have h2 : F 0 2 = nI A.m := R.s2
      simp only [M_X0_drawShards_4]
      rw [h2, if_pos (nI_le (Nat.le_refl _) (by omega))]
    | succ m ih =>
      intro t F ht R fuel hf
      obtain ⟨f, rfl⟩ : ∃ f, fuel = f + 1 := ⟨fuel - 1, by omega⟩
      obtain ⟨g1, g2, g3⟩ := drT_inv w.w12 w.zw hx w.sh hp t (by omega)
      have h0 : F 0 0 = nI A.W := R.s0
      have h1 : F 0 1 = nI A.Z := R.s1
      have h2 : F 0 2 = nI A.m := R.s2
      simp only [M_X0_drawShards_4]
      rw [h2, if_neg (nI_ge (by omega) (by omega)), cl_drawIn (M_X0_drawShards_4 k f) h0 h1 w hk g1 (by omega)]
      exact ih (t + 1) _ (by omega) (R.putS (t := t) (drS A.W (drT A.W A.Z x A.sh t).1 A.Z).2) f (by omega)
  have := key A.m 0 F (by omega) R k (by omega)
  rw [nI_0] at this
  exact this
end CLS
section REF
variable {S : VV} {g : Nat} {A : AF} {mk : Nat → Nat} {ks : KL} {tk : Nat} {tkt : Nat → Nat} {k : Nat}
theorem rl_drawIn (κ : Int64 → Int32 → VV → Option VV) (R : RelM S g A mk ks tk tkt) (w : AW A) (hk : 20000 ≤ k) {x t : Nat} (hx : x < 2 ^ 31) (ht : t < 12) : M_X10_drawAll_21 k κ k (lI x) (nI t) 0 0 S = κ (lI (drS A.W x A.Z).1) (nI (t + 1)) (va_up S g (upd (S g) (36 + 3 * t + 0) (nI (drS A.W x A.Z).2))) := by
  have hW := w.w12
  have hZ := w.zw
  have c1 : Int32.toNatClampNeg 1 = 1 := by decide
  refine loop_st0 (fun n j => M_X10_drawAll_21 k κ n (lI (drS A.W x j).1) (nI t) (nI (drS A.W x j).2) (nI j) S) A.Z _ (fun n j hj => ?_) (fun n => ?_) (by omega)
  · obtain ⟨g1, g2, g3⟩ := drS_inv hW hx j (by omega)
    have hn := nx_lt (drS A.W x j).1
    have h4 : 2 ^ A.W ≤ 4096 := Nat.pow_le_pow_right (by omega) hW
    have hcf := cfr_all g2 hW
    have hl : nx (drS A.W x j).1 / 65536 % (A.W - j) < A.W - j := Nat.mod_lt _ (by omega)
    obtain ⟨f1, f2, f3⟩ := frW_in (drS A.W x j).2 A.W 0 (nx (drS A.W x j).1 / 65536 % (A.W - j)) (by omega)
    simp only [M_X10_drawAll_21]
    rw [gG R.gs, ifin (i := 1) (x := 1) rfl (by decide), c1, R.s1, if_neg (nI_ge hj (by omega)), lt_eq, nx_r g1, R.workers k, Option.bind_some, nI_sub (by omega), lI_of (by omega), if_neg (lI_ne0 (by omega) (by omega))]
    rw [show (65536 : Int64) = lI 65536 from rfl, lI_div (by omega) (by decide), lI_mod (by omega) (by omega), lI_to]
    simp only [M_X10_freeAt, M_X10_freeAt_0]
    rw [show (0 : Int32) = nI 0 from rfl, rq_free S (by omega) A.W 0 _ (by omega) (by omega) (by omega) k (by omega), Option.bind_some, lt_eq, bit_nI (by omega), or_nI, nI_1]
    rfl
  · simp only [M_X10_drawAll_21]
    rw [gG R.gs, ifin (i := 1) (x := 1) rfl (by decide), c1, R.s1, if_pos (nI_le (Nat.le_refl _) (by omega)), gG R.gs, tenAt k t 0 (x := 0) rfl, Option.bind_some, ifin rfl (by omega), nI_clamp (by omega), lt_eq, nI_1]
theorem ro_draw (R : RelM S g A mk ks tk tkt) (w : AW A) (hp : ∀ t, t < A.m → pcn (A.sh t) 12 = A.Z) (hk : 20000 ≤ k) {x : Nat} (hx : x < 2 ^ 31) : ∃ S', M_X10_drawAll k S (nI x) = some S' ∧ RelM S' g (A.wS (drT A.W A.Z x A.sh A.m).2) mk ks tk tkt ∧ ∀ j, j ≠ g → S' j = S j := by
  have hm := w.m12
  have key : ∀ m t (S : VV), t + m = A.m → RelM S g (A.wS (drT A.W A.Z x A.sh t).2) mk ks tk tkt → ∀ fuel, m < fuel → ∃ S', M_X10_drawAll_6 k fuel (lI (drT A.W A.Z x A.sh t).1) (nI t) S = some S' ∧ RelM S' g (A.wS (drT A.W A.Z x A.sh A.m).2) mk ks tk tkt ∧ ∀ j, j ≠ g → S' j = S j := by
    intro m
    induction m with
    | zero =>
      intro t S ht R fuel hf
      obtain ⟨f, rfl⟩ : ∃ f, fuel = f + 1 := ⟨fuel - 1, by omega⟩
      have : t = A.m := by omega
      subst this
      refine ⟨S, ?_, R, fun _ _ => rfl⟩
      have h2 : M_X10_tenants k S = some (nI A.m) := R.tenants k
      simp only [M_X10_drawAll_6]
      rw [h2, Option.bind_some, if_pos (nI_le (Nat.le_refl _) (by omega))]
    | succ m ih =>
      intro t S ht R fuel hf
      obtain ⟨f, rfl⟩ : ∃ f, fuel = f + 1 := ⟨fuel - 1, by omega⟩
      obtain ⟨g1, g2, g3⟩ := drT_inv w.w12 w.zw hx w.sh hp t (by omega)
      have wt : AW (A.wS (drT A.W A.Z x A.sh t).2) := ⟨w.w2, w.w12, w.z1, w.zw, w.m12, w.n60, w.t4, w.se, g2, w.ten⟩
      have h2 : M_X10_tenants k S = some (nI A.m) := R.tenants k
      have hin := rl_drawIn (M_X10_drawAll_6 k f) R wt hk g1 (t := t) (by omega)
      have hin : M_X10_drawAll_21 k (M_X10_drawAll_6 k f) k (lI (drT A.W A.Z x A.sh t).1) (nI t) 0 0 S = M_X10_drawAll_6 k f (lI (drS A.W (drT A.W A.Z x A.sh t).1 A.Z).1) (nI (t + 1)) (va_up S g (upd (S g) (36 + 3 * t + 0) (nI (drS A.W (drT A.W A.Z x A.sh t).1 A.Z).2))) := hin
      simp only [M_X10_drawAll_6]
      rw [h2, Option.bind_some, if_neg (nI_ge (by omega) (by omega)), hin]
      obtain ⟨S', e, R', f'⟩ := ih (t + 1) _ (by omega) (R.putS wt (t := t) (show t < A.m by omega) (drS A.W (drT A.W A.Z x A.sh t).1 A.Z).2) f (by omega)
      exact ⟨S', e, R', fun j hj => (f' j hj).trans (vaN _ _ hj)⟩
  have := key A.m 0 S (by omega) R k (by omega)
  simp only [M_X10_drawAll, M_X10_drawAll_0, lt_eq]
  rw [lI_of hx]
  rw [nI_0] at this
  exact this
end REF
theorem jr_draw {F S : VV} {g N k : Nat} {A : AF} (J : JR F S g A N) (hk : 20000 ≤ k) {x : Nat} (hx : x < 2 ^ 31) : ∃ F' S', M_X0_drawShards k F (nI x) = some F' ∧ M_X10_drawAll k S (nI x) = some S' ∧ JR F' S' g (A.wS (drT A.W A.Z x A.sh A.m).2) N ∧ ∀ j, j ≠ g → S' j = S j := by
  obtain ⟨fg, mk, ks, ks', tk, tkt, R, M, I, hN⟩ := J
  obtain ⟨F', e1, R1⟩ := co_draw (k := k) R I.li.toAW I.pc hk hx
  obtain ⟨S', e2, M1, f1⟩ := ro_draw (k := k) M I.li.toAW I.pc hk hx
  obtain ⟨g1, g2, g3⟩ := drT_inv I.li.w12 I.li.zw hx I.li.sh I.pc A.m (Nat.le_refl _)
  exact ⟨F', S', e1, e2, ⟨fg, mk, ks, ks', tk, tkt, R1, M1, I.wS _ g2 g3, hN⟩, f1⟩
