-- ===== methods that answer a value and change nothing =====
abbrev th (T : VV) (v : Int32) : VV := va_up T 0 (upd (T 0) 1 v)
theorem tf_th (T : VV) (v : Int32) : TF T (th T v) := ⟨rfl, rfl, rfl, rfl, rfl, rfl, rfl, rfl, rfl, rfl, rfl⟩
def VAL (q : Option (Int32 × Int32)) (r : Option (Int32 × VV)) (T : VV) : Prop := ∃ c v v' T', q = some (c, v) ∧ r = some (v', T') ∧ TF T T' ∧ T' 0 1 = c ∧ (c = 0 ∨ c = 1) ∧ (c = 0 → v = v')
theorem VAL.ok {T : VV} {v v' : Int32} (h : v = v') : VAL (some (0, v)) (some (v', th T 0)) T := ⟨0, v, v', th T 0, rfl, rfl, tf_th T 0, rfl, Or.inl rfl, fun _ => h⟩
theorem VAL.no {T : VV} {x y : Int32} : VAL (some (1, x)) (some (y, th (th T 0) 1)) T := ⟨1, x, y, th (th T 0) 1, rfl, rfl, (tf_th T 0).trans (tf_th _ 1), rfl, Or.inr rfl, fun h => absurd h (by decide)⟩
theorem RelM.th {T : VV} {A : AF} {mk : Nat → Nat} {ks : KL} {tk : Nat} {tkt : Nat → Nat} (M : RelM T 1 A mk ks tk tkt) (v : Int32) : RelM (va_up T 0 (upd (T 0) 1 v)) 1 A mk ks tk tkt :=
  RelM.ofs (gs := gs_frame M.gs rfl) (s0 := M.s0) (s1 := M.s1) (s2 := M.s2) (s3 := M.s3) (s4 := M.s4) (se := M.se) (s10 := M.s10) (s11 := M.s11) (wo := M.wo) (te := M.te) (rq := M.rq) (ti := M.ti) (ki := M.ki)
def needE (p : Int32) (n : Nat) : Option Int32 := if p < 0 then some 1 else if p < nI n then some 0 else some 1
def inE (k : Nat) (p : Int32) (n : Nat) : Option Int32 := (M_X10_inRange k p 0 (nI n - 1)).bind fun q2 => if q2 = 0 ∨ q2 = 1 then some q2 else none
theorem m1_lt {j : Nat} (h : j < 2 ^ 31) : (-1 : Int32) < nI j := by
  rw [Int32.lt_iff_toInt_lt, nI_toInt h]
  have : (-1 : Int32).toInt = -1 := by decide
  omega
theorem rng2 (k : Nat) (p : Int32) {n : Nat} (hn : n < 2 ^ 30) : (∃ j, j < n ∧ p = nI j ∧ needE p n = some 0 ∧ inE k p n = some 1) ∨ (needE p n = some 1 ∧ inE k p n = some 0) := by
  unfold needE inE
  simp only [M_X10_inRange, M_X10_inRange_0]
  by_cases hp : p < 0
  · right
    rw [if_pos hp, if_pos hp]
    exact ⟨rfl, rfl⟩
  · rw [if_neg hp, if_neg hp]
    obtain ⟨j, hj, rfl⟩ := nI_of hp
    by_cases hl : j < n
    · left
      refine ⟨j, hl, rfl, if_pos (nI_lt hl (by omega)), ?_⟩
      rw [show (1 : Int32) = nI 1 from rfl, nI_sub (by omega), if_neg (nI_nlt (by omega) (by omega))]
      rfl
    · right
      refine ⟨if_neg (nI_nlt (by omega) hj), ?_⟩
      have : nI n - 1 < nI j := by
        by_cases h0 : n = 0
        · subst h0
          rw [show nI 0 - 1 = (-1 : Int32) by decide]
          exact m1_lt hj
        · rw [show (1 : Int32) = nI 1 from rfl, nI_sub (by omega)]
          exact nI_lt (by omega) hj
      rw [if_pos this]
      rfl
section VALS
variable {S : VV × VV × VV × VV × VV × Int32} {T : VV} {V : Nat × Int32 × Int32 × (Nat → VV)} {N k : Nat} {A : AF} {fg mk : Nat → Nat} {ks ks' : KL} {tk : Nat} {tkt : Nat → Nat} {g : Nat}
theorem need_w (R : RelC S.1 A fg ks) (w : AW A) (k : Nat) (p : Int32) : M_X9_needWorker k S p = needE p A.W := by
  simp only [M_X9_needWorker, M_X9_needWorker_0, needE]
  rw [R.s0]
theorem need_t (R : RelC S.1 A fg ks) (w : AW A) (k : Nat) (p : Int32) : M_X9_needTenant k S p = needE p A.m := by
  simp only [M_X9_needTenant, M_X9_needTenant_0, needE]
  rw [R.s2]
theorem is_w (M : RelM T g A mk ks tk tkt) (k : Nat) (p : Int32) : M_X10_isWorker k T p = inE k p A.W := by
  simp only [M_X10_isWorker, M_X10_isWorker_0, inE]
  rw [M.workers k, Option.bind_some]
theorem is_t (M : RelM T g A mk ks tk tkt) (k : Nat) (p : Int32) : M_X10_isTenant k T p = inE k p A.m := by
  simp only [M_X10_isTenant, M_X10_isTenant_0, inE]
  rw [M.tenants k, Option.bind_some]
theorem is_r (M : RelM T g A mk ks tk tkt) (k : Nat) (p : Int32) : M_X10_isRequest k T p = inE k p A.n := by
  simp only [M_X10_isRequest, M_X10_isRequest_0, inE]
  rw [M.requests k, Option.bind_some]
theorem cell1 (T : VV) {X : Nat → Int32} {x : Int32} {i : Nat} (hx : x = nI i) (hi : i < 1692) : (if inb x 1692 = true then some (X x.toNatClampNeg, T) else none) = some (X i, T) := by
  rw [ifin hx hi, hx, nI_clamp (by omega)]
theorem v_size (G : GIx S T V N) (hk : 20000 ≤ k) (p : Int32) : VAL (M_X9_size k S p) (M_X10_size k T p) T := by
  obtain ⟨A, hA, fg, mk, ks, ks', tk, tkt, R, M, I, hN⟩ := G.nw
  have M := M.th 0
  have h := I.li
  have w := h.toAW
  have hl := I.ac.le h
  have hlen : ks'.length = ks.length := I.pm.length_eq
  have c11 : Int32.toNatClampNeg 11 = 11 := by decide
  simp only [M_X9_size, M_X9_size_0, M_X10_size, M_X10_size_0, lt_eq]
  by_cases h0 : p = 0
  · rw [if_pos h0, if_pos h0, cell1 _ (i := 0) h0 (by decide)]; exact VAL.ok (R.s0.trans M.s0.symm)
  rw [if_neg h0, if_neg h0]
  by_cases h1 : p = 1
  · rw [if_pos h1, if_pos h1, cell1 _ (i := 1) h1 (by decide)]; exact VAL.ok (R.s1.trans M.s1.symm)
  rw [if_neg h1, if_neg h1]
  by_cases h2 : p = 2
  · rw [if_pos h2, if_pos h2, cell1 _ (i := 2) h2 (by decide)]; exact VAL.ok (R.s2.trans M.s2.symm)
  rw [if_neg h2, if_neg h2]
  by_cases h3 : p = 3
  · rw [if_pos h3, if_pos h3, cell1 _ (i := 3) h3 (by decide)]; exact VAL.ok (R.s3.trans M.s3.symm)
  rw [if_neg h3, if_neg h3]
  by_cases h4 : p = 4
  · rw [if_pos h4, if_pos h4, cell1 _ (i := 4) h4 (by decide)]; exact VAL.ok (R.s4.trans M.s4.symm)
  rw [if_neg h4, if_neg h4]
  by_cases h5 : p = 5
  · rw [if_pos h5, if_pos h5, R.s5, bc_msk k A.up w.w12, Option.bind_some, rq_upWorkers M w hk, Option.bind_some, bc_msk k A.up w.w12, Option.bind_some]
    exact VAL.ok rfl
  rw [if_neg h5, if_neg h5]
  by_cases h6 : p = 6
  · rw [if_pos h6, if_pos h6, cq_queueLength R w h.toAL hk, Option.bind_some, rq_inState M w hk, Option.bind_some]
    exact VAL.ok (line_parked h)
  rw [if_neg h6, if_neg h6]
  by_cases h7 : p = 7
  · rw [if_pos h7, if_pos h7, cell1 _ (x := 11) (i := 11) rfl (by decide)]
    exact VAL.ok (show S.1 6 0 = va_up T 0 (upd (T 0) 1 0) 1 11 by rw [M.s11, hlen]; exact R.k0)
  rw [if_neg h7, if_neg h7]
  by_cases h8 : p = 8
  · rw [if_pos h8, if_pos h8, cq_cutMask R w hk, Option.bind_some, bc_msk k _ w.m12, Option.bind_some, rq_cutOff M w hk, Option.bind_some]
    exact VAL.ok rfl
  rw [if_neg h8, if_neg h8]
  by_cases h9 : p = 9
  · rw [if_pos h9, if_pos h9, cq_quarantined R w hk, Option.bind_some, rq_shut M w hk, Option.bind_some]
    exact VAL.ok rfl
  rw [if_neg h9, if_neg h9]
  exact VAL.no
theorem v_setting (G : GIx S T V N) (p : Int32) : VAL (M_X9_setting k S p) (M_X10_setting k T p) T := by
  obtain ⟨A, hA, fg, mk, ks, ks', tk, tkt, R, M, I, hN⟩ := G.nw
  have M := M.th 0
  simp only [M_X9_setting, M_X9_setting_0, M_X9_needSetting, M_X9_needSetting_0, M_X10_setting, M_X10_setting_0, M_X10_inRange, M_X10_inRange_0, lt_eq]
  by_cases hp : p < 0
  · rw [if_pos hp, if_pos hp]; exact VAL.no
  · rw [if_neg hp, if_neg hp]
    obtain ⟨j, hj, rfl⟩ := nI_of hp
    by_cases h5 : j < 5
    · have g1 : nI j ≤ (4 : Int32) := nI_le (b := 4) (by omega) (by decide)
      have g2 : ¬ (4 : Int32) < nI j := nI_nlt (b := j) (a := 4) (by omega) (by decide)
      rw [if_pos g1, if_neg g2, Option.bind_some, Option.bind_some, if_pos rfl, if_neg (show ¬ (1 : Int32) = 0 by decide), R.set k j rfl h5, Option.bind_some, M.told k j rfl h5, Option.bind_some]
      exact VAL.ok rfl
    · have g1 : ¬ nI j ≤ (4 : Int32) := nI_ge (a := 4) (b := j) (by omega) hj
      have g2 : (4 : Int32) < nI j := nI_lt (a := 4) (by omega) hj
      rw [if_neg g1, if_pos g2]
      exact VAL.no
theorem ks_KB (I : RST A fg mk ks ks' tk tkt) : KB ks ∧ KB ks' := by
  have hm := I.li.m12
  have hW := I.li.w12
  have h1 : KB ks := fun z hz => by
    have := (I.ko.le z hz).2
    omega
  exact ⟨h1, fun z hz => h1 z (I.pm.mem_iff.mp hz)⟩
theorem v_worker (G : GIx S T V N) (hk : 20000 ≤ k) (p q : Int32) : VAL (M_X9_worker k S p q) (M_X10_worker k T p q) T := by
  obtain ⟨A, hA, fg, mk, ks, ks', tk, tkt, R, M, I, hN⟩ := G.nw
  have M := M.th 0
  have h := I.li
  have w := h.toAW
  have hl := I.ac.le h
  have hW := w.w12
  have hlen : ks'.length = ks.length := I.pm.length_eq
  simp only [M_X9_worker, M_X9_worker_0, M_X10_worker, M_X10_worker_0, lt_eq]
  rw [need_w R w k p, is_w M k p]
  rcases rng2 k p (n := A.W) (by omega) with ⟨j, hj, rfl, e1, e2⟩ | ⟨e1, e2⟩
  · rw [e1, e2, Option.bind_some, Option.bind_some, if_pos rfl, if_neg (show ¬ (1 : Int32) = 0 by decide)]
    by_cases h0 : q = 0
    · rw [if_pos h0, if_pos h0, R.isUp w k hj, Option.bind_some, h0, worAt k j 0 (x := 0) rfl, Option.bind_some, cell1 _ rfl (by omega)]
      have e := (M.wo j hj).1
      rw [e, ite_b1]
      cases A.up j
      · exact VAL.ok rfl
      · exact VAL.ok rfl
    rw [if_neg h0, if_neg h0]
    by_cases h1 : q = 1
    · rw [if_pos h1, if_pos h1, R_atI k (by omega) (by decide), Option.bind_some, h1, worAt k j 1 (x := 1) rfl, Option.bind_some, cell1 _ rfl (by omega)]
      exact VAL.ok ((R.ag j hj).trans (M.wo j hj).2.symm)
    rw [if_neg h1, if_neg h1]
    by_cases h2 : q = 2
    · rw [if_pos h2, if_pos h2, cq_queueLength R w h.toAL hk, Option.bind_some, rq_countIn M w hk, Option.bind_some]
      exact VAL.ok (line_queue h hj)
    rw [if_neg h2, if_neg h2]
    by_cases h3 : q = 3
    · rw [if_pos h3, if_pos h3, cq_loadOf R w h.toAL hk, Option.bind_some, rq_loadOf M w hk, Option.bind_some]
      exact VAL.ok (h.load hj)
    rw [if_neg h3, if_neg h3]
    by_cases h4 : q = 4
    · rw [if_pos h4, if_pos h4, cq_ofWorker R hk (by omega), Option.bind_some, rq_kills M (by rw [hlen]; exact hl) hk, Option.bind_some, kp_wor (ks_KB I).2 (by omega)]
      refine VAL.ok ?_
      rw [sumI_nI (fun t => cntK ks t j), cnt_wor (ks_KB I).1, I.pm.countP_eq]
    rw [if_neg h4, if_neg h4]
    by_cases h5 : q = 5
    · rw [if_pos h5, if_pos h5, cq_tenantsOn R w hk hj, Option.bind_some, rq_sharers M w hk hj, Option.bind_some]
      exact VAL.ok rfl
    rw [if_neg h5, if_neg h5]
    exact VAL.no
  · rw [e1, e2, Option.bind_some, Option.bind_some, if_neg (show ¬ (1 : Int32) = 0 by decide), if_pos rfl]
    exact VAL.no
theorem v_tenant (G : GIx S T V N) (hk : 20000 ≤ k) (p q : Int32) : VAL (M_X9_tenant k S p q) (M_X10_tenant k T p q) T := by
  obtain ⟨A, hA, fg, mk, ks, ks', tk, tkt, R, M, I, hN⟩ := G.nw
  have M := M.th 0
  have h := I.li
  have w := h.toAW
  have hl := I.ac.le h
  have hm := w.m12
  have hlen : ks'.length = ks.length := I.pm.length_eq
  simp only [M_X9_tenant, M_X9_tenant_0, M_X10_tenant, M_X10_tenant_0, lt_eq]
  rw [need_t R w k p, is_t M k p]
  rcases rng2 k p (n := A.m) (by omega) with ⟨j, hj, rfl, e1, e2⟩ | ⟨e1, e2⟩
  · have m1j : ¬ nI j = -1 := m1_ne (by omega)
    rw [e1, e2, Option.bind_some, Option.bind_some, if_pos rfl, if_neg (show ¬ (1 : Int32) = 0 by decide)]
    by_cases h0 : q = 0
    · rw [if_pos h0, if_pos h0, R.shard w k hj, Option.bind_some, (M.ofT w k hj).1, Option.bind_some]
      exact VAL.ok rfl
    rw [if_neg h0, if_neg h0]
    by_cases h1 : q = 1
    · rw [if_pos h1, if_pos h1, R.quar w k hj, Option.bind_some, M.isOpen w k hj, Option.bind_some, ite_b1, ite_b1]
      unfold bne
      cases (A.qe j == -1)
      · exact VAL.ok rfl
      · exact VAL.ok rfl
    rw [if_neg h1, if_neg h1]
    by_cases h2 : q = 2
    · rw [if_pos h2, if_pos h2, R.qend w k hj (x := 1) rfl, Option.bind_some, (M.ofT w k hj).2.1, Option.bind_some]
      exact VAL.ok rfl
    rw [if_neg h2, if_neg h2]
    by_cases h3 : q = 3
    · rw [if_pos h3, if_pos h3, cq_requestsOf R w hk, Option.bind_some, rq_madeBy M w hk, Option.bind_some]
      exact VAL.ok rfl
    rw [if_neg h3, if_neg h3]
    have stt : ∀ x : Int32, sumI (fun r => b1 (A.Q r 0 == nI j && A.Q r 4 == x)) A.n = sumI (fun r => b1 (A.Q r 4 == x && (nI j == -1 || A.Q r 0 == nI j))) A.n := fun x => sumI_ext (fun r _ => by
      rw [show (nI j == (-1 : Int32)) = false from beq_false_of_ne m1j, Bool.false_or, Bool.and_comm])
    by_cases h4 : q = 4
    · rw [if_pos h4, if_pos h4, cq_requestsOf2 R w hk, Option.bind_some, rq_inState M w hk, Option.bind_some]
      exact VAL.ok (stt 2)
    rw [if_neg h4, if_neg h4]
    by_cases h5 : q = 5
    · rw [if_pos h5, if_pos h5, cq_requestsOf2 R w hk, Option.bind_some, rq_inState M w hk, Option.bind_some]
      exact VAL.ok (stt 4)
    rw [if_neg h5, if_neg h5]
    by_cases h6 : q = 6
    · rw [if_pos h6, if_pos h6, cq_ofTenant R hk (by omega), Option.bind_some, rq_kills M (by rw [hlen]; exact hl) hk, Option.bind_some, kp_ten (ks_KB I).2 (by omega)]
      refine VAL.ok ?_
      rw [sumI_nI (fun w => cntK ks j w), cnt_ten (ks_KB I).1, I.pm.countP_eq]
    rw [if_neg h6, if_neg h6]
    by_cases h7 : q = 7
    · rw [if_pos h7, if_pos h7, cq_counted R w I.ko I.fl hl hk hj, Option.bind_some, rq_counted M w (fun x hx => I.ko.le x (I.pm.mem_iff.mp hx)) I.km (by rw [hlen]; exact hl) hk hj, Option.bind_some]
      refine VAL.ok ?_
      unfold cntQ
      rw [I.pm.countP_eq]
    rw [if_neg h7, if_neg h7]
    by_cases h8 : q = 8
    · rw [if_pos h8, if_pos h8, R.cut w k hj, Option.bind_some, rq_isCutOff M w hk hj, Option.bind_some, ite_b1, ite_b1]
      cases cut A j
      · exact VAL.ok rfl
      · exact VAL.ok rfl
    rw [if_neg h8, if_neg h8]
    exact VAL.no
  · rw [e1, e2, Option.bind_some, Option.bind_some, if_neg (show ¬ (1 : Int32) = 0 by decide), if_pos rfl]
    exact VAL.no
end VALS
