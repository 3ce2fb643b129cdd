-- ===== format on both sides =====
section FMT
variable {S : VV × VV × VV × VV × VV × Int32} {T : VV} {V : Nat × Int32 × Int32 × (Nat → VV)} {N k : Nat}
theorem RelM.fr {U U' : VV} {A : AF} {mk : Nat → Nat} {ks : KL} {tk : Nat} {tkt : Nat → Nat} (M : RelM U 1 A mk ks tk tkt) (h3 : U' 0 3 = U 0 3) (h1 : U' 1 = U 1) : RelM U' 1 A mk ks tk tkt :=
  RelM.ofs (gs := gs_frame M.gs h3) (s0 := by rw [h1]; exact M.s0) (s1 := by rw [h1]; exact M.s1) (s2 := by rw [h1]; exact M.s2) (s3 := by rw [h1]; exact M.s3) (s4 := by rw [h1]; exact M.s4) (se := by rw [h1]; exact M.se) (s10 := by rw [h1]; exact M.s10) (s11 := by rw [h1]; exact M.s11) (wo := by rw [h1]; exact M.wo) (te := by rw [h1]; exact M.te) (rq := by rw [h1]; exact M.rq) (ti := by rw [h1]; exact M.ti) (ki := by rw [h1]; exact M.ki)
theorem RelM.ems {U : VV} {A : AF} {mk : Nat → Nat} {ks : KL} {tk : Nat} {tkt : Nat → Nat} (M : RelM U 1 A mk ks tk tkt) (n : Nat) (l : List Int32) : RelM (emTs U n l) 1 A mk ks tk tkt := M.fr ((emTs_f l U n).2 3 (by decide)) ((emTs_f l U n).1 1 (by decide) (by decide))
theorem emXs_0 : ∀ (l : List Int32) {X : VV} {n : Nat}, X 0 0 = nI n → emXs X n l 0 0 = nI (n + l.length)
  | [], _, _, h => h
  | v :: l, X, n, h => by
    have ih := emXs_0 l (X := emX X n v) (n := n + 1) rfl
    rw [show n + (v :: l).length = n + 1 + l.length by rw [List.length_cons]; omega]
    exact ih
theorem emTs_0 : ∀ (l : List Int32) {U : VV} {n : Nat}, U 0 5 = nI n → emTs U n l 0 5 = nI (n + l.length)
  | [], _, _, h => h
  | v :: l, U, n, h => by
    have ih := emTs_0 l (U := emT U n v) (n := n + 1) rfl
    rw [show n + (v :: l).length = n + 1 + l.length by rw [List.length_cons]; omega]
    exact ih
theorem tx_28 : txB 28 = [119] := rfl
theorem tx_31 : txB 31 = [32] := rfl
theorem tx_32 : txB 32 = [33] := rfl
theorem tx_33 : txB 33 = [58] := rfl
theorem tx_70 : txB 70 = [33, 58] := rfl
theorem tx_71 : txB 71 = [58] := rfl
theorem tx_68 : txB 68 = txB 29 := rfl
theorem tx_69 : txB 69 = txB 30 := rfl
theorem tx_29 : (txB 29).length = 3 := rfl
theorem tx_30 : (txB 30).length = 5 := rfl
/-- the class writes one request of a queue -/
theorem c_req {F X : VV} {A : AF} {fg : Nat → Nat} {ks : KL} (R : RelC F A fg ks) (w : AW A) (hk : 20000 ≤ k) {n r : Nat} (hX : X 0 0 = nI n) (hn : n + 7 ≤ 428) (hr : r < A.n) (κ : Int32 → Int32 → Int32 → VV → Option VV) (x2 x3 x4 : Int32) :
    ((M_X8_append k X 31).bind fun q6 => (M_X8_appendNumber k q6 (nI r)).bind fun q7 => (M_X6_at k 60 8 480 (F 4) (nI r) (3 : Int32)).bind fun q8 => if q8 = (1 : Int32) then ((M_X8_append k q7 32).bind fun q10 => M_X8_write_91 k F κ x2 x3 x4 (nI r) q10) else (M_X8_write_91 k F κ x2 x3 x4 (nI r) q7)) = κ x2 x3 (x4 + 1) (emXs X n (reqL A r)) := by
  have d1 := digs_len (nI r)
  have e1 : M_X8_append k X 31 = some (emXs X n [32]) := by
    have := c_append hk (t := 31) (by decide) hX (by rw [tx_31, List.length_singleton]; omega)
    rw [tx_31] at this
    exact this
  have h1 : emXs X n [32] 0 0 = nI (n + 1) := emXs_0 [32] hX
  have e2 := c_number (k := k) h1 (by omega) (nI r)
  have h2 : emXs (emXs X n [32]) (n + 1) (digs (nI r)) 0 0 = nI (n + 1 + (digs (nI r)).length) := emXs_0 _ h1
  have tail : ∀ (Y : VV) (m : Nat), Y 0 0 = nI m → m + 3 ≤ 428 → M_X8_write_91 k F κ x2 x3 x4 (nI r) Y = κ x2 x3 (x4 + 1) (emXs Y m ([58] ++ digs (A.Q r 2))) := fun Y m hY hm => by
    have e3 : M_X8_append k Y 33 = some (emXs Y m [58]) := by
      have := c_append hk (t := 33) (by decide) hY (by rw [tx_33, List.length_singleton]; omega)
      rw [tx_33] at this
      exact this
    have h3 : emXs Y m [58] 0 0 = nI (m + 1) := emXs_0 [58] hY
    simp only [M_X8_write_91]
    rw [e3, Option.bind_some, R.q w k hr 2, Option.bind_some, c_number (k := k) h3 (by omega), Option.bind_some, emXs_app]
    rfl
  rw [e1, Option.bind_some, e2, Option.bind_some, R.q w k hr 3, Option.bind_some]
  unfold reqL
  rw [emXs_app, emXs_app]
  show _ = κ x2 x3 (x4 + 1) (emXs (emXs (emXs X n [32]) (n + 1) (digs (nI r))) (n + 1 + (digs (nI r)).length) _)
  by_cases hp : A.Q r 3 = 1
  · have e4 : M_X8_append k (emXs (emXs X n [32]) (n + 1) (digs (nI r))) 32 = some (emXs (emXs (emXs X n [32]) (n + 1) (digs (nI r))) (n + 1 + (digs (nI r)).length) [33]) := by
      have := c_append hk (t := 32) (by decide) h2 (by rw [tx_32, List.length_singleton]; omega)
      rw [tx_32] at this
      exact this
    rw [if_pos hp, if_pos hp, e4, Option.bind_some, tail _ (n + 1 + (digs (nI r)).length + 1) (emXs_0 [33] h2) (by omega), emXs_app]
    rfl
  · rw [if_neg hp, if_neg hp, tail _ (n + 1 + (digs (nI r)).length) h2 (by omega), List.nil_append]
/-- the reference does the same -/
theorem r_req {U : VV} {A : AF} {mk : Nat → Nat} {ks : KL} {tk : Nat} {tkt : Nat → Nat} (M : RelM U 1 A mk ks tk tkt) (w : AW A) (hk : 20000 ≤ k) {n r : Nat} (hU : U 0 5 = nI n) (hn : n + 7 ≤ 428) (hr : r < A.n) : M_X10_writeRequest k U (nI r) = some (emTs U n (reqL A r)) := by
  have d1 := digs_len (nI r)
  have e1 : M_X10_write k U 32 = some (emTs U n [32]) := r_write hU (by omega) 32
  have h1 : emTs U n [32] 0 5 = nI (n + 1) := emTs_0 [32] hU
  have e2 := r_number (k := k) h1 (by omega) (nI r)
  have h2 : emTs (emTs U n [32]) (n + 1) (digs (nI r)) 0 5 = nI (n + 1 + (digs (nI r)).length) := emTs_0 _ h1
  have M2 := (M.ems n [32]).ems (n + 1) (digs (nI r))
  have tail : ∀ (t : Nat) (l : List Int32), txB t = l → l.length ≤ 2 → M_X10_writeRequest_31 k (nI r) t (emTs (emTs U n [32]) (n + 1) (digs (nI r))) = some (emTs (emTs (emTs U n [32]) (n + 1) (digs (nI r))) (n + 1 + (digs (nI r)).length) (l ++ digs (A.Q r 2))) := fun t l ht hl => by
    subst ht
    have e3 := r_text hk (t := t) (by omega) h2 (by omega)
    have h3 := emTs_0 (txB t) h2
    have M3 := M2.ems (n + 1 + (digs (nI r)).length) (txB t)
    simp only [M_X10_writeRequest_31]
    rw [e3, Option.bind_some, M3.q w k hr 2, Option.bind_some, r_number (k := k) h3 (by omega), Option.bind_some, emTs_app]
  simp only [M_X10_writeRequest, M_X10_writeRequest_0]
  rw [e1, Option.bind_some, e2, Option.bind_some, M2.q w k hr 3, Option.bind_some]
  unfold reqL
  rw [emTs_app, emTs_app]
  show _ = some (emTs (emTs (emTs U n [32]) (n + 1) (digs (nI r))) (n + 1 + (digs (nI r)).length) _)
  by_cases hp : A.Q r 3 = 1
  · rw [if_pos hp, if_pos hp, tail 70 _ tx_70 (by decide)]
    rfl
  · rw [if_neg hp, if_neg hp, tail 71 _ tx_71 (by decide), List.nil_append]
theorem s_format (G : GIx S T V N) (hN : N < 2 ^ 31 - 1) (hk : 20000 ≤ k) (p : Int32) : VSV id [0, 1] (M_X9_format k S p) (M_X10_format k T p) V N := by
  obtain ⟨A, hA, J⟩ := G.nw
  have J0 : JR S.1 (th T 0) 1 A N := J.frame rfl rfl
  obtain ⟨fg, mk, ks, ks', tk, tkt, R, M, I, hN2⟩ := J
  have h := I.li
  have w := h.toAW
  have hW := w.w12
  have hn60 := w.n60
  have M0 := M.th 0
  simp only [M_X9_format, M_X9_format_0, M_X10_format, M_X10_format_0, lt_eq]
  rw [need_w R w k p, is_w M0 k p]
  rcases rng2 k p (n := A.W) (by omega) with ⟨j, hj, rfl, e1, e2⟩ | ⟨e1, e2⟩
  · rw [e1, e2, Option.bind_some, Option.bind_some, if_pos rfl, if_neg (show ¬ (1 : Int32) = 0 by decide)]
    -- the head of the text
    have dj := digs_len (nI j)
    have hq : (posQ A (nI j)).length ≤ 60 := Nat.le_trans (List.length_filter_le _ _) (h.toAL.len w)
    have hql : lsum (fun r => b1 (A.Q r 6 == nI j)) A.ln = nI (posQ A (nI j)).length := by
      rw [lsum_b1, List.countP_eq_length_filter]
      rfl
    have hin : ∀ i (hi : i < (posQ A (nI j)).length), (posQ A (nI j))[i] < A.n := fun i hi => h.me _ (List.mem_filter.mp (List.getElem_mem hi)).1
    have hso : (posQ A (nI j)).Pairwise (fun a b => tkt a < tkt b) := List.Pairwise.filter _ I.tt.so
    have nxt : ∀ (U : VV) (tic : Nat), RelM U 1 A mk ks' tk tkt → tic < 2 ^ 31 → M_X10_next k U 0 (nI j) (nI tic) = some (oI ((posQ A (nI j)).find? (fun r => decide (tic ≤ tkt r)))) := fun U tic MU ht => by
      rw [rq_next MU h I.tt (by omega) hk (Or.inl rfl) (nI j) ht]
      unfold posQ
      rw [find_fil]
      congr 2
      refine find_ext (fun r hr => ?_)
      by_cases h6 : A.Q r 6 = nI j
      · have h4 : A.Q r 4 = 0 := h.at0 hr hj h6
        rw [h6, h4]; simp
      · rw [show (A.Q r 6 == nI j) = false from beq_false_of_ne h6, Bool.and_false]
    -- the loop over the queue
    have key : ∀ m i (X U : VV) (n : Nat), i + m = (posQ A (nI j)).length → BR X U n → n ≤ 8 + 7 * i → RelM U 1 A mk ks' tk tkt → (∀ c, c ≠ 0 → c ≠ 7 → U c = T c) → (∀ c, c ≠ 5 → U 0 c = va_up T 0 (upd (T 0) 1 0) 0 c) → ∀ fuel, m < fuel →
        ∃ X' U' n', n' ≤ 428 ∧ BR X' U' n' ∧ M_X8_write_44 k S.1 fuel (nI j) (nI (posQ A (nI j)).length) (nI i) X = some X' ∧ M_X10_format_64 k fuel (nI j) (oI (posQ A (nI j))[i]?) U = some (nI n', U') ∧ (∀ c, c ≠ 0 → c ≠ 7 → U' c = T c) ∧ (∀ c, c ≠ 5 → U' 0 c = va_up T 0 (upd (T 0) 1 0) 0 c) := by
      intro m
      induction m with
      | zero =>
        intro i X U n hi hB hn MU f1 f2 fuel hf
        obtain ⟨f, rfl⟩ : ∃ f, fuel = f + 1 := ⟨fuel - 1, by omega⟩
        refine ⟨X, U, n, by omega, hB, ?_, ?_, f1, f2⟩
        · simp only [M_X8_write_44]
          rw [if_pos (nI_le (by omega) (by omega))]
        · rw [List.getElem?_eq_none (by omega)]
          simp only [M_X10_format_64]
          rw [if_pos (by rfl), hB.2.1]
      | succ m ih =>
        intro i X U n hi hB hn MU f1 f2 fuel hf
        obtain ⟨f, rfl⟩ : ∃ f, fuel = f + 1 := ⟨fuel - 1, by omega⟩
        have hiq : i < (posQ A (nI j)).length := by omega
        have hrn := hin i hiq
        have hl7 := reqL_len A (posQ A (nI j))[i]
        have ef := emTs_f (reqL A (posQ A (nI j))[i]) U n
        have M2 := MU.ems n (reqL A (posQ A (nI j))[i])
        have B2 := BR.ems (reqL A (posQ A (nI j))[i]) hB
        have htk : tkt (posQ A (nI j))[i] < tk := I.tt.lt _ (List.mem_filter.mp (List.getElem_mem hiq)).1
        have hnx : (posQ A (nI j)).find? (fun r => decide (tkt (posQ A (nI j))[i] + 1 ≤ tkt r)) = (posQ A (nI j))[i + 1]? := by
          refine find_next hso (fun x hx => ?_) (fun x hx => ?_)
          · rw [List.take_succ_eq_append_getElem hiq] at hx
            rcases List.mem_append.mp hx with hx | hx
            · have := List.pairwise_append.mp (by rw [List.take_append_drop i]; exact hso)
              have := this.2.2 x hx (posQ A (nI j))[i] (by rw [List.drop_eq_getElem_cons hiq]; exact List.mem_cons_self)
              omega
            · have : x = (posQ A (nI j))[i] := by simpa using hx
              subst this; omega
          · have := List.pairwise_append.mp (by rw [List.take_append_drop (i + 1)]; exact hso)
            have := this.2.2 (posQ A (nI j))[i] (by rw [List.take_succ_eq_append_getElem hiq]; exact List.mem_append_right _ (List.mem_singleton.mpr rfl)) x hx
            omega
        obtain ⟨X', U', n', g1, g2, g3, g4, g5, g6⟩ := ih (i + 1) _ _ _ (by omega) B2 (by omega) M2 (fun c h0 h7 => (ef.1 c h0 h7).trans (f1 c h0 h7)) (fun c h5 => (ef.2 c h5).trans (f2 c h5)) f (by omega)
        have hat : atQ (posQ A (nI j)) (nI i) = nI (posQ A (nI j))[i] := by
          unfold atQ
          rw [if_neg (nI_pos (by omega)), nI_clamp (by omega), List.getElem?_eq_getElem hiq]
          rfl
        refine ⟨X', U', n', g1, g2, ?_, ?_, g5, g6⟩
        · simp only [M_X8_write_44]
          rw [if_neg (nI_ge hiq (by omega)), cq_waiting R w h.toAL hk, Option.bind_some, hat, c_req R w hk hB.1 (by omega) hrn, nI_1]
          exact g3
        · rw [List.getElem?_eq_getElem hiq]
          have hne : ¬ oI (some (posQ A (nI j))[i]) = -1 := m1_ne (by omega)
          simp only [M_X10_format_64]
          rw [if_neg hne]
          show ((M_X10_writeRequest k U (nI (posQ A (nI j))[i])).bind fun q2 => (M_X10_of k q2 (nI (posQ A (nI j))[i]) 8).bind _) = _
          rw [r_req MU w hk hB.2.1 (by omega) hrn, Option.bind_some, M2.tick w k hrn, Option.bind_some, nI_1, nxt _ _ M2 (by omega), Option.bind_some, hnx]
          exact g4
    -- the head of both
    have X0 : va_up S.2.2.2.2.1 0 (upd (S.2.2.2.2.1 0) 0 0) 0 0 = nI 0 := rfl
    have U0 : va_up (va_up T 0 (upd (T 0) 1 0)) 0 (upd (va_up T 0 (upd (T 0) 1 0) 0) 5 0) 0 5 = nI 0 := rfl
    have B0 : BR (va_up S.2.2.2.2.1 0 (upd (S.2.2.2.2.1 0) 0 0)) (va_up (va_up T 0 (upd (T 0) 1 0)) 0 (upd (va_up T 0 (upd (T 0) 1 0) 0) 5 0)) 0 := ⟨X0, U0, fun i hi => absurd hi (Nat.not_lt_zero i)⟩
    have MU0 : RelM (va_up (va_up T 0 (upd (T 0) 1 0)) 0 (upd (va_up T 0 (upd (T 0) 1 0) 0) 5 0)) 1 A mk ks' tk tkt := M0.fr rfl rfl
    have a1 : M_X8_append k (va_up S.2.2.2.2.1 0 (upd (S.2.2.2.2.1 0) 0 0)) 28 = some (emXs (va_up S.2.2.2.2.1 0 (upd (S.2.2.2.2.1 0) 0 0)) 0 [119]) := by
      have := c_append hk (t := 28) (by decide) X0 (by rw [tx_28, List.length_singleton]; omega)
      rw [tx_28] at this
      exact this
    have a2 := c_number (k := k) (emXs_0 [119] X0) (by rw [List.length_singleton]; omega) (nI j)
    have b1' : M_X10_write k (va_up (va_up T 0 (upd (T 0) 1 0)) 0 (upd (va_up T 0 (upd (T 0) 1 0) 0) 5 0)) 119 = some (emTs (va_up (va_up T 0 (upd (T 0) 1 0)) 0 (upd (va_up T 0 (upd (T 0) 1 0) 0) 5 0)) 0 [119]) := r_write U0 (by omega) 119
    have b2' := r_number (k := k) (emTs_0 [119] U0) (by rw [List.length_singleton]; omega) (nI j)
    have B1 := BR.ems (digs (nI j)) (BR.ems [119] B0)
    have MU1 := (MU0.ems 0 [119]).ems (0 + [(119 : Int32)].length) (digs (nI j))
    have fin : ∀ t t', txB t' = txB t → (txB t).length ≤ 5 → ∃ X' U' n', n' ≤ 428 ∧ BR X' U' n' ∧ M_X8_write_32 k S.1 (nI j) t (emXs (emXs (va_up S.2.2.2.2.1 0 (upd (S.2.2.2.2.1 0) 0 0)) 0 [119]) (0 + [(119 : Int32)].length) (digs (nI j))) = some X' ∧ M_X10_format_53 k (nI j) t' (emTs (emTs (va_up (va_up T 0 (upd (T 0) 1 0)) 0 (upd (va_up T 0 (upd (T 0) 1 0) 0) 5 0)) 0 [119]) (0 + [(119 : Int32)].length) (digs (nI j))) = some (nI n', U') ∧ (∀ c, c ≠ 0 → c ≠ 7 → U' c = T c) ∧ (∀ c, c ≠ 5 → U' 0 c = va_up T 0 (upd (T 0) 1 0) 0 c) := fun t t' htt hl5 => by
      have l119 : [(119 : Int32)].length = 1 := rfl
      have c3 := c_append hk (t := t) (by omega) B1.1 (by omega)
      have r3 := r_text hk (t := t') (by rw [htt]; omega) B1.2.1 (by rw [htt]; omega)
      rw [htt] at r3
      have B2 := BR.ems (txB t) B1
      have MU2 := MU1.ems (0 + [(119 : Int32)].length + (digs (nI j)).length) (txB t)
      have e1 := emTs_f [119] (va_up (va_up T 0 (upd (T 0) 1 0)) 0 (upd (va_up T 0 (upd (T 0) 1 0) 0) 5 0)) 0
      have e2 := emTs_f (digs (nI j)) (emTs (va_up (va_up T 0 (upd (T 0) 1 0)) 0 (upd (va_up T 0 (upd (T 0) 1 0) 0) 5 0)) 0 [119]) (0 + [(119 : Int32)].length)
      have e3 := emTs_f (txB t) (emTs (emTs (va_up (va_up T 0 (upd (T 0) 1 0)) 0 (upd (va_up T 0 (upd (T 0) 1 0) 0) 5 0)) 0 [119]) (0 + [(119 : Int32)].length) (digs (nI j))) (0 + [(119 : Int32)].length + (digs (nI j)).length)
      obtain ⟨X', U', n', g1, g2, g3, g4, g5, g6⟩ := key (posQ A (nI j)).length 0 _ _ _ (by omega) B2 (by omega) MU2
        (fun c h0 h7 => by
          rw [e3.1 c h0 h7, e2.1 c h0 h7, e1.1 c h0 h7, vaN _ _ h0, vaN _ _ h0])
        (fun c h5 => by
          rw [e3.2 c h5, e2.2 c h5, e1.2 c h5]
          exact upd_ne _ _ h5) k (by omega)
      refine ⟨X', U', n', g1, g2, ?_, ?_, g5, g6⟩
      · simp only [M_X8_write_32]
        rw [c3, Option.bind_some, cq_queueLength R w h.toAL hk, Option.bind_some, hql]
        rw [nI_0] at g3
        exact g3
      · simp only [M_X10_format_53]
        have h0 : (posQ A (nI j)).find? (fun r => decide (0 ≤ tkt r)) = (posQ A (nI j))[0]? := find_next hso (fun x hx => by
          rw [List.take_zero] at hx
          cases hx) (fun x _ => Nat.zero_le _)
        have hx0 := nxt _ 0 MU2 (by decide)
        rw [r3, Option.bind_some, show M_X10_next k _ 0 (nI j) 0 = _ from hx0, Option.bind_some, h0]
        exact g4
    simp only [M_X8_write, M_X8_write_0, lt_eq]
    rw [a1, Option.bind_some, a2, Option.bind_some, R.isUp w k hj, Option.bind_some, b1', Option.bind_some, b2', Option.bind_some, MU1.isUp w k hj, Option.bind_some, ite_b1, ite_b1]
    have done : ∀ (X' U' : VV) (n' : Nat), n' ≤ 428 → BR X' U' n' → (∀ c, c ≠ 0 → c ≠ 7 → U' c = T c) → (∀ c, c ≠ 5 → U' 0 c = va_up T 0 (upd (T 0) 1 0) 0 c) → VSV id [0, 1] (some (0, X' 0 0, (S.1, S.2.1, S.2.2.1, S.2.2.2.1, X', S.2.2.2.2.2))) (some (nI n', U')) V N := fun X' U' n' g1 g2 g5 g6 => by
      refine ⟨0, X' 0 0, nI n', _, U', rfl, rfl, ?_, g6 1 (by decide), by simp, fun _ => g2.1⟩
      have s : ∀ c, c ≠ 5 → c ≠ 1 → U' 0 c = T 0 c := fun c h5 h1 => (g6 c h5).trans (upd_ne _ _ h1)
      have r : ∀ c, c ≠ 0 → c ≠ 7 → U' c = T c := g5
      exact GIx.ofs (nw := ⟨A, hA, ⟨fg, mk, ks, ks', tk, tkt, R, M.fr (s 3 (by decide) (by decide)) (r 1 (by decide) (by decide)), I, hN2⟩⟩) (ti := G.ti.frame (s 6 (by decide) (by decide)) (r 8 (by decide) (by decide)) (s 13 (by decide) (by decide))) (xi := ⟨n', g1, g2.1, g2.2.1, g2.2.2⟩) (si := G.si.frame (s 2 (by decide) (by decide)) (r 4 (by decide) (by decide))) (hi := G.hi.frame (s 0 (by decide) (by decide)) (r 5 (by decide) (by decide)))
    cases hu : A.up j with
    | true =>
      obtain ⟨X', U', n', g1, g2, g3, g4, g5, g6⟩ := fin 29 68 tx_68 (by rw [tx_29]; decide)
      rw [if_pos rfl, if_pos rfl, g3, Option.bind_some, g4]
      exact done X' U' n' g1 g2 g5 g6
    | false =>
      obtain ⟨X', U', n', g1, g2, g3, g4, g5, g6⟩ := fin 30 69 tx_69 (by rw [tx_30]; decide)
      rw [if_neg (by decide), if_neg (by decide), g3, Option.bind_some, g4]
      exact done X' U' n' g1 g2 g5 g6
  · rw [e1, e2, Option.bind_some, Option.bind_some, if_neg (show ¬ (1 : Int32) = 0 by decide), if_pos rfl]
    exact VSV.no (T' := th (th T 0) 1) G ((tf_th T 0).trans (tf_th _ 1)) rfl (by simp) (by decide)
end FMT
