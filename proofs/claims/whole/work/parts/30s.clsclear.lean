-- ===== the class clears up =====
section CLS
variable {F : VV} {A : AF} {fg : Nat → Nat} {ks : KL} {k : Nat}
theorem co_placeInLine (R : RelC F A fg ks) (w : AW A) (l : AL A) (hk : 20000 ≤ k) {kept rest : List Nat} {r : Nat} (hl : A.ln = kept ++ r :: rest) : M_X0_placeInLine k F (nI r) = some (nI kept.length) := by
  have hlen := l.len w
  have hn := w.n60
  have hkl : kept.length < A.ln.length := by rw [hl, List.length_append, List.length_cons]; omega
  have hnd : (kept ++ r :: rest).Nodup := hl ▸ l.nd
  have hrn : r < A.n := l.me r (by rw [hl]; simp)
  have key : ∀ m i, i + m = kept.length → ∀ fuel, m < fuel → M_X0_placeInLine_2 k F fuel (nI r) (nI i) = some (nI kept.length) := by
    intro m
    induction m with
    | zero =>
      intro i hi fuel hf
      obtain ⟨f, rfl⟩ : ∃ f, fuel = f + 1 := ⟨fuel - 1, by omega⟩
      have : i = kept.length := by omega
      subst this
      simp only [M_X0_placeInLine_2]
      rw [R.s6, if_neg (nI_ge hkl (by omega)), R_ln_mid' R w l hl, Option.bind_some, if_pos rfl]
    | succ m ih =>
      intro i hi fuel hf
      obtain ⟨f, rfl⟩ : ∃ f, fuel = f + 1 := ⟨fuel - 1, by omega⟩
      have hik : i < kept.length := by omega
      have hx : A.ln.getD i 0 = kept[i] := by
        rw [getD_lt (by omega)]
        simp only [hl]
        rw [List.getElem_append_left hik]
      have hne : ¬ nI (kept[i]) = nI r := fun e => by
        have hm : kept[i] ∈ kept := List.getElem_mem hik
        have hkn : kept[i] < A.n := l.me _ (by rw [hl]; exact List.mem_append_left _ hm)
        have : kept[i] = r := (nI_eq (by omega) (by omega)).mp e
        exact (List.nodup_append.mp hnd).2.2 _ hm r List.mem_cons_self this
      simp only [M_X0_placeInLine_2]
      rw [R.s6, if_neg (nI_ge (by omega) (by omega)), R.ln w l k (by omega), Option.bind_some, hx, if_neg hne, nI_1]
      exact ih (i + 1) (by omega) f (by omega)
  have h := key kept.length 0 (by omega) k (by omega)
  rw [nI_0] at h
  exact h
theorem co_routeOut {r : Nat} (R : RelC F (A.wL (A.ln.filter (fun x => x != r))) fg ks) (h : LI A) (hk : 20000 ≤ k) (hr : r ∈ A.ln) (hat : ∀ j, j < A.W → A.up j = true → A.Q r 6 ≠ nI j) : ∃ F', M_X0_route k F (nI r) = some F' ∧ RelC F' (routeA A r) fg ks := by
  have l1 : AL (A.wL (A.ln.filter (fun x => x != r))) := ⟨nodup_filter h.nd _, fun x hx => h.me x (List.mem_filter.mp hx).1⟩
  obtain ⟨F2, e2, R2⟩ := co_route R (h.toAW.wL _) l1 hk (r := r) (h.me r hr) (fun hm => by
    have := (List.mem_filter.mp hm).2
    simp at this) (fun j hj hu => by
    have e : lload (A.wL (A.ln.filter (fun x => x != r))) (nI j) = lload A (nI j) := lsum_minus (g := fun r => if A.Q r 6 = nI j then A.Q r 2 else 0) (if_neg (hat j hj hu))
    rw [e, h.load hj]
    rfl)
  exact ⟨F2, e2, R2⟩
theorem co_retry (R : RelC F A fg ks) (h : LI A) (hk : 20000 ≤ k) {r : Nat} (hr : r ∈ A.ln) (hat : ∀ j, j < A.W → A.up j = true → A.Q r 6 ≠ nI j) : ∃ F', M_X0_retryKiller k F (nI r) = some F' ∧ RelC F' (retry A r) fg ks := by
  have hn := h.n60
  have hrn := h.me r hr
  obtain ⟨kept, rest, hl⟩ := List.append_of_mem hr
  obtain ⟨F1, e1, R1⟩ := co_leaveMid (k := k) R h.toAW h.toAL hl
  have w1 : AW (A.wL (A.ln.filter (fun x => x != r))) := h.toAW.wL _
  have R2 := R1.putQ (r := r) (c := 5) (by decide) (A.Q r 5 + 1)
  have R2' : RelC (va_up F1 4 (upd (F1 4) (r * 8 + 5) (A.Q r 5 + 1))) ((att A r).wL (A.ln.filter (fun x => x != r))) fg ks := R2
  have eadd : M_X6_add k 60 8 480 (F1 4) (nI r) 5 1 = some (upd (F1 4) (r * 8 + 5) (A.Q r 5 + 1)) := by
    unfold M_X6_add M_X6_add_0
    rw [R1.q w1 k (r := r) hrn 5, Option.bind_some, TQ_putI k (r := r) (c := 5) (x := 5) (by omega) (by decide) rfl]
    rfl
  have w2 : AW ((att A r).wL (A.ln.filter (fun x => x != r))) := (h.att r).toAW.wL _
  have q5 : M_X6_at k 60 8 480 (va_up F1 4 (upd (F1 4) (r * 8 + 5) (A.Q r 5 + 1)) 4) (nI r) 5 = some ((att A r).Q r 5) := R2'.q w2 k (r := r) hrn 5
  have s1 : M_X5_at k 5 (va_up F1 4 (upd (F1 4) (r * 8 + 5) (A.Q r 5 + 1)) 1) 1 = some (nI (A.st 1)) := R2'.set k 1 (x := 1)
  have start : M_X0_retryKiller k F (nI r) = (if (att A r).Q r 5 ≤ nI (A.st 1) then (M_X0_route k (va_up F1 4 (upd (F1 4) (r * 8 + 5) (A.Q r 5 + 1))) (nI r)).bind fun q8 => some q8 else (M_X0_end k (va_up F1 4 (upd (F1 4) (r * 8 + 5) (A.Q r 5 + 1))) (nI r) 3).bind fun q9 => some q9) := by
    simp only [M_X0_retryKiller, M_X0_retryKiller_0, lt_eq]
    rw [co_placeInLine R h.toAW h.toAL hk hl, Option.bind_some, e1, Option.bind_some, eadd, Option.bind_some, q5, Option.bind_some, s1, Option.bind_some]
  unfold retry
  by_cases hc : (att A r).Q r 5 ≤ nI (A.st 1)
  · rw [if_pos hc] at start ⊢
    obtain ⟨F3, e3, R3⟩ := co_routeOut (A := att A r) (r := r) R2' (h.att r) hk hr (fun j hj hu => by rw [att_q A r r (by decide)]; exact hat j hj hu)
    exact ⟨F3, by rw [start, e3]; rfl, R3⟩
  · rw [if_neg hc] at start ⊢
    obtain ⟨F3, e3, R3⟩ := co_end (k := k) R2' w2 (r := r) hrn 3
    exact ⟨F3, by rw [start, e3]; rfl, R3⟩
theorem clear_loop (R : RelC F A fg ks) (h : LI A) (hk : 20000 ≤ k) {K : Nat → Option Nat} (hK : ∀ j r, j < A.W → K j = some r → A.up j = false ∧ A.ln.find? (fun x => A.Q x 6 == nI j) = some r) :
    ∃ F', RelC F' (clearF K A A.W) fg ks ∧ M_X0_tick_25 k k (nI (msk (fun j => (K j).isSome) A.W)) 0 F = ((M_X0_endQuarantines k F').bind fun q2 => (M_X0_beginQuarantines k q2).bind fun q3 => some q3) := by
  have hW := h.w12
  have key : ∀ m i (F : VV), i + m = A.W → RelC F (clearF K A i) fg ks → ∀ fuel, m < fuel → ∃ F', RelC F' (clearF K A A.W) fg ks ∧ M_X0_tick_25 k fuel (nI (msk (fun j => (K j).isSome) A.W)) (nI i) F = ((M_X0_endQuarantines k F').bind fun q2 => (M_X0_beginQuarantines k q2).bind fun q3 => some q3) := by
    intro m
    induction m with
    | zero =>
      intro i F hi R fuel hf
      obtain ⟨f, rfl⟩ : ∃ f, fuel = f + 1 := ⟨fuel - 1, by omega⟩
      have : i = A.W := by omega
      subst this
      have I := clear_inv h hK A.W (Nat.le_refl _)
      refine ⟨F, R, ?_⟩
      simp only [M_X0_tick_25]
      rw [R.s0, I.sm.W, if_pos (nI_le (Nat.le_refl _) (by omega))]
    | succ m ih =>
      intro i F hi R fuel hf
      obtain ⟨f, rfl⟩ : ∃ f, fuel = f + 1 := ⟨fuel - 1, by omega⟩
      have hiW : i < A.W := by omega
      have I := clear_inv h hK i (by omega)
      have e : clearF K A (i + 1) = match K i with | none => clearF K A i | some r => clr (clearF K A i) r i := rfl
      have start : M_X0_tick_25 k (f + 1) (nI (msk (fun j => (K j).isSome) A.W)) (nI i) F = (if (K i).isSome then ((M_X0_waitingAt k F (nI i) 0).bind fun q6 => (M_X0_retryKiller k F q6).bind fun q7 => (M_X0_routeQueue k q7 (nI i)).bind fun q8 => M_X0_tick_25 k f (nI (msk (fun j => (K j).isSome) A.W)) (nI (i + 1)) q8) else M_X0_tick_25 k f (nI (msk (fun j => (K j).isSome) A.W)) (nI (i + 1)) F) := by
        simp only [M_X0_tick_25]
        rw [R.s0, I.sm.W, if_neg (nI_ge hiW (by omega)), has0 k (h.toAW.up31 _) (by omega), Option.bind_some, msk_bit, decide_eq_true hiW, Bool.true_and, nI_1]
        cases (K i).isSome <;> rfl
      cases hki : K i with
      | none =>
        rw [hki] at e start
        have e : clearF K A (i + 1) = clearF K A i := e
        obtain ⟨F', R', e'⟩ := ih (i + 1) F (by omega) (by rw [e]; exact R) f (by omega)
        exact ⟨F', R', by rw [start]; exact e'⟩
      | some r =>
        rw [hki] at e start
        have e : clearF K A (i + 1) = routeQ (retry (clearF K A i) r) i := e
        obtain ⟨hd, hfd⟩ := I.fr i r (Nat.le_refl _) hiW hki
        have hm := List.mem_of_find?_eq_some hfd
        have h6 : (clearF K A i).Q r 6 = nI i := by simpa using List.find?_some hfd
        have hdn : (clearF K A i).up i = false := by rw [I.sm.up]; exact hd
        obtain ⟨F1, e1, R1⟩ := co_retry R I.li hk hm (fun j hj hu e => by
          rw [h6] at e
          rw [I.sm.W] at hj
          have : i = j := (nI_eq (by omega) (by omega)).mp e
          rw [← this, hdn] at hu
          cases hu)
        obtain ⟨L1, M1⟩ := retry_inv I.li hm
        obtain ⟨F2, e2, R2, _⟩ := co_routeQueue R1 L1 hk (j := i) (by rw [M1.W, I.sm.W]; exact hiW) (by rw [M1.up]; exact hdn)
        obtain ⟨F', R', e'⟩ := ih (i + 1) F2 (by omega) (by rw [e]; exact R2) f (by omega)
        refine ⟨F', R', ?_⟩
        rw [start, cq_waiting0 R I.li.toAW I.li.toAL hk, hfd]
        show (if true = true then _ else _) = _
        rw [if_pos rfl, Option.bind_some, e1, Option.bind_some, e2, Option.bind_some]
        exact e'
  obtain ⟨F', R', e'⟩ := key A.W 0 F (by omega) R k (by omega)
  rw [nI_0] at e'
  exact ⟨F', R', e'⟩
end CLS
