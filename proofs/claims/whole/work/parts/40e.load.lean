-- ===== a text of a fleet is read, from its first token to its end =====
theorem FIN.mv {m : Nat} {U U' : VV} {q : Option (VV × VV)} {r : Option VV} (f : FRD U U') (h : FIN m U' q r) : FIN m U q r := by
  rcases h with ⟨K', F', U2, c, r1, r2, r3, r4⟩ | ⟨K', F', U2, A, r1, r2, r3, r4, r5, r6, r7, r8, r9, r10⟩
  · exact Or.inl ⟨K', F', U2, c, r1, r2, r3, f.trans r4⟩
  · exact Or.inr ⟨K', F', U2, A, r1, r2, r3, r4, r5, r6, r7, r8, r9, f.trans r10⟩
section LOAD
variable {K U : VV} {b : Nat → Int32} {L s e κ k : Nat}
theorem e_sets {c : Int32} (h : ER K U c) (hk : 20000 ≤ k) (F : VV) : M_X1_readSettings k K F = some (K, F) := by
  obtain ⟨f, hf⟩ : ∃ f, k = f + 1 := ⟨k - 1, by omega⟩
  have e1 : M_X1_readSettings_7 k (f + 1) (-1) 0 K F = some (K, F) := by
    show (if (700 : Int32) ≤ 0 then some (K, F) else (if (-1 : Int32) = -1 then some (K, F) else _)) = _
    rw [if_neg (show ¬ (700 : Int32) ≤ 0 by decide), if_pos rfl]
  rw [← hf] at e1
  simp only [M_X1_readSettings, M_X1_readSettings_0]
  rw [(e_named h hk).1, Option.bind_some]
  exact e1
theorem e_rest {c : Int32} (h : ER K U c) (hk : 20000 ≤ k) (F : VV) : ((M_X1_readTenants k K F).bind fun q3 => (M_X1_readRequests k q3.1 q3.2).bind fun q4 => (M_X7_takeEnd k q4.1).bind fun q5 => some (q5, q4.2)) = some (K, F) := by
  obtain ⟨f, hf⟩ : ∃ f, k = f + 1 := ⟨k - 1, by omega⟩
  have e1 : M_X1_readTenants k K F = some (K, F) := by
    have := e_tens (k := k) h F f 0
    rw [← hf] at this
    exact this
  have e2 : M_X1_readRequests k K F = some (K, F) := by
    have := e_reqs (k := k) h F f 0
    rw [← hf] at this
    exact this
  rw [e1, Option.bind_some, e2, Option.bind_some, e_end h, Option.bind_some]
theorem s_read {T : VV} (hk : 20000 ≤ k) (g : GD K U b L s e κ) {Y : Nat → Int32} (hU : U 2 = clr0 Y) (hY : ∀ j, j < 1692 → Y j = 0) (h3 : U 0 3 = 2) : ∃ m, FIN m U (M_X1_read k K T) (M_X10_readAll k U) := by
  obtain ⟨fk, hf⟩ : ∃ f, k = f + 1 := ⟨k - 1, by omega⟩
  have r95 : ∀ (K' U' : VV) (c : Int32), ER K' U' c → M_X10_readAll_95 k k U' = some U' := fun K' U' c er => by
    have := e_95 (k := k) er hk fk
    rw [← hf] at this
    exact this
  have r79 : ∀ (K' U' : VV) (c : Int32), ER K' U' c → M_X10_readAll_79 k k U' = some U' := fun K' U' c er => by
    have := e_79 (k := k) er hk fk
    rw [← hf] at this
    exact this.trans (r95 K' U' c er)
  have cR : M_X1_read k K T = ((M_X1_readWorkers k K T).bind fun q1 => (M_X1_readSettings k q1.1 q1.2).bind fun q2 => (M_X1_readTenants k q2.1 q2.2).bind fun q3 => (M_X1_readRequests k q3.1 q3.2).bind fun q4 => (M_X7_takeEnd k q4.1).bind fun q5 => some (q5, q4.2)) := rfl
  rcases s_workers (T := T) hk g hU hY h3 with ⟨K1, U1, c, a1, b1, er, fr⟩ | ⟨K1, F1, U1, s1, e1, κ1, W, Z, a1, b1, g1, lf1, fr1⟩
  · refine ⟨0, Or.inl ⟨K1, T, U1, c, ?_, b1, er, fr⟩⟩
    rw [cR, a1, Option.bind_some, e_sets er hk, Option.bind_some]
    exact e_rest er hk T
  have key : ∀ q, M_X1_settingNamed k K1 = some q → M_X10_settingHere k U1 = some q → (q = -1 ∨ ∃ i, i < 5 ∧ κ1 ≠ 0 ∧ q = nI i) → ∃ m, FIN m U (M_X1_read k K T) (M_X10_readAll k U) := fun q z1 z2 hq => by
    have cS : M_X1_readSettings k K1 F1 = M_X1_readSettings_7 k k q (nI 0) K1 F1 := by
      simp only [M_X1_readSettings, M_X1_readSettings_0]
      rw [z1, Option.bind_some]
      rfl
    rw [cR, a1, Option.bind_some, b1, z2, Option.bind_some]
    show ∃ m, FIN m U ((M_X1_readSettings k K1 F1).bind _) _
    rw [cS]
    rcases s_settings hk 700 0 K1 U1 F1 s1 e1 κ1 st0 q rfl (Nat.zero_le _) g1 lf1 hq k k (by omega) (by omega) with ⟨K2, F2, U2, c, a2, b2, er, fr2⟩ | ⟨K2, F2, U2, s2, e2, κ2, st2, a2, b2, g2, lf2, fr2⟩
    · refine ⟨0, Or.inl ⟨K2, F2, U2, c, ?_, b2.trans (r79 K2 U2 c er), er, fr1.trans fr2⟩⟩
      rw [a2, Option.bind_some]
      exact e_rest er hk F2
    rw [a2, Option.bind_some, b2]
    show ∃ m, FIN m U ((M_X1_readTenants_2 k k (nI 0) K2 F2).bind _) _
    rcases s_tenants hk 12 0 K2 U2 F2 s2 e2 κ2 (fun _ => 0) rfl g2 lf2 k k (by omega) (by omega) with ⟨K3, F3, U3, c, a3, b3, er, fr3⟩ | ⟨K3, F3, U3, s3, e3, κ3, m, sh, a3, b3, g3, lf3, fr3⟩
    · refine ⟨0, Or.inl ⟨K3, F3, U3, c, ?_, b3.trans (r95 K3 U3 c er), er, (fr1.trans fr2).trans fr3⟩⟩
      rw [a3, Option.bind_some]
      have := e_reqs (k := k) er F3 fk 0
      rw [← hf] at this
      have e2 : M_X1_readRequests k K3 F3 = some (K3, F3) := this
      show ((M_X1_readRequests k K3 F3).bind _) = _
      rw [e2, Option.bind_some, e_end er, Option.bind_some]
    rw [a3, Option.bind_some, b3]
    exact ⟨m, FIN.mv ((fr1.trans fr2).trans fr3) (s_requests hk 60 K3 U3 F3 s3 e3 κ3 (LA W Z m st2 sh) rfl g3 lf3.jr rfl (fun _ _ => rfl) k k (by omega) (by omega))⟩
  rcases t_named hk g1 with ⟨i, hi, h0, z1, z2⟩ | ⟨z1, z2⟩
  · exact key (nI i) z1 z2 (Or.inr ⟨i, hi, h0, rfl⟩)
  · exact key (-1) z1 z2 (Or.inl rfl)
end LOAD
-- ===== a text is begun =====
theorem c_start {K : VV} {b : Nat → Int32} {L s e κ k : Nat} (hk : 20000 ≤ k) (hb : ∀ i, i < L → K 1 i = b i) (t : NXT b L 0 s e κ) : ∃ K', M_X7_begin k K (nI L) = some K' ∧ KC K' b L s e κ := by
  obtain ⟨K', a1, kc⟩ := c_adv (k := k) (K := va_up K 0 (upd (upd (upd (upd (upd (K 0) 3 (nI L)) 0 0) 1 0) 2 (-1)) 5 0)) hk rfl rfl rfl rfl rfl hb t
  refine ⟨K', ?_, kc⟩
  show (M_X7_advance k (va_up (va_up (va_up (va_up (va_up K 0 (upd (K 0) 3 (nI L))) 0 (upd (upd (K 0) 3 (nI L)) 0 0)) 0 (upd (upd (upd (K 0) 3 (nI L)) 0 0) 1 0)) 0 (upd (upd (upd (upd (K 0) 3 (nI L)) 0 0) 1 0) 2 (-1))) 0 (upd (upd (upd (upd (upd (K 0) 3 (nI L)) 0 0) 1 0) 2 (-1)) 5 0))).bind (fun q6 => some q6) = some K'
  rw [va_up_up, va_up_up, va_up_up, va_up_up, a1, Option.bind_some]
theorem r_start {X : VV} {b : Nat → Int32} {L s e κ k : Nat} (hk : 20000 ≤ k) (hb : ∀ i, i < L → X 8 i = b i) (t : NXT b L 0 s e κ) : ∃ U, M_X10_startText k X (nI L) = some U ∧ UC U b L s e κ ∧ U 0 11 = 0 ∧ (∀ j, j ≠ 0 → U j = X j) ∧ ∀ c, c ≠ 7 → c ≠ 8 → c ≠ 9 → c ≠ 10 → c ≠ 11 → c ≠ 14 → U 0 c = X 0 c := by
  obtain ⟨U, a1, uc, u3, u4⟩ := r_scan (k := k) (U := va_up X 0 (upd (upd (upd (upd (X 0) 7 (nI L)) 8 0) 11 0) 14 0)) hk rfl rfl hb t
  refine ⟨U, ?_, uc, u4 11 (by decide) (by decide) (by decide), fun j hj => (u3 j hj).trans (vaN _ _ hj), fun c h7 h8 h9 h10 h11 h14 => ?_⟩
  · show (M_X10_scan k (va_up (va_up (va_up (va_up X 0 (upd (X 0) 7 (nI L))) 0 (upd (upd (X 0) 7 (nI L)) 8 0)) 0 (upd (upd (upd (X 0) 7 (nI L)) 8 0) 11 0)) 0 (upd (upd (upd (upd (X 0) 7 (nI L)) 8 0) 11 0) 14 0))).bind (fun q5 => some q5) = some U
    rw [va_up_up, va_up_up, va_up_up, a1, Option.bind_some]
  · refine (u4 c h8 h9 h10).trans ?_
    show upd (upd (upd (upd (X 0) 7 (nI L)) 8 0) 11 0) 14 0 c = X 0 c
    rw [upd_ne _ _ h14, upd_ne _ _ h11, upd_ne _ _ h8, upd_ne _ _ h7]
-- ===== load =====
theorem o_load {S : VV × VV × VV × VV × VV × Int32} {T : VV} {V : Nat × Int32 × Int32 × (Nat → VV)} {N k : Nat} (G : GIx S T V N) (hk : 20000 ≤ k) (p : Int32) : OPV f2 [0, 2] (M_X9_load k S V p) (M_X10_load k T p) (N + 60) := by
  obtain ⟨n, b1, b2, b3, b4, b5⟩ := G.ti
  obtain ⟨A0, hA0, J0⟩ := G.nw
  have t3 : T 0 3 = 1 := gs_1 J0.gs
  have e6 : va_up T 0 (upd (T 0) 1 0) 0 6 = nI n := b3
  have no : OPV f2 [0, 2] (some ((2 : Int32), (0 : Int32), S, V)) (some ((0 : Int32), va_up (va_up T 0 (upd (T 0) 1 0)) 0 (upd (va_up T 0 (upd (T 0) 1 0) 0) 1 1))) (N + 60) := OPV.no (G.mono (by omega)) ((tf_th T 0).trans (tf_th _ 1)) rfl (by simp) (by decide)
  simp only [M_X9_load, M_X9_load_0, M_X10_load, M_X10_load_0, M_X10_inRange, M_X10_inRange_0, M_X10_raise, M_X10_raise_0, lt_eq]
  rw [b2, e6]
  by_cases hp : p < 0
  · rw [if_pos hp, if_pos hp, Option.bind_some, if_pos rfl, Option.bind_some]
    exact no
  rw [if_neg hp, if_neg hp]
  obtain ⟨L, hL, rfl⟩ := nI_of hp
  by_cases hle : L ≤ n
  rotate_left
  · rw [if_neg (nI_ge (by omega) (by omega)), if_pos (nI_lt (by omega) hL), Option.bind_some, if_pos rfl, Option.bind_some]
    exact no
  rw [if_pos (nI_le hle (by omega)), if_neg (nI_nlt hle (by omega)), Option.bind_some, if_neg (show ¬ (1 : Int32) = 0 by decide)]
  obtain ⟨Y, eY, hY⟩ := r_clear hk (T 2)
  have eY' : M_X10_clear k 1692 (va_up T 0 (upd (T 0) 1 0) 2) = some (clr0 Y) := eY
  obtain ⟨s, e, κ, t⟩ := tok_next (S.2.2.2.1 1) (L := L) (e0 := 0) (by omega) (Nat.zero_le _)
  obtain ⟨K1, k1, kc⟩ := c_start (k := k) (K := S.2.2.2.1) hk (fun i _ => rfl) t
  obtain ⟨U1, u1, uc, u11, uj, u0⟩ := r_start (k := k) (X := va_up (va_up (va_up T 0 (upd (T 0) 1 0)) 2 (clr0 Y)) 0 (upd (va_up (va_up T 0 (upd (T 0) 1 0)) 2 (clr0 Y) 0) 3 2)) hk (fun i hi => (b4 i (by omega)).symm) t
  have g : GD K1 U1 (S.2.2.2.1 1) L s e κ := ⟨t.tk, kc, uc, u11⟩
  obtain ⟨m, hF⟩ := s_read (T := S.2.1) hk g ((uj 2 (by decide)).trans rfl) hY ((u0 3 (by decide) (by decide) (by decide) (by decide) (by decide) (by decide)).trans rfl)
  rw [k1, Option.bind_some, eY', Option.bind_some, u1, Option.bind_some]
  -- what of the reference stays as it was
  have keepJ : ∀ U2 : VV, FRD U1 U2 → ∀ j, j ≠ 0 → j ≠ 2 → U2 j = T j := fun U2 fr j h0 h2 => by
    rw [fr.1 j h0 h2, uj j h0, vaN _ _ h0, vaN _ _ h2, vaN _ _ h0]
  have keep0 : ∀ U2 : VV, FRD U1 U2 → (U2 0 0 = T 0 0 ∧ U2 0 1 = 0 ∧ U2 0 2 = T 0 2 ∧ U2 0 5 = T 0 5) := fun U2 fr => by
    have z : ∀ c, c ≠ 3 → c ≠ 1 → c ≠ 7 → c ≠ 8 → c ≠ 9 → c ≠ 10 → c ≠ 11 → c ≠ 12 → c ≠ 14 → U2 0 c = T 0 c := fun c h3 h1 h7 h8 h9 h10 h11 h12 h14 => by
      rw [fr.2 c h8 h9 h10 h11 h12, u0 c h7 h8 h9 h10 h11 h14]
      show upd (upd (T 0) 1 0) 3 2 c = T 0 c
      rw [upd_ne _ _ h3, upd_ne _ _ h1]
    refine ⟨z 0 (by decide) (by decide) (by decide) (by decide) (by decide) (by decide) (by decide) (by decide) (by decide), ?_, z 2 (by decide) (by decide) (by decide) (by decide) (by decide) (by decide) (by decide) (by decide) (by decide), z 5 (by decide) (by decide) (by decide) (by decide) (by decide) (by decide) (by decide) (by decide) (by decide)⟩
    rw [fr.2 1 (by decide) (by decide) (by decide) (by decide) (by decide), u0 1 (by decide) (by decide) (by decide) (by decide) (by decide) (by decide)]
    rfl
  rcases hF with ⟨K2, D, U2, c, r1, r2, er, fr⟩ | ⟨K2, D, U2, A, r1, r2, z0, z1, z2, z11, hm, hA, J, fr⟩
  · have q1 := keepJ U2 fr
    obtain ⟨y0, y1, y2, y5⟩ := keep0 U2 fr
    have hfin : M_X10_finish_ k (va_up U2 0 (upd (U2 0) 3 1)) = some (c, va_up U2 0 (upd (upd (upd (U2 0) 3 1) 6 0) 13 (K2 0 2))) := by
      show (if U2 0 11 = 0 then _ else some (U2 0 11, va_up (va_up (va_up U2 0 (upd (U2 0) 3 1)) 0 (upd (upd (U2 0) 3 1) 6 0)) 0 (upd (upd (upd (U2 0) 3 1) 6 0) 13 (U2 0 12)))) = _
      rw [if_neg er.un, va_up_up, va_up_up, er.2.2.2.1, ← er.2.2.2.2.1]
    have hc : (va_up U2 0 (upd (upd (upd (U2 0) 3 1) 6 0) 13 (K2 0 2))) 0 11 = c := er.2.2.2.1
    rw [r1, Option.bind_some, r2, Option.bind_some]
    show OPV f2 [0, 2] ((M_X7_isGood k K2).bind _) ((M_X10_finish_ k (va_up U2 0 (upd (U2 0) 3 1))).bind _) (N + 60)
    rw [c_bad er.kn, Option.bind_some, if_pos rfl, hfin, Option.bind_some, if_neg (show ¬ c = 0 from er.2.1)]
    refine ⟨0, _, _, _, _, _, rfl, rfl, ?_, y1, by simp, fun _ => ?_⟩
    · refine GIx.ofs (nw := ⟨A0, hA0, (J0.frame ?_ ?_).mono (by omega)⟩) (ti := ⟨0, by decide, er.1, rfl, fun i hi => absurd hi (Nat.not_lt_zero i), rfl⟩) (xi := G.xi.frame y5 (q1 7 (by decide) (by decide))) (si := (G.si.frame y2 (q1 4 (by decide) (by decide))).mono (by omega)) (hi := (G.hi.frame y0 (q1 5 (by decide) (by decide))).mono (by omega))
      · show (1 : Int32) = T 0 3
        exact t3.symm
      · exact q1 1 (by decide) (by decide)
    · show (-10 : Int32) - K2 0 1 = -10 - _
      rw [er.2.2.1]
      exact congrArg (fun x => (-10 : Int32) - x) hc.symm
  · have q1 := keepJ U2 fr
    obtain ⟨y0, y1, y2, y5⟩ := keep0 U2 fr
    have hfin : M_X10_finish_ k (va_up U2 0 (upd (U2 0) 3 1)) = some (0, va_up U2 0 (upd (upd (upd (U2 0) 3 1) 6 0) 13 (-1))) := by
      show (if U2 0 11 = 0 then some (U2 0 11, va_up (va_up (va_up U2 0 (upd (U2 0) 3 1)) 0 (upd (upd (U2 0) 3 1) 6 0)) 0 (upd (upd (upd (U2 0) 3 1) 6 0) 13 (-1))) else _) = _
      rw [if_pos z11, va_up_up, va_up_up, z11]
    obtain ⟨F', eF, hF'⟩ := co_copy k S.1 D
    have hcp : M_X10_copy k 1692 1692 (U2 2) (U2 1) 0 0 = some (cpRow (U2 2) (U2 1) 0 0) := m_copy hk (a := 0) (b := 0) (by omega) (by omega) (by decide) (by decide) (U2 2) (U2 1)
    have J' : JR F' (va_up (va_up (va_up (va_up U2 0 (upd (upd (upd (U2 0) 3 1) 6 0) 13 (-1))) 1 (cpRow (U2 2) (U2 1) 0 0)) 0 (upd (upd (upd (upd (U2 0) 3 1) 6 0) 13 (-1)) 0 0)) 0 (upd (upd (upd (upd (upd (U2 0) 3 1) 6 0) 13 (-1)) 0 0) 2 0)) 1 A 60 := J.cong hF' (gs_of rfl) (fun j hj => by
      show cpRow (U2 2) (U2 1) 0 0 j = U2 2 j
      have := cpRow_in (U2 2) (U2 1) 0 0 hj
      rw [Nat.mul_zero, Nat.zero_add] at this
      exact this)
    obtain ⟨fg, mk, ks, ks', tk, tkt, R, M, I, hN⟩ := J'
    have hten := M.tenants k
    rw [r1, Option.bind_some, r2, Option.bind_some]
    show OPV f2 [0, 2] ((M_X7_isGood k K2).bind _) ((M_X10_finish_ k (va_up U2 0 (upd (U2 0) 3 1))).bind _) (N + 60)
    rw [c_good z1, Option.bind_some, if_neg (show ¬ (1 : Int32) = 0 by decide), hfin, Option.bind_some, if_pos rfl]
    show OPV f2 [0, 2] ((M_X0_copyFrom k S.1 D).bind _) ((M_X10_copy k 1692 1692 (U2 2) (U2 1) 0 0).bind _) (N + 60)
    rw [eF, Option.bind_some, hcp, Option.bind_some]
    show OPV f2 [0, 2] (some ((0 : Int32), F' 0 2, (F', D, S.2.2.1, K2, S.2.2.2.2.1, (0 : Int32)), (V.1, (0 : Int32), V.2.2))) ((M_X10_tenants k (va_up (va_up (va_up (va_up U2 0 (upd (upd (upd (U2 0) 3 1) 6 0) 13 (-1))) 1 (cpRow (U2 2) (U2 1) 0 0)) 0 (upd (upd (upd (upd (U2 0) 3 1) 6 0) 13 (-1)) 0 0)) 0 (upd (upd (upd (upd (upd (U2 0) 3 1) 6 0) 13 (-1)) 0 0) 2 0))).bind _) (N + 60)
    rw [hten, Option.bind_some]
    refine ⟨0, _, _, _, _, _, rfl, rfl, ?_, y1, by simp, fun _ => R.s2⟩
    refine GIx.ofs (nw := ⟨A, by rw [hA]; decide, fg, mk, ks, ks', tk, tkt, R, M, I, by omega⟩) (ti := ⟨0, by decide, z0, rfl, fun i hi => absurd hi (Nat.not_lt_zero i), z2⟩) (xi := G.xi.frame y5 (q1 7 (by decide) (by decide))) (si := Or.inl ⟨rfl, rfl⟩) (hi := hi_clear (G.hi.mono (by omega)) rfl)
