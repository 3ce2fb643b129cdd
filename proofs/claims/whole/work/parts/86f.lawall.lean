-- ===== one round of the law, and all =====
section LAWC
variable {S : VV × VV × VV × VV × VV × Int32} {T : VV} {U : Nat → Int64} {V : Nat × Int32 × Int32 × (Nat → VV)} {N k Ls : Nat} {xs : Nat → Int32} {x4 : Int32}
theorem k_case (G : GIx S T V N) (hN : N + 700000 < 2 ^ 31) (hk : 20000 ≤ k) (x : IXS x4 Ls) (c : Int32) : STP (lawCase k Ls xs c x4 S T U V) (N + 200000) := by
  unfold lawCase
  by_cases c0 : c = (0 : Int32)
  · rw [if_pos c0]
    exact k_feed G hk x
  rw [if_neg c0]
  by_cases c1 : c = (1 : Int32)
  · rw [if_pos c1]
    exact k_load G hN hk x
  rw [if_neg c1]
  by_cases c2 : c = (2 : Int32)
  · rw [if_pos c2]
    exact k_errorPosition G hk
  rw [if_neg c2]
  by_cases c3 : c = (3 : Int32)
  · rw [if_pos c3]
    exact k_size G hN hk x
  rw [if_neg c3]
  by_cases c4 : c = (4 : Int32)
  · rw [if_pos c4]
    exact k_setting G hN hk x
  rw [if_neg c4]
  by_cases c5 : c = (5 : Int32)
  · rw [if_pos c5]
    exact k_worker G hN hk x
  rw [if_neg c5]
  by_cases c6 : c = (6 : Int32)
  · rw [if_pos c6]
    exact k_tenant G hN hk x
  rw [if_neg c6]
  by_cases c7 : c = (7 : Int32)
  · rw [if_pos c7]
    exact k_request G hN hk x
  rw [if_neg c7]
  by_cases c8 : c = (8 : Int32)
  · rw [if_pos c8]
    exact k_queued G hN hk x
  rw [if_neg c8]
  by_cases c9 : c = (9 : Int32)
  · rw [if_pos c9]
    exact k_parked G hN hk x
  rw [if_neg c9]
  by_cases c10 : c = (10 : Int32)
  · rw [if_pos c10]
    exact k_killsOf G hN hk x
  rw [if_neg c10]
  by_cases c11 : c = (11 : Int32)
  · rw [if_pos c11]
    exact k_killingPairs G hk
  rw [if_neg c11]
  by_cases c12 : c = (12 : Int32)
  · rw [if_pos c12]
    exact k_overlap G hN hk x
  rw [if_neg c12]
  by_cases c13 : c = (13 : Int32)
  · rw [if_pos c13]
    exact k_covered G hN hk x
  rw [if_neg c13]
  by_cases c14 : c = (14 : Int32)
  · rw [if_pos c14]
    exact k_greatestOverlap G hk
  rw [if_neg c14]
  by_cases c15 : c = (15 : Int32)
  · rw [if_pos c15]
    exact k_bestShard G hN hk x
  rw [if_neg c15]
  by_cases c16 : c = (16 : Int32)
  · rw [if_pos c16]
    exact k_drawn G hN hk x
  rw [if_neg c16]
  by_cases c17 : c = (17 : Int32)
  · rw [if_pos c17]
    exact k_bestSeed G hk
  rw [if_neg c17]
  by_cases c18 : c = (18 : Int32)
  · rw [if_pos c18]
    exact k_poisonKills G hN hk x
  rw [if_neg c18]
  by_cases c19 : c = (19 : Int32)
  · rw [if_pos c19]
    exact k_poisonHarm G hN hk x
  rw [if_neg c19]
  by_cases c20 : c = (20 : Int32)
  · rw [if_pos c20]
    exact k_doneBehind G hN hk x
  rw [if_neg c20]
  by_cases c21 : c = (21 : Int32)
  · rw [if_pos c21]
    exact k_mean G hk
  rw [if_neg c21]
  by_cases c22 : c = (22 : Int32)
  · rw [if_pos c22]
    exact k_served G hk
  rw [if_neg c22]
  by_cases c23 : c = (23 : Int32)
  · rw [if_pos c23]
    exact k_submit G hN hk x
  rw [if_neg c23]
  by_cases c24 : c = (24 : Int32)
  · rw [if_pos c24]
    exact k_pass G hN hk x
  rw [if_neg c24]
  by_cases c25 : c = (25 : Int32)
  · rw [if_pos c25]
    exact k_kill G hN hk x
  rw [if_neg c25]
  by_cases c26 : c = (26 : Int32)
  · rw [if_pos c26]
    exact k_move G hN hk x
  rw [if_neg c26]
  by_cases c27 : c = (27 : Int32)
  · rw [if_pos c27]
    exact k_draw G hN hk x
  rw [if_neg c27]
  by_cases c28 : c = (28 : Int32)
  · rw [if_pos c28]
    exact k_release G hN hk x
  rw [if_neg c28]
  by_cases c29 : c = (29 : Int32)
  · rw [if_pos c29]
    exact k_set G hN hk x
  rw [if_neg c29]
  by_cases c30 : c = (30 : Int32)
  · rw [if_pos c30]
    exact k_format G hN hk x
  rw [if_neg c30]
  by_cases c31 : c = (31 : Int32)
  · rw [if_pos c31]
    exact k_formattedByte G x
  rw [if_neg c31]
  by_cases c32 : c = (32 : Int32)
  · rw [if_pos c32]
    exact k_undoCount G hk
  rw [if_neg c32]
  by_cases c33 : c = (33 : Int32)
  · rw [if_pos c33]
    exact k_undo G hk
  rw [if_neg c33]
  by_cases c34 : c = (34 : Int32)
  · rw [if_pos c34]
    exact k_save G hk
  rw [if_neg c34]
  by_cases c35 : c = (35 : Int32)
  · rw [if_pos c35]
    exact k_restore G hk
  rw [if_neg c35]
  by_cases c36 : c = (36 : Int32)
  · rw [if_pos c36]
    exact k_query G hN hk x
  rw [if_neg c36]
  exact ⟨S, T, U, V, rfl, G.mono (by omega)⟩
end LAWC
theorem ixs {i Ls : Nat} (h : i + 6 ≤ Ls) (hL : Ls ≤ 3072) : IXS (nI i) Ls :=
  IXS.ofs (h1 := by rw [show (1 : Int32) = nI 1 from rfl, nI_add]; exact inb_nI (by omega) (by omega)) (h2 := by rw [show (2 : Int32) = nI 2 from rfl, nI_add]; exact inb_nI (by omega) (by omega)) (h3 := by rw [show (3 : Int32) = nI 3 from rfl, nI_add]; exact inb_nI (by omega) (by omega)) (h4 := by rw [show (4 : Int32) = nI 4 from rfl, nI_add]; exact inb_nI (by omega) (by omega)) (h5 := by rw [show (5 : Int32) = nI 5 from rfl, nI_add]; exact inb_nI (by omega) (by omega))
theorem law_end {Ls i : Nat} (hL : Ls ≤ 3072) (hi : i < 2 ^ 30) (h : ¬ i + 6 ≤ Ls) : nI Ls - 6 < nI i := by
  by_cases h6 : 6 ≤ Ls
  · rw [show (6 : Int32) = nI 6 from rfl, nI_sub h6]
    exact nI_lt (by omega) (by omega)
  · have hs : ∀ a, a < 6 → nI a - 6 < 0 := by decide
    have h0 := hs Ls (by omega)
    exact Int32.lt_of_lt_of_le h0 (nI_pos' (by omega))
theorem law_on {Ls i : Nat} (hL : Ls ≤ 3072) (h : i + 6 ≤ Ls) : ¬ nI Ls - 6 < nI i := by
  rw [show (6 : Int32) = nI 6 from rfl, nI_sub (by omega)]
  exact nI_nlt (by omega) (by omega)
theorem law_all {k Ls : Nat} {xs : Nat → Int32} (hk : 20000 ≤ k) (hL : Ls ≤ 3072) : ∀ (m j : Nat) (S : VV × VV × VV × VV × VV × Int32) (T : VV) (U : Nat → Int64) (V : Nat × Int32 × Int32 × (Nat → VV)), j + m = 512 → GIx S T V (200000 * j) → M_law k Ls xs (m + 1) (nI (6 * j)) S T U V = some ()
  | 0, j, S, T, U, V, hj, G => by
    rw [M_law_s, if_pos (law_end hL (by omega) (by omega))]
  | m + 1, j, S, T, U, V, hj, G => by
    rw [M_law_s]
    by_cases h : 6 * j + 6 ≤ Ls
    · have x := ixs (i := 6 * j) h hL
      obtain ⟨S', T', U', V', e, G'⟩ := k_case (U := U) (xs := xs) (Ls := Ls) (x4 := nI (6 * j)) G (by omega) hk x (xs (nI (6 * j)).toNatClampNeg &&& 63)
      rw [if_neg (law_on hL h), if_pos (inb_nI (by omega) (by omega)), e, Option.bind_some]
      show M_law k Ls xs (m + 1) (nI (6 * j) + 6) S' T' U' V' = some ()
      rw [show (6 : Int32) = nI 6 from rfl, nI_add, show 6 * j + 6 = 6 * (j + 1) by omega]
      exact law_all hk hL m (j + 1) S' T' U' V' (by omega) (G'.mono (by omega))
    · rw [if_pos (law_end hL (by omega) h)]
theorem law_run (Ls : Nat) (xs : Nat → Int32) (hL : Ls ≤ 3072) : ∃ (k : Nat) (F : VV) (G1 G : Nat → Int32), M_X0_begin k (fun _ _ => 0) 2 1 = some F ∧ M_X10_clear k 1692 (fun _ => 0) = some G1 ∧ M_X10_layWorkers k 1692 G1 2 1 = some G ∧ M_law k Ls xs 513 0 (F, (fun _ _ => 0), (fun _ _ => 0), tk0, (fun _ _ => 0), 0) (md0 G) (fun _ => 0) (0, 0, 0, fun _ => (fun _ _ => 0)) = some () := by
  obtain ⟨F, G1, G, h0, h1, h2, hG⟩ := st_start (k := 20000) (Nat.le_refl _)
  refine ⟨20000, F, G1, G, h0, h1, h2, ?_⟩
  have := law_all (xs := xs) (Nat.le_refl 20000) hL 512 0 (F, (fun _ _ => 0), (fun _ _ => 0), tk0, (fun _ _ => 0), 0) (md0 G) (fun _ => 0) (0, 0, 0, fun _ => (fun _ _ => 0)) rfl hG
  rw [Nat.mul_zero, nI_0] at this
  exact this
