-- ===== cases of the law: values =====
section LAWC
variable {S : VV × VV × VV × VV × VV × Int32} {T : VV} {U : Nat → Int64} {V : Nat × Int32 × Int32 × (Nat → VV)} {N k Ls : Nat} {xs : Nat → Int32} {x4 : Int32}
theorem k_size (G : GIx S T V N) (hN : N + 700000 < 2 ^ 31) (hk : 20000 ≤ k) (x : IXS x4 Ls) : STP (M_L_346_346 k Ls xs x4 S T U V) (N + 200000) := by
  obtain ⟨c, v, v', T', e1, e2, tf, h1, hc, hv⟩ := v_size G hk (xs (x4 + (1 : Int32)).toNatClampNeg)
  refine ⟨S, T', gU c U v, V, ?_, (G.frame tf).mono (by omega)⟩
  unfold M_L_346_346
  rw [if_pos x.h1, show M_L_size k S U (xs (x4 + (1 : Int32)).toNatClampNeg) = some (c, gU c U v) from lv_val e1 hc, Option.bind_some, if_pos x.h1, e2, Option.bind_some]
  exact t_tail h1 (gU_eq hv)
theorem k_setting (G : GIx S T V N) (hN : N + 700000 < 2 ^ 31) (hk : 20000 ≤ k) (x : IXS x4 Ls) : STP (M_L_402_402 k Ls xs x4 S T U V) (N + 200000) := by
  obtain ⟨c, v, v', T', e1, e2, tf, h1, hc, hv⟩ := v_setting G (xs (x4 + (1 : Int32)).toNatClampNeg)
  refine ⟨S, T', gU c U v, V, ?_, (G.frame tf).mono (by omega)⟩
  unfold M_L_402_402
  rw [if_pos x.h1, show M_L_setting k S U (xs (x4 + (1 : Int32)).toNatClampNeg) = some (c, gU c U v) from lv_val e1 hc, Option.bind_some, if_pos x.h1, e2, Option.bind_some]
  exact t_tail h1 (gU_eq hv)
theorem k_worker (G : GIx S T V N) (hN : N + 700000 < 2 ^ 31) (hk : 20000 ≤ k) (x : IXS x4 Ls) : STP (M_L_458_458 k Ls xs x4 S T U V) (N + 200000) := by
  obtain ⟨c, v, v', T', e1, e2, tf, h1, hc, hv⟩ := v_worker G hk (xs (x4 + (1 : Int32)).toNatClampNeg) (xs (x4 + (2 : Int32)).toNatClampNeg)
  refine ⟨S, T', gU c U v, V, ?_, (G.frame tf).mono (by omega)⟩
  unfold M_L_458_458
  rw [if_pos x.h1, if_pos x.h2, show M_L_worker k S U (xs (x4 + (1 : Int32)).toNatClampNeg) (xs (x4 + (2 : Int32)).toNatClampNeg) = some (c, gU c U v) from lv_val e1 hc, Option.bind_some, if_pos x.h1, if_pos x.h2, e2, Option.bind_some]
  exact t_tail h1 (gU_eq hv)
theorem k_tenant (G : GIx S T V N) (hN : N + 700000 < 2 ^ 31) (hk : 20000 ≤ k) (x : IXS x4 Ls) : STP (M_L_526_526 k Ls xs x4 S T U V) (N + 200000) := by
  obtain ⟨c, v, v', T', e1, e2, tf, h1, hc, hv⟩ := v_tenant G hk (xs (x4 + (1 : Int32)).toNatClampNeg) (xs (x4 + (2 : Int32)).toNatClampNeg)
  refine ⟨S, T', gU c U v, V, ?_, (G.frame tf).mono (by omega)⟩
  unfold M_L_526_526
  rw [if_pos x.h1, if_pos x.h2, show M_L_tenant k S U (xs (x4 + (1 : Int32)).toNatClampNeg) (xs (x4 + (2 : Int32)).toNatClampNeg) = some (c, gU c U v) from lv_val e1 hc, Option.bind_some, if_pos x.h1, if_pos x.h2, e2, Option.bind_some]
  exact t_tail h1 (gU_eq hv)
theorem k_request (G : GIx S T V N) (hN : N + 700000 < 2 ^ 31) (hk : 20000 ≤ k) (x : IXS x4 Ls) : STP (M_L_594_594 k Ls xs x4 S T U V) (N + 200000) := by
  obtain ⟨c, v, v', T', e1, e2, tf, h1, hc, hv⟩ := v_request G (xs (x4 + (1 : Int32)).toNatClampNeg) (xs (x4 + (2 : Int32)).toNatClampNeg)
  refine ⟨S, T', gU c U v, V, ?_, (G.frame tf).mono (by omega)⟩
  unfold M_L_594_594
  rw [if_pos x.h1, if_pos x.h2, show M_L_request k S U (xs (x4 + (1 : Int32)).toNatClampNeg) (xs (x4 + (2 : Int32)).toNatClampNeg) = some (c, gU c U v) from lv_val e1 hc, Option.bind_some, if_pos x.h1, if_pos x.h2, e2, Option.bind_some]
  exact t_tail h1 (gU_eq hv)
theorem k_queued (G : GIx S T V N) (hN : N + 700000 < 2 ^ 31) (hk : 20000 ≤ k) (x : IXS x4 Ls) : STP (M_L_662_662 k Ls xs x4 S T U V) (N + 200000) := by
  obtain ⟨c, v, v', T', e1, e2, tf, h1, hc, hv⟩ := v_queued G (show N < 2 ^ 31 by omega) hk (xs (x4 + (1 : Int32)).toNatClampNeg) (xs (x4 + (2 : Int32)).toNatClampNeg)
  refine ⟨S, T', gU c U v, V, ?_, (G.frame tf).mono (by omega)⟩
  unfold M_L_662_662
  rw [if_pos x.h1, if_pos x.h2, show M_L_queued k S U (xs (x4 + (1 : Int32)).toNatClampNeg) (xs (x4 + (2 : Int32)).toNatClampNeg) = some (c, gU c U v) from lv_val e1 hc, Option.bind_some, if_pos x.h1, if_pos x.h2, e2, Option.bind_some]
  exact t_tail h1 (gU_eq hv)
theorem k_parked (G : GIx S T V N) (hN : N + 700000 < 2 ^ 31) (hk : 20000 ≤ k) (x : IXS x4 Ls) : STP (M_L_730_730 k Ls xs x4 S T U V) (N + 200000) := by
  obtain ⟨c, v, v', T', e1, e2, tf, h1, hc, hv⟩ := v_parked G (show N < 2 ^ 31 by omega) hk (xs (x4 + (1 : Int32)).toNatClampNeg)
  refine ⟨S, T', gU c U v, V, ?_, (G.frame tf).mono (by omega)⟩
  unfold M_L_730_730
  rw [if_pos x.h1, show M_L_parked k S U (xs (x4 + (1 : Int32)).toNatClampNeg) = some (c, gU c U v) from lv_val e1 hc, Option.bind_some, if_pos x.h1, e2, Option.bind_some]
  exact t_tail h1 (gU_eq hv)
theorem k_killsOf (G : GIx S T V N) (hN : N + 700000 < 2 ^ 31) (hk : 20000 ≤ k) (x : IXS x4 Ls) : STP (M_L_786_786 k Ls xs x4 S T U V) (N + 200000) := by
  obtain ⟨c, v, v', T', e1, e2, tf, h1, hc, hv⟩ := v_killsOf G hk (xs (x4 + (1 : Int32)).toNatClampNeg) (xs (x4 + (2 : Int32)).toNatClampNeg)
  refine ⟨S, T', gU c U v, V, ?_, (G.frame tf).mono (by omega)⟩
  unfold M_L_786_786
  rw [if_pos x.h1, if_pos x.h2, show M_L_killsOf k S U (xs (x4 + (1 : Int32)).toNatClampNeg) (xs (x4 + (2 : Int32)).toNatClampNeg) = some (c, gU c U v) from lv_val e1 hc, Option.bind_some, if_pos x.h1, if_pos x.h2, e2, Option.bind_some]
  exact t_tail h1 (gU_eq hv)
theorem k_overlap (G : GIx S T V N) (hN : N + 700000 < 2 ^ 31) (hk : 20000 ≤ k) (x : IXS x4 Ls) : STP (M_L_867_867 k Ls xs x4 S T U V) (N + 200000) := by
  obtain ⟨c, v, v', T', e1, e2, tf, h1, hc, hv⟩ := v_overlap G (xs (x4 + (1 : Int32)).toNatClampNeg) (xs (x4 + (2 : Int32)).toNatClampNeg)
  refine ⟨S, T', gU c U v, V, ?_, (G.frame tf).mono (by omega)⟩
  unfold M_L_867_867
  rw [if_pos x.h1, if_pos x.h2, show M_L_overlap k S U (xs (x4 + (1 : Int32)).toNatClampNeg) (xs (x4 + (2 : Int32)).toNatClampNeg) = some (c, gU c U v) from lv_val e1 hc, Option.bind_some, if_pos x.h1, if_pos x.h2, e2, Option.bind_some]
  exact t_tail h1 (gU_eq hv)
theorem k_covered (G : GIx S T V N) (hN : N + 700000 < 2 ^ 31) (hk : 20000 ≤ k) (x : IXS x4 Ls) : STP (M_L_935_935 k Ls xs x4 S T U V) (N + 200000) := by
  obtain ⟨c, v, v', T', e1, e2, tf, h1, hc, hv⟩ := v_covered G hk (xs (x4 + (1 : Int32)).toNatClampNeg)
  refine ⟨S, T', gU c U v, V, ?_, (G.frame tf).mono (by omega)⟩
  unfold M_L_935_935
  rw [if_pos x.h1, show M_L_covered k S U (xs (x4 + (1 : Int32)).toNatClampNeg) = some (c, gU c U v) from lv_val e1 hc, Option.bind_some, if_pos x.h1, e2, Option.bind_some]
  exact t_tail h1 (gU_eq hv)
theorem k_bestShard (G : GIx S T V N) (hN : N + 700000 < 2 ^ 31) (hk : 20000 ≤ k) (x : IXS x4 Ls) : STP (M_L_1004_1004 k Ls xs x4 S T U V) (N + 200000) := by
  obtain ⟨c, v, v', T', e1, e2, tf, h1, hc, hv⟩ := v_bestShard G hk (xs (x4 + (1 : Int32)).toNatClampNeg)
  refine ⟨S, T', gU c U v, V, ?_, (G.frame tf).mono (by omega)⟩
  unfold M_L_1004_1004
  rw [if_pos x.h1, show M_L_bestShard k S U (xs (x4 + (1 : Int32)).toNatClampNeg) = some (c, gU c U v) from lv_val e1 hc, Option.bind_some, if_pos x.h1, e2, Option.bind_some]
  exact t_tail h1 (gU_eq hv)
end LAWC
