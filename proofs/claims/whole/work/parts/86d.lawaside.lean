-- ===== cases of the law: what leaves the history =====
section LAWC
variable {S : VV × VV × VV × VV × VV × Int32} {T : VV} {U : Nat → Int64} {V : Nat × Int32 × Int32 × (Nat → VV)} {N k Ls : Nat} {xs : Nat → Int32} {x4 : Int32}
theorem k_drawn (G : GIx S T V N) (hN : N + 700000 < 2 ^ 31) (hk : 20000 ≤ k) (x : IXS x4 Ls) : STP (M_L_1060_1060 k Ls xs x4 S T U V) (N + 200000) := by
  obtain ⟨c, v, v', S', T', e1, e2, G', h1, hc, hv⟩ := s_drawn G hk (xs (x4 + (1 : Int32)).toNatClampNeg) (xs (x4 + (2 : Int32)).toNatClampNeg)
  refine ⟨S', T', gU c U v, V, ?_, G'.mono (by omega)⟩
  unfold M_L_1060_1060
  rw [if_pos x.h1, if_pos x.h2, show M_L_drawn k S U (xs (x4 + (1 : Int32)).toNatClampNeg) (xs (x4 + (2 : Int32)).toNatClampNeg) = some (id c, S', gU c U v) from ls_012 e1 hc, Option.bind_some, if_pos x.h1, if_pos x.h2, e2, Option.bind_some]
  exact t_tail h1 (fun h => gU_eq hv (id_0 hc h))
theorem k_poisonKills (G : GIx S T V N) (hN : N + 700000 < 2 ^ 31) (hk : 20000 ≤ k) (x : IXS x4 Ls) : STP (M_L_1141_1141 k Ls xs x4 S T U V) (N + 200000) := by
  obtain ⟨c, v, v', S', T', e1, e2, G', h1, hc, hv⟩ := s_poisonKills G (by omega) hk (xs (x4 + (1 : Int32)).toNatClampNeg)
  refine ⟨S', T', gU c U v, V, ?_, G'.mono (by omega)⟩
  unfold M_L_1141_1141
  rw [if_pos x.h1, show M_L_poisonKills k S U (xs (x4 + (1 : Int32)).toNatClampNeg) = some (id c, S', gU c U v) from ls_01 e1 hc, Option.bind_some, if_pos x.h1, e2, Option.bind_some]
  exact t_tail h1 (fun h => gU_eq hv (id_0 hc h))
theorem k_poisonHarm (G : GIx S T V N) (hN : N + 700000 < 2 ^ 31) (hk : 20000 ≤ k) (x : IXS x4 Ls) : STP (M_L_1197_1197 k Ls xs x4 S T U V) (N + 200000) := by
  obtain ⟨c, v, v', S', T', e1, e2, G', h1, hc, hv⟩ := s_poisonHarm G (by omega) hk (xs (x4 + (1 : Int32)).toNatClampNeg)
  refine ⟨S', T', gU c U v, V, ?_, G'.mono (by omega)⟩
  unfold M_L_1197_1197
  rw [if_pos x.h1, show M_L_poisonHarm k S U (xs (x4 + (1 : Int32)).toNatClampNeg) = some (id c, S', gU c U v) from ls_01 e1 hc, Option.bind_some, if_pos x.h1, e2, Option.bind_some]
  exact t_tail h1 (fun h => gU_eq hv (id_0 hc h))
theorem k_doneBehind (G : GIx S T V N) (hN : N + 700000 < 2 ^ 31) (hk : 20000 ≤ k) (x : IXS x4 Ls) : STP (M_L_1253_1253 k Ls xs x4 S T U V) (N + 200000) := by
  obtain ⟨c, v, v', S', T', e1, e2, G', h1, hc, hv⟩ := s_doneBehind G (by omega) hk (xs (x4 + (1 : Int32)).toNatClampNeg)
  refine ⟨S', T', gU c U v, V, ?_, G'.mono (by omega)⟩
  unfold M_L_1253_1253
  rw [if_pos x.h1, show M_L_doneBehind k S U (xs (x4 + (1 : Int32)).toNatClampNeg) = some (f2 c, S', gU c U v) from ls_02 e1 hc, Option.bind_some, if_pos x.h1, e2, Option.bind_some]
  exact t_tail h1 (fun h => gU_eq hv (f2_0 hc h))
theorem k_format (G : GIx S T V N) (hN : N + 700000 < 2 ^ 31) (hk : 20000 ≤ k) (x : IXS x4 Ls) : STP (M_L_1849_1849 k Ls xs x4 S T U V) (N + 200000) := by
  obtain ⟨c, v, v', S', T', e1, e2, G', h1, hc, hv⟩ := s_format G (by omega) hk (xs (x4 + (1 : Int32)).toNatClampNeg)
  refine ⟨S', T', gU c U v, V, ?_, G'.mono (by omega)⟩
  unfold M_L_1849_1849
  rw [if_pos x.h1, show M_L_format k S U (xs (x4 + (1 : Int32)).toNatClampNeg) = some (id c, S', gU c U v) from ls_01 e1 hc, Option.bind_some, if_pos x.h1, e2, Option.bind_some]
  exact t_tail h1 (fun h => gU_eq hv (id_0 hc h))
theorem k_query (G : GIx S T V N) (hN : N + 700000 < 2 ^ 31) (hk : 20000 ≤ k) (x : IXS x4 Ls) : STP (M_L_1980_1980 k Ls xs x4 S T U V) (N + 200000) := by
  obtain ⟨c, v, v', S', T', e1, e2, G', h1, hc, hv⟩ := s_query G (by omega) hk (xs (x4 + (1 : Int32)).toNatClampNeg)
  refine ⟨S', T', gU c U v, V, ?_, G'.mono (by omega)⟩
  unfold M_L_1980_1980
  rw [if_pos x.h1, show M_L_query k S U (xs (x4 + (1 : Int32)).toNatClampNeg) = some (f2 c, S', gU c U v) from ls_02 e1 hc, Option.bind_some, if_pos x.h1, e2, Option.bind_some]
  exact t_tail h1 (fun h => gU_eq hv (f2_0 hc h))
end LAWC
