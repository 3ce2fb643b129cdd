-- ===== cases of the law: what throws nothing =====
section LAWC
variable {S : VV × VV × VV × VV × VV × Int32} {T : VV} {U : Nat → Int64} {V : Nat × Int32 × Int32 × (Nat → VV)} {N k Ls : Nat} {xs : Nat → Int32} {x4 : Int32}
theorem k_errorPosition (G : GIx S T V N) (hk : 20000 ≤ k) : STP (M_L_333_333 k Ls xs x4 S T U V) (N + 200000) := by
  obtain ⟨v, e1, e2⟩ := n_errorPosition G (k := k)
  refine ⟨S, th T 0, U, V, ?_, (G.frame (tf_th T 0)).mono (by omega)⟩
  unfold M_L_333_333
  rw [e1, Option.bind_some, e2, Option.bind_some, if_pos rfl]
theorem k_killingPairs (G : GIx S T V N) (hk : 20000 ≤ k) : STP (M_L_854_854 k Ls xs x4 S T U V) (N + 200000) := by
  obtain ⟨v, e1, e2⟩ := n_killingPairs G hk
  refine ⟨S, th T 0, U, V, ?_, (G.frame (tf_th T 0)).mono (by omega)⟩
  unfold M_L_854_854
  rw [e1, Option.bind_some, e2, Option.bind_some, if_pos rfl]
theorem k_greatestOverlap (G : GIx S T V N) (hk : 20000 ≤ k) : STP (M_L_991_991 k Ls xs x4 S T U V) (N + 200000) := by
  obtain ⟨v, e1, e2⟩ := n_greatest G hk
  refine ⟨S, th T 0, U, V, ?_, (G.frame (tf_th T 0)).mono (by omega)⟩
  unfold M_L_991_991
  rw [e1, Option.bind_some, e2, Option.bind_some, if_pos rfl]
theorem k_undoCount (G : GIx S T V N) (hk : 20000 ≤ k) : STP (M_L_1930_1930 k Ls xs x4 S T U V) (N + 200000) := by
  obtain ⟨v, e1, e2⟩ := n_undoCount G (k := k)
  refine ⟨S, th T 0, U, V, ?_, (G.frame (tf_th T 0)).mono (by omega)⟩
  unfold M_L_1930_1930
  rw [e1, Option.bind_some, e2, Option.bind_some, if_pos rfl]
theorem k_mean (G : GIx S T V N) (hk : 20000 ≤ k) : STP (M_L_1309_1309 k Ls xs x4 S T U V) (N + 200000) := by
  obtain ⟨v, ok, e1, e2⟩ := n_mean G hk
  refine ⟨S, th T 0, U, V, ?_, (G.frame (tf_th T 0)).mono (by omega)⟩
  unfold M_L_1309_1309
  rw [e1, Option.bind_some, e2, Option.bind_some, if_pos (okD_2 ok)]
theorem k_served (G : GIx S T V N) (hk : 20000 ≤ k) : STP (M_L_1350_1350 k Ls xs x4 S T U V) (N + 200000) := by
  obtain ⟨v, ok, e1, e2⟩ := n_served G hk
  have o1 := okD_1 (okF_2 ok)
  have o2 := okD_2 (okF_2 ok)
  refine ⟨S, th T 0, U, V, ?_, (G.frame (tf_th T 0)).mono (by omega)⟩
  unfold M_L_1350_1350
  rw [e1, Option.bind_some, if_pos o1, lt_eq, e2, Option.bind_some, if_pos o1, lt_eq, if_pos o2]
theorem k_formattedByte (G : GIx S T V N) (x : IXS x4 Ls) : STP (M_L_1905_1905 k Ls xs x4 S T U V) (N + 200000) := by
  obtain ⟨v, e1, e2⟩ := n_formattedByte (k := k) G (xs (x4 + (1 : Int32)).toNatClampNeg)
  refine ⟨S, th T 0, U, V, ?_, (G.frame (tf_th T 0)).mono (by omega)⟩
  unfold M_L_1905_1905
  rw [if_pos x.h1, e1, Option.bind_some, if_pos x.h1, e2, Option.bind_some, if_pos rfl]
theorem k_bestSeed (G : GIx S T V N) (hk : 20000 ≤ k) : STP (M_L_1128_1128 k Ls xs x4 S T U V) (N + 200000) := by
  obtain ⟨v, S', T', e1, e2, G'⟩ := s_bestSeed G hk
  refine ⟨S', T', U, V, ?_, G'.mono (by omega)⟩
  unfold M_L_1128_1128
  rw [e1, Option.bind_some, e2, Option.bind_some, if_pos rfl]
theorem k_undo (G : GIx S T V N) (hk : 20000 ≤ k) : STP (M_L_1943_1943 k Ls xs x4 S T U V) (N + 200000) := by
  obtain ⟨v, S', V', T', e1, e2, G'⟩ := n_undo G hk
  refine ⟨S', T', U, V', ?_, G'.mono (by omega)⟩
  unfold M_L_1943_1943
  rw [e1, Option.bind_some, e2, Option.bind_some, if_pos rfl]
theorem k_restore (G : GIx S T V N) (hk : 20000 ≤ k) : STP (M_L_1967_1967 k Ls xs x4 S T U V) (N + 200000) := by
  obtain ⟨v, S', V', T', e1, e2, G'⟩ := n_restore G hk
  refine ⟨S', T', U, V', ?_, G'.mono (by omega)⟩
  unfold M_L_1967_1967
  rw [e1, Option.bind_some, e2, Option.bind_some, if_pos rfl]
theorem k_save (G : GIx S T V N) (hk : 20000 ≤ k) : STP (M_L_1956_1956 k Ls xs x4 S T U V) (N + 200000) := by
  obtain ⟨S', T', e1, e2, G'⟩ := n_save G hk
  refine ⟨S', T', U, V, ?_, G'.mono (by omega)⟩
  unfold M_L_1956_1956
  rw [e1, Option.bind_some, e2, Option.bind_some]
theorem k_feed (G : GIx S T V N) (hk : 20000 ≤ k) (x : IXS x4 Ls) : STP (M_L_204_204 k Ls xs x4 S T U V) (N + 200000) := by
  obtain ⟨v, S', T', e1, e2, G'⟩ := n_feed G hk (xs (x4 + (1 : Int32)).toNatClampNeg) (xs (x4 + (2 : Int32)).toNatClampNeg) (xs (x4 + (3 : Int32)).toNatClampNeg) (xs (x4 + (4 : Int32)).toNatClampNeg) (xs (x4 + (5 : Int32)).toNatClampNeg)
  refine ⟨S', T', U, V, ?_, G'.mono (by omega)⟩
  unfold M_L_204_204
  rw [if_pos x.h1, if_pos x.h2, if_pos x.h3, if_pos x.h4, if_pos x.h5, e1, Option.bind_some, if_pos x.h1, if_pos x.h2, if_pos x.h3, if_pos x.h4, if_pos x.h5, e2, Option.bind_some, if_pos rfl]
end LAWC
