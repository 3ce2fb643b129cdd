-- ===== cases of the law: operations =====
section LAWC
variable {S : VV × VV × VV × VV × VV × Int32} {T : VV} {U : Nat → Int64} {V : Nat × Int32 × Int32 × (Nat → VV)} {N k Ls : Nat} {xs : Nat → Int32} {x4 : Int32}
theorem k_load (G : GIx S T V N) (hN : N + 700000 < 2 ^ 31) (hk : 20000 ≤ k) (x : IXS x4 Ls) : STP (M_L_277_277 k Ls xs x4 S T U V) (N + 200000) := by
  obtain ⟨c, v, v', S', V', T', e1, e2, G', h1, hc, hv⟩ := o_load G hk (xs (x4 + (1 : Int32)).toNatClampNeg)
  refine ⟨S', T', gU c U v, V', ?_, G'.mono (by omega)⟩
  unfold M_L_277_277
  rw [if_pos x.h1, show M_L_load k S V U (xs (x4 + (1 : Int32)).toNatClampNeg) = some (f2 c, S', V', gU c U v) from lo_02 e1 hc, Option.bind_some, if_pos x.h1, e2, Option.bind_some]
  exact t_tail h1 (fun h => gU_eq hv (f2_0 hc h))
theorem k_pass (G : GIx S T V N) (hN : N + 700000 < 2 ^ 31) (hk : 20000 ≤ k) (x : IXS x4 Ls) : STP (M_L_1489_1489 k Ls xs x4 S T U V) (N + 200000) := by
  obtain ⟨c, v, v', S', V', T', e1, e2, G', h1, hc, hv⟩ := o_pass G (by omega) hk (xs (x4 + (1 : Int32)).toNatClampNeg)
  refine ⟨S', T', gU c U v, V', ?_, G'.mono (by omega)⟩
  unfold M_L_1489_1489
  rw [if_pos x.h1, show M_L_pass k S V U (xs (x4 + (1 : Int32)).toNatClampNeg) = some (f2 c, S', V', gU c U v) from lo_02 e1 hc, Option.bind_some, if_pos x.h1, e2, Option.bind_some]
  exact t_tail h1 (fun h => gU_eq hv (f2_0 hc h))
theorem k_kill (G : GIx S T V N) (hN : N + 700000 < 2 ^ 31) (hk : 20000 ≤ k) (x : IXS x4 Ls) : STP (M_L_1545_1545 k Ls xs x4 S T U V) (N + 200000) := by
  obtain ⟨c, v, v', S', V', T', e1, e2, G', h1, hc, hv⟩ := o_kill G (by omega) hk (xs (x4 + (1 : Int32)).toNatClampNeg)
  refine ⟨S', T', gU c U v, V', ?_, G'.mono (by omega)⟩
  unfold M_L_1545_1545
  rw [if_pos x.h1, show M_L_kill k S V U (xs (x4 + (1 : Int32)).toNatClampNeg) = some (id c, S', V', gU c U v) from lo_01 e1 hc, Option.bind_some, if_pos x.h1, e2, Option.bind_some]
  exact t_tail h1 (fun h => gU_eq hv (id_0 hc h))
theorem k_move (G : GIx S T V N) (hN : N + 700000 < 2 ^ 31) (hk : 20000 ≤ k) (x : IXS x4 Ls) : STP (M_L_1601_1601 k Ls xs x4 S T U V) (N + 200000) := by
  obtain ⟨c, v, v', S', V', T', e1, e2, G', h1, hc, hv⟩ := o_move G hk (xs (x4 + (1 : Int32)).toNatClampNeg) (xs (x4 + (2 : Int32)).toNatClampNeg)
  refine ⟨S', T', gU c U v, V', ?_, G'.mono (by omega)⟩
  unfold M_L_1601_1601
  rw [if_pos x.h1, if_pos x.h2, show M_L_move k S V U (xs (x4 + (1 : Int32)).toNatClampNeg) (xs (x4 + (2 : Int32)).toNatClampNeg) = some (id c, S', V', gU c U v) from lo_012 e1 hc, Option.bind_some, if_pos x.h1, if_pos x.h2, e2, Option.bind_some]
  exact t_tail h1 (fun h => gU_eq hv (id_0 hc h))
theorem k_draw (G : GIx S T V N) (hN : N + 700000 < 2 ^ 31) (hk : 20000 ≤ k) (x : IXS x4 Ls) : STP (M_L_1669_1669 k Ls xs x4 S T U V) (N + 200000) := by
  obtain ⟨c, v, v', S', V', T', e1, e2, G', h1, hc, hv⟩ := o_draw G hk (xs (x4 + (1 : Int32)).toNatClampNeg)
  refine ⟨S', T', gU c U v, V', ?_, G'.mono (by omega)⟩
  unfold M_L_1669_1669
  rw [if_pos x.h1, show M_L_draw k S V U (xs (x4 + (1 : Int32)).toNatClampNeg) = some (f2 c, S', V', gU c U v) from lo_02 e1 hc, Option.bind_some, if_pos x.h1, e2, Option.bind_some]
  exact t_tail h1 (fun h => gU_eq hv (f2_0 hc h))
theorem k_release (G : GIx S T V N) (hN : N + 700000 < 2 ^ 31) (hk : 20000 ≤ k) (x : IXS x4 Ls) : STP (M_L_1725_1725 k Ls xs x4 S T U V) (N + 200000) := by
  obtain ⟨c, v, v', S', V', T', e1, e2, G', h1, hc, hv⟩ := o_release G hk (xs (x4 + (1 : Int32)).toNatClampNeg)
  refine ⟨S', T', gU c U v, V', ?_, G'.mono (by omega)⟩
  unfold M_L_1725_1725
  rw [if_pos x.h1, show M_L_release k S V U (xs (x4 + (1 : Int32)).toNatClampNeg) = some (id c, S', V', gU c U v) from lo_01 e1 hc, Option.bind_some, if_pos x.h1, e2, Option.bind_some]
  exact t_tail h1 (fun h => gU_eq hv (id_0 hc h))
theorem k_set (G : GIx S T V N) (hN : N + 700000 < 2 ^ 31) (hk : 20000 ≤ k) (x : IXS x4 Ls) : STP (M_L_1781_1781 k Ls xs x4 S T U V) (N + 200000) := by
  obtain ⟨c, v, v', S', V', T', e1, e2, G', h1, hc, hv⟩ := o_set G hk (xs (x4 + (1 : Int32)).toNatClampNeg) (xs (x4 + (2 : Int32)).toNatClampNeg)
  refine ⟨S', T', gU c U v, V', ?_, G'.mono (by omega)⟩
  unfold M_L_1781_1781
  rw [if_pos x.h1, if_pos x.h2, show M_L_set k S V U (xs (x4 + (1 : Int32)).toNatClampNeg) (xs (x4 + (2 : Int32)).toNatClampNeg) = some (id c, S', V', gU c U v) from lo_012 e1 hc, Option.bind_some, if_pos x.h1, if_pos x.h2, e2, Option.bind_some]
  exact t_tail h1 (fun h => gU_eq hv (id_0 hc h))
theorem k_submit (G : GIx S T V N) (hN : N + 700000 < 2 ^ 31) (hk : 20000 ≤ k) (x : IXS x4 Ls) : STP (M_L_1393_1393 k Ls xs x4 S T U V) (N + 200000) := by
  have go : ∀ r, STP ((M_L_submit k S V U (xs (x4 + (1 : Int32)).toNatClampNeg) (xs (x4 + (2 : Int32)).toNatClampNeg) r).bind fun q7 => M_L_1393_1453 k Ls xs x4 q7.1 (xs (x4 + (1 : Int32)).toNatClampNeg) (xs (x4 + (2 : Int32)).toNatClampNeg) r q7.2.1 T q7.2.2.2 q7.2.2.1) (N + 200000) := fun r => by
    obtain ⟨c, v, v', S', V', T', e1, e2, G', h1, hc, hv⟩ := o_submit G hk (xs (x4 + (1 : Int32)).toNatClampNeg) (xs (x4 + (2 : Int32)).toNatClampNeg) r
    refine ⟨S', T', gU c U v, V', ?_, G'.mono (by omega)⟩
    rw [show M_L_submit k S V U (xs (x4 + (1 : Int32)).toNatClampNeg) (xs (x4 + (2 : Int32)).toNatClampNeg) r = some (id c, S', V', gU c U v) from lo_012 e1 hc, Option.bind_some]
    unfold M_L_1393_1453
    rw [e2, Option.bind_some]
    exact t_tail h1 (fun h => gU_eq hv (id_0 hc h))
  unfold M_L_1393_1393
  rw [if_pos x.h1, if_pos x.h2, if_pos x.h3]
  by_cases h3 : xs (x4 + (3 : Int32)).toNatClampNeg = 0
  · rw [if_pos h3]
    unfold M_L_1393_1420
    have e : ∀ q7 : Int32 × (VV × VV × VV × VV × VV × Int32) × (Nat × Int32 × Int32 × (Nat → VV)) × (Nat → Int64), (if inb (x4 + (1 : Int32)) Ls = true then (if inb (x4 + (2 : Int32)) Ls = true then (if inb (x4 + (3 : Int32)) Ls = true then if (xs (x4 + (3 : Int32)).toNatClampNeg) = 0 then (M_L_1393_1453 k Ls xs x4 q7.1 (xs (x4 + (1 : Int32)).toNatClampNeg) (xs (x4 + (2 : Int32)).toNatClampNeg) (0 : Int32) q7.2.1 T q7.2.2.2 q7.2.2.1) else (M_L_1393_1453 k Ls xs x4 q7.1 (xs (x4 + (1 : Int32)).toNatClampNeg) (xs (x4 + (2 : Int32)).toNatClampNeg) (1 : Int32) q7.2.1 T q7.2.2.2 q7.2.2.1) else none) else none) else none) = M_L_1393_1453 k Ls xs x4 q7.1 (xs (x4 + (1 : Int32)).toNatClampNeg) (xs (x4 + (2 : Int32)).toNatClampNeg) 0 q7.2.1 T q7.2.2.2 q7.2.2.1 := fun q7 => by
      rw [if_pos x.h1, if_pos x.h2, if_pos x.h3, if_pos h3]
    exact STP.eq (congrArg (Option.bind _) (funext e)) (go 0)
  · rw [if_neg h3]
    unfold M_L_1393_1420
    have e : ∀ q7 : Int32 × (VV × VV × VV × VV × VV × Int32) × (Nat × Int32 × Int32 × (Nat → VV)) × (Nat → Int64), (if inb (x4 + (1 : Int32)) Ls = true then (if inb (x4 + (2 : Int32)) Ls = true then (if inb (x4 + (3 : Int32)) Ls = true then if (xs (x4 + (3 : Int32)).toNatClampNeg) = 0 then (M_L_1393_1453 k Ls xs x4 q7.1 (xs (x4 + (1 : Int32)).toNatClampNeg) (xs (x4 + (2 : Int32)).toNatClampNeg) (0 : Int32) q7.2.1 T q7.2.2.2 q7.2.2.1) else (M_L_1393_1453 k Ls xs x4 q7.1 (xs (x4 + (1 : Int32)).toNatClampNeg) (xs (x4 + (2 : Int32)).toNatClampNeg) (1 : Int32) q7.2.1 T q7.2.2.2 q7.2.2.1) else none) else none) else none) = M_L_1393_1453 k Ls xs x4 q7.1 (xs (x4 + (1 : Int32)).toNatClampNeg) (xs (x4 + (2 : Int32)).toNatClampNeg) 1 q7.2.1 T q7.2.2.2 q7.2.2.1 := fun q7 => by
      rw [if_pos x.h1, if_pos x.h2, if_pos x.h3, if_neg h3]
    exact STP.eq (congrArg (Option.bind _) (funext e)) (go 1)
end LAWC
