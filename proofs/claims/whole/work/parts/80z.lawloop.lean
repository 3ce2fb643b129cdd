-- ===== the law's loop =====
def lawCase (k Ls : Nat) (xs : Nat → Int32) (c i : Int32) (S : VV × VV × VV × VV × VV × Int32) (T : Nat → Nat → Int32) (U : Nat → Int64) (V : Nat × Int32 × Int32 × (Nat → VV)) : Option ((VV × VV × VV × VV × VV × Int32) × (Nat → Nat → Int32) × (Nat → Int64) × (Nat × Int32 × Int32 × (Nat → VV))) := if c = (0 : Int32) then M_L_204_204 k Ls xs i S T U V else if c = (1 : Int32) then M_L_277_277 k Ls xs i S T U V else if c = (2 : Int32) then M_L_333_333 k Ls xs i S T U V else if c = (3 : Int32) then M_L_346_346 k Ls xs i S T U V else if c = (4 : Int32) then M_L_402_402 k Ls xs i S T U V else if c = (5 : Int32) then M_L_458_458 k Ls xs i S T U V else if c = (6 : Int32) then M_L_526_526 k Ls xs i S T U V else if c = (7 : Int32) then M_L_594_594 k Ls xs i S T U V else if c = (8 : Int32) then M_L_662_662 k Ls xs i S T U V else if c = (9 : Int32) then M_L_730_730 k Ls xs i S T U V else if c = (10 : Int32) then M_L_786_786 k Ls xs i S T U V else if c = (11 : Int32) then M_L_854_854 k Ls xs i S T U V else if c = (12 : Int32) then M_L_867_867 k Ls xs i S T U V else if c = (13 : Int32) then M_L_935_935 k Ls xs i S T U V else if c = (14 : Int32) then M_L_991_991 k Ls xs i S T U V else if c = (15 : Int32) then M_L_1004_1004 k Ls xs i S T U V else if c = (16 : Int32) then M_L_1060_1060 k Ls xs i S T U V else if c = (17 : Int32) then M_L_1128_1128 k Ls xs i S T U V else if c = (18 : Int32) then M_L_1141_1141 k Ls xs i S T U V else if c = (19 : Int32) then M_L_1197_1197 k Ls xs i S T U V else if c = (20 : Int32) then M_L_1253_1253 k Ls xs i S T U V else if c = (21 : Int32) then M_L_1309_1309 k Ls xs i S T U V else if c = (22 : Int32) then M_L_1350_1350 k Ls xs i S T U V else if c = (23 : Int32) then M_L_1393_1393 k Ls xs i S T U V else if c = (24 : Int32) then M_L_1489_1489 k Ls xs i S T U V else if c = (25 : Int32) then M_L_1545_1545 k Ls xs i S T U V else if c = (26 : Int32) then M_L_1601_1601 k Ls xs i S T U V else if c = (27 : Int32) then M_L_1669_1669 k Ls xs i S T U V else if c = (28 : Int32) then M_L_1725_1725 k Ls xs i S T U V else if c = (29 : Int32) then M_L_1781_1781 k Ls xs i S T U V else if c = (30 : Int32) then M_L_1849_1849 k Ls xs i S T U V else if c = (31 : Int32) then M_L_1905_1905 k Ls xs i S T U V else if c = (32 : Int32) then M_L_1930_1930 k Ls xs i S T U V else if c = (33 : Int32) then M_L_1943_1943 k Ls xs i S T U V else if c = (34 : Int32) then M_L_1956_1956 k Ls xs i S T U V else if c = (35 : Int32) then M_L_1967_1967 k Ls xs i S T U V else if c = (36 : Int32) then M_L_1980_1980 k Ls xs i S T U V else some (S, T, U, V)
def M_law (k Ls : Nat) (xs : Nat → Int32) : Nat → Int32 → (VV × VV × VV × VV × VV × Int32) → (Nat → Nat → Int32) → (Nat → Int64) → (Nat × Int32 × Int32 × (Nat → VV)) → Option Unit
  | 0, _, _, _, _, _ => none
  | n + 1, i, S, T, U, V => if nI Ls - 6 < i then some () else if inb i Ls = true then (lawCase k Ls xs (xs i.toNatClampNeg &&& 63) i S T U V).bind fun q => M_law k Ls xs n (i + 6) q.1 q.2.1 q.2.2.1 q.2.2.2 else none
theorem M_law_s (k Ls : Nat) (xs : Nat → Int32) (n : Nat) (i : Int32) (S : VV × VV × VV × VV × VV × Int32) (T : Nat → Nat → Int32) (U : Nat → Int64) (V : Nat × Int32 × Int32 × (Nat → VV)) : M_law k Ls xs (n + 1) i S T U V = (if nI Ls - 6 < i then some () else if inb i Ls = true then (lawCase k Ls xs (xs i.toNatClampNeg &&& 63) i S T U V).bind fun q => M_law k Ls xs n (i + 6) q.1 q.2.1 q.2.2.1 q.2.2.2 else none) := rfl
theorem dL_law_23 : decode cL_law 23 = .ok (.iload 4, 2) := by decide +kernel
theorem dL_law_25 : decode cL_law 25 = .ok (.aload_n 0, 1) := by decide +kernel
theorem dL_law_26 : decode cL_law 26 = .ok (.arraylength, 1) := by decide +kernel
theorem dL_law_27 : decode cL_law 27 = .ok (.bipush 6, 2) := by decide +kernel
theorem dL_law_29 : decode cL_law 29 = .ok (.isub, 1) := by decide +kernel
theorem dL_law_30 : decode cL_law 30 = .ok (.if_icmp .gt 2012, 3) := by decide +kernel
theorem dL_law_33 : decode cL_law 33 = .ok (.aload_n 0, 1) := by decide +kernel
theorem dL_law_34 : decode cL_law 34 = .ok (.iload 4, 2) := by decide +kernel
theorem dL_law_36 : decode cL_law 36 = .ok (.iaload, 1) := by decide +kernel
theorem dL_law_37 : decode cL_law 37 = .ok (.bipush 63, 2) := by decide +kernel
theorem dL_law_39 : decode cL_law 39 = .ok (.iand, 1) := by decide +kernel
theorem dL_law_40 : decode cL_law 40 = .ok (.tableswitch 1996 0 36 #[164, 237, 293, 306, 362, 418, 486, 554, 622, 690, 746, 814, 827, 895, 951, 964, 1020, 1088, 1101, 1157, 1213, 1269, 1310, 1353, 1449, 1505, 1561, 1629, 1685, 1741, 1809, 1865, 1890, 1903, 1916, 1927, 1940], 164) := by decide +kernel
theorem dL_law_2036 : decode cL_law 2036 = .ok (.iinc 4 6, 3) := by decide +kernel
theorem dL_law_2039 : decode cL_law 2039 = .ok (.goto (-2016), 3) := by decide +kernel
theorem dL_law_2042 : decode cL_law 2042 = .ok (.iconst 1, 1) := by decide +kernel
theorem dL_law_2043 : decode cL_law 2043 = .ok (.ireturn, 1) := by decide +kernel
section WALKS
variable {E : ENV} {p : Program} {l : Launch} {e : Env} {s : State} {m : MethodId} {args : Array Value} {below : List Frame} {meth : Method} {c : Code} {A : Nat → Prop} {bs : Nat}
set_option maxRecDepth 100000 in
set_option maxHeartbeats 4000000 in
theorem law_case (C : CX E p l s m #[Value.ref bs] meth c cL_law 9 RL ret A) (a b c0 : Nat → Nat) (k Ls : Nat) (xs : Nat → Int32) (hX : va_X bs Ls xs s s.heap) (hbl : bs < s.heap.size) (hbA : ¬ A bs) (hlt : l.stackTraces = false) (hdc : DC s) (cN sN : Nat) (hcN : cN + 20 ≤ 601024 ∧ sN + 1600 ≤ 7293034) (fa : Nat → Nat → Nat) (i x : Int32) (S : VV × VV × VV × VV × VV × Int32) (T : Nat → Nat → Int32) (U : Nat → Int64) (V : Nat × Int32 × Int32 × (Nat → VV)) (q : (VV × VV × VV × VV × VV × Int32) × (Nat → Nat → Int32) × (Nat → Int64) × (Nat × Int32 × Int32 × (Nat → VV))) (h : lawCase k Ls xs x i S T U V = some q)
    (hq : ∀ fa' : Nat → Nat → Nat, WW E p l e room_1 s m #[Value.ref bs] below meth c A (cN + 20) (sN + 1600) (lw_Z below #[Value.ref bs] s) (wSg E a q.1 ++ wMd E b q.2.1 ++ wLo E c0 q.2.2.1 ++ wHi E a fa' q.2.2.2) 9 [some (.ref bs), some (.ref (a 0)), some (.ref (b 0)), some (.ref (c0 0)), some (.int i), none, none, none, none] 2036 []) : WW E p l e room_1 s m #[Value.ref bs] below meth c A cN sN (lw_Z below #[Value.ref bs] s) (wSg E a S ++ wMd E b T ++ wLo E c0 U ++ wHi E a fa V) 9 [some (.ref bs), some (.ref (a 0)), some (.ref (b 0)), some (.ref (c0 0)), some (.int i), none, none, none, none] 40 [.int x] := by
  unfold lawCase at h
  by_cases hx0 : x = (0 : Int32)
  · rw [if_pos hx0] at h
    refine r_tabIn (pc := 40) C 204 dL_law_40 hx0 (by decide) (by decide) rfl rfl ?_
    exact N_L_204_204 C a b c0 k Ls xs hX hbl hbA hlt hdc cN sN hcN fa i S T U V q h hq
  rw [if_neg hx0] at h
  by_cases hx1 : x = (1 : Int32)
  · rw [if_pos hx1] at h
    refine r_tabIn (pc := 40) C 277 dL_law_40 hx1 (by decide) (by decide) rfl rfl ?_
    exact N_L_277_277 C a b c0 k Ls xs hX hbl hbA hlt hdc cN sN hcN fa i S T U V q h hq
  rw [if_neg hx1] at h
  by_cases hx2 : x = (2 : Int32)
  · rw [if_pos hx2] at h
    refine r_tabIn (pc := 40) C 333 dL_law_40 hx2 (by decide) (by decide) rfl rfl ?_
    exact N_L_333_333 C a b c0 k Ls xs hX hbl hbA hlt hdc cN sN hcN fa i S T U V q h hq
  rw [if_neg hx2] at h
  by_cases hx3 : x = (3 : Int32)
  · rw [if_pos hx3] at h
    refine r_tabIn (pc := 40) C 346 dL_law_40 hx3 (by decide) (by decide) rfl rfl ?_
    exact N_L_346_346 C a b c0 k Ls xs hX hbl hbA hlt hdc cN sN hcN fa i S T U V q h hq
  rw [if_neg hx3] at h
  by_cases hx4 : x = (4 : Int32)
  · rw [if_pos hx4] at h
    refine r_tabIn (pc := 40) C 402 dL_law_40 hx4 (by decide) (by decide) rfl rfl ?_
    exact N_L_402_402 C a b c0 k Ls xs hX hbl hbA hlt hdc cN sN hcN fa i S T U V q h hq
  rw [if_neg hx4] at h
  by_cases hx5 : x = (5 : Int32)
  · rw [if_pos hx5] at h
    refine r_tabIn (pc := 40) C 458 dL_law_40 hx5 (by decide) (by decide) rfl rfl ?_
    exact N_L_458_458 C a b c0 k Ls xs hX hbl hbA hlt hdc cN sN hcN fa i S T U V q h hq
  rw [if_neg hx5] at h
  by_cases hx6 : x = (6 : Int32)
  · rw [if_pos hx6] at h
    refine r_tabIn (pc := 40) C 526 dL_law_40 hx6 (by decide) (by decide) rfl rfl ?_
    exact N_L_526_526 C a b c0 k Ls xs hX hbl hbA hlt hdc cN sN hcN fa i S T U V q h hq
  rw [if_neg hx6] at h
  by_cases hx7 : x = (7 : Int32)
  · rw [if_pos hx7] at h
    refine r_tabIn (pc := 40) C 594 dL_law_40 hx7 (by decide) (by decide) rfl rfl ?_
    exact N_L_594_594 C a b c0 k Ls xs hX hbl hbA hlt hdc cN sN hcN fa i S T U V q h hq
  rw [if_neg hx7] at h
  by_cases hx8 : x = (8 : Int32)
  · rw [if_pos hx8] at h
    refine r_tabIn (pc := 40) C 662 dL_law_40 hx8 (by decide) (by decide) rfl rfl ?_
    exact N_L_662_662 C a b c0 k Ls xs hX hbl hbA hlt hdc cN sN hcN fa i S T U V q h hq
  rw [if_neg hx8] at h
  by_cases hx9 : x = (9 : Int32)
  · rw [if_pos hx9] at h
    refine r_tabIn (pc := 40) C 730 dL_law_40 hx9 (by decide) (by decide) rfl rfl ?_
    exact N_L_730_730 C a b c0 k Ls xs hX hbl hbA hlt hdc cN sN hcN fa i S T U V q h hq
  rw [if_neg hx9] at h
  by_cases hx10 : x = (10 : Int32)
  · rw [if_pos hx10] at h
    refine r_tabIn (pc := 40) C 786 dL_law_40 hx10 (by decide) (by decide) rfl rfl ?_
    exact N_L_786_786 C a b c0 k Ls xs hX hbl hbA hlt hdc cN sN hcN fa i S T U V q h hq
  rw [if_neg hx10] at h
  by_cases hx11 : x = (11 : Int32)
  · rw [if_pos hx11] at h
    refine r_tabIn (pc := 40) C 854 dL_law_40 hx11 (by decide) (by decide) rfl rfl ?_
    exact N_L_854_854 C a b c0 k Ls xs hX hbl hbA hlt hdc cN sN hcN fa i S T U V q h hq
  rw [if_neg hx11] at h
  by_cases hx12 : x = (12 : Int32)
  · rw [if_pos hx12] at h
    refine r_tabIn (pc := 40) C 867 dL_law_40 hx12 (by decide) (by decide) rfl rfl ?_
    exact N_L_867_867 C a b c0 k Ls xs hX hbl hbA hlt hdc cN sN hcN fa i S T U V q h hq
  rw [if_neg hx12] at h
  by_cases hx13 : x = (13 : Int32)
  · rw [if_pos hx13] at h
    refine r_tabIn (pc := 40) C 935 dL_law_40 hx13 (by decide) (by decide) rfl rfl ?_
    exact N_L_935_935 C a b c0 k Ls xs hX hbl hbA hlt hdc cN sN hcN fa i S T U V q h hq
  rw [if_neg hx13] at h
  by_cases hx14 : x = (14 : Int32)
  · rw [if_pos hx14] at h
    refine r_tabIn (pc := 40) C 991 dL_law_40 hx14 (by decide) (by decide) rfl rfl ?_
    exact N_L_991_991 C a b c0 k Ls xs hX hbl hbA hlt hdc cN sN hcN fa i S T U V q h hq
  rw [if_neg hx14] at h
  by_cases hx15 : x = (15 : Int32)
  · rw [if_pos hx15] at h
    refine r_tabIn (pc := 40) C 1004 dL_law_40 hx15 (by decide) (by decide) rfl rfl ?_
    exact N_L_1004_1004 C a b c0 k Ls xs hX hbl hbA hlt hdc cN sN hcN fa i S T U V q h hq
  rw [if_neg hx15] at h
  by_cases hx16 : x = (16 : Int32)
  · rw [if_pos hx16] at h
    refine r_tabIn (pc := 40) C 1060 dL_law_40 hx16 (by decide) (by decide) rfl rfl ?_
    exact N_L_1060_1060 C a b c0 k Ls xs hX hbl hbA hlt hdc cN sN hcN fa i S T U V q h hq
  rw [if_neg hx16] at h
  by_cases hx17 : x = (17 : Int32)
  · rw [if_pos hx17] at h
    refine r_tabIn (pc := 40) C 1128 dL_law_40 hx17 (by decide) (by decide) rfl rfl ?_
    exact N_L_1128_1128 C a b c0 k Ls xs hX hbl hbA hlt hdc cN sN hcN fa i S T U V q h hq
  rw [if_neg hx17] at h
  by_cases hx18 : x = (18 : Int32)
  · rw [if_pos hx18] at h
    refine r_tabIn (pc := 40) C 1141 dL_law_40 hx18 (by decide) (by decide) rfl rfl ?_
    exact N_L_1141_1141 C a b c0 k Ls xs hX hbl hbA hlt hdc cN sN hcN fa i S T U V q h hq
  rw [if_neg hx18] at h
  by_cases hx19 : x = (19 : Int32)
  · rw [if_pos hx19] at h
    refine r_tabIn (pc := 40) C 1197 dL_law_40 hx19 (by decide) (by decide) rfl rfl ?_
    exact N_L_1197_1197 C a b c0 k Ls xs hX hbl hbA hlt hdc cN sN hcN fa i S T U V q h hq
  rw [if_neg hx19] at h
  by_cases hx20 : x = (20 : Int32)
  · rw [if_pos hx20] at h
    refine r_tabIn (pc := 40) C 1253 dL_law_40 hx20 (by decide) (by decide) rfl rfl ?_
    exact N_L_1253_1253 C a b c0 k Ls xs hX hbl hbA hlt hdc cN sN hcN fa i S T U V q h hq
  rw [if_neg hx20] at h
  by_cases hx21 : x = (21 : Int32)
  · rw [if_pos hx21] at h
    refine r_tabIn (pc := 40) C 1309 dL_law_40 hx21 (by decide) (by decide) rfl rfl ?_
    exact N_L_1309_1309 C a b c0 k Ls xs hX hbl hbA hlt hdc cN sN hcN fa i S T U V q h hq
  rw [if_neg hx21] at h
  by_cases hx22 : x = (22 : Int32)
  · rw [if_pos hx22] at h
    refine r_tabIn (pc := 40) C 1350 dL_law_40 hx22 (by decide) (by decide) rfl rfl ?_
    exact N_L_1350_1350 C a b c0 k Ls xs hX hbl hbA hlt hdc cN sN hcN fa i S T U V q h hq
  rw [if_neg hx22] at h
  by_cases hx23 : x = (23 : Int32)
  · rw [if_pos hx23] at h
    refine r_tabIn (pc := 40) C 1393 dL_law_40 hx23 (by decide) (by decide) rfl rfl ?_
    exact N_L_1393_1393 C a b c0 k Ls xs hX hbl hbA hlt hdc cN sN hcN fa i S T U V q h hq
  rw [if_neg hx23] at h
  by_cases hx24 : x = (24 : Int32)
  · rw [if_pos hx24] at h
    refine r_tabIn (pc := 40) C 1489 dL_law_40 hx24 (by decide) (by decide) rfl rfl ?_
    exact N_L_1489_1489 C a b c0 k Ls xs hX hbl hbA hlt hdc cN sN hcN fa i S T U V q h hq
  rw [if_neg hx24] at h
  by_cases hx25 : x = (25 : Int32)
  · rw [if_pos hx25] at h
    refine r_tabIn (pc := 40) C 1545 dL_law_40 hx25 (by decide) (by decide) rfl rfl ?_
    exact N_L_1545_1545 C a b c0 k Ls xs hX hbl hbA hlt hdc cN sN hcN fa i S T U V q h hq
  rw [if_neg hx25] at h
  by_cases hx26 : x = (26 : Int32)
  · rw [if_pos hx26] at h
    refine r_tabIn (pc := 40) C 1601 dL_law_40 hx26 (by decide) (by decide) rfl rfl ?_
    exact N_L_1601_1601 C a b c0 k Ls xs hX hbl hbA hlt hdc cN sN hcN fa i S T U V q h hq
  rw [if_neg hx26] at h
  by_cases hx27 : x = (27 : Int32)
  · rw [if_pos hx27] at h
    refine r_tabIn (pc := 40) C 1669 dL_law_40 hx27 (by decide) (by decide) rfl rfl ?_
    exact N_L_1669_1669 C a b c0 k Ls xs hX hbl hbA hlt hdc cN sN hcN fa i S T U V q h hq
  rw [if_neg hx27] at h
  by_cases hx28 : x = (28 : Int32)
  · rw [if_pos hx28] at h
    refine r_tabIn (pc := 40) C 1725 dL_law_40 hx28 (by decide) (by decide) rfl rfl ?_
    exact N_L_1725_1725 C a b c0 k Ls xs hX hbl hbA hlt hdc cN sN hcN fa i S T U V q h hq
  rw [if_neg hx28] at h
  by_cases hx29 : x = (29 : Int32)
  · rw [if_pos hx29] at h
    refine r_tabIn (pc := 40) C 1781 dL_law_40 hx29 (by decide) (by decide) rfl rfl ?_
    exact N_L_1781_1781 C a b c0 k Ls xs hX hbl hbA hlt hdc cN sN hcN fa i S T U V q h hq
  rw [if_neg hx29] at h
  by_cases hx30 : x = (30 : Int32)
  · rw [if_pos hx30] at h
    refine r_tabIn (pc := 40) C 1849 dL_law_40 hx30 (by decide) (by decide) rfl rfl ?_
    exact N_L_1849_1849 C a b c0 k Ls xs hX hbl hbA hlt hdc cN sN hcN fa i S T U V q h hq
  rw [if_neg hx30] at h
  by_cases hx31 : x = (31 : Int32)
  · rw [if_pos hx31] at h
    refine r_tabIn (pc := 40) C 1905 dL_law_40 hx31 (by decide) (by decide) rfl rfl ?_
    exact N_L_1905_1905 C a b c0 k Ls xs hX hbl hbA hlt hdc cN sN hcN fa i S T U V q h hq
  rw [if_neg hx31] at h
  by_cases hx32 : x = (32 : Int32)
  · rw [if_pos hx32] at h
    refine r_tabIn (pc := 40) C 1930 dL_law_40 hx32 (by decide) (by decide) rfl rfl ?_
    exact N_L_1930_1930 C a b c0 k Ls xs hX hbl hbA hlt hdc cN sN hcN fa i S T U V q h hq
  rw [if_neg hx32] at h
  by_cases hx33 : x = (33 : Int32)
  · rw [if_pos hx33] at h
    refine r_tabIn (pc := 40) C 1943 dL_law_40 hx33 (by decide) (by decide) rfl rfl ?_
    exact N_L_1943_1943 C a b c0 k Ls xs hX hbl hbA hlt hdc cN sN hcN fa i S T U V q h hq
  rw [if_neg hx33] at h
  by_cases hx34 : x = (34 : Int32)
  · rw [if_pos hx34] at h
    refine r_tabIn (pc := 40) C 1956 dL_law_40 hx34 (by decide) (by decide) rfl rfl ?_
    exact N_L_1956_1956 C a b c0 k Ls xs hX hbl hbA hlt hdc cN sN hcN fa i S T U V q h hq
  rw [if_neg hx34] at h
  by_cases hx35 : x = (35 : Int32)
  · rw [if_pos hx35] at h
    refine r_tabIn (pc := 40) C 1967 dL_law_40 hx35 (by decide) (by decide) rfl rfl ?_
    exact N_L_1967_1967 C a b c0 k Ls xs hX hbl hbA hlt hdc cN sN hcN fa i S T U V q h hq
  rw [if_neg hx35] at h
  by_cases hx36 : x = (36 : Int32)
  · rw [if_pos hx36] at h
    refine r_tabIn (pc := 40) C 1980 dL_law_40 hx36 (by decide) (by decide) rfl rfl ?_
    exact N_L_1980_1980 C a b c0 k Ls xs hX hbl hbA hlt hdc cN sN hcN fa i S T U V q h hq
  rw [if_neg hx36] at h
  refine r_tabOut (pc := 40) C 2036 dL_law_40 (by have := lv_neT (a := 0) hx0 (by decide); have := lv_neT (a := 1) hx1 (by decide); have := lv_neT (a := 2) hx2 (by decide); have := lv_neT (a := 3) hx3 (by decide); have := lv_neT (a := 4) hx4 (by decide); have := lv_neT (a := 5) hx5 (by decide); have := lv_neT (a := 6) hx6 (by decide); have := lv_neT (a := 7) hx7 (by decide); have := lv_neT (a := 8) hx8 (by decide); have := lv_neT (a := 9) hx9 (by decide); have := lv_neT (a := 10) hx10 (by decide); have := lv_neT (a := 11) hx11 (by decide); have := lv_neT (a := 12) hx12 (by decide); have := lv_neT (a := 13) hx13 (by decide); have := lv_neT (a := 14) hx14 (by decide); have := lv_neT (a := 15) hx15 (by decide); have := lv_neT (a := 16) hx16 (by decide); have := lv_neT (a := 17) hx17 (by decide); have := lv_neT (a := 18) hx18 (by decide); have := lv_neT (a := 19) hx19 (by decide); have := lv_neT (a := 20) hx20 (by decide); have := lv_neT (a := 21) hx21 (by decide); have := lv_neT (a := 22) hx22 (by decide); have := lv_neT (a := 23) hx23 (by decide); have := lv_neT (a := 24) hx24 (by decide); have := lv_neT (a := 25) hx25 (by decide); have := lv_neT (a := 26) hx26 (by decide); have := lv_neT (a := 27) hx27 (by decide); have := lv_neT (a := 28) hx28 (by decide); have := lv_neT (a := 29) hx29 (by decide); have := lv_neT (a := 30) hx30 (by decide); have := lv_neT (a := 31) hx31 (by decide); have := lv_neT (a := 32) hx32 (by decide); have := lv_neT (a := 33) hx33 (by decide); have := lv_neT (a := 34) hx34 (by decide); have := lv_neT (a := 35) hx35 (by decide); have := lv_neT (a := 36) hx36 (by decide); omega) rfl ?_
  cases h
  refine r_widen (k1 := cN + 20) (n1 := sN + 1600) (by omega) (by omega) ?_
  exact hq fa
set_option maxRecDepth 100000 in
set_option maxHeartbeats 4000000 in
theorem law_loop (C : CX E p l s m #[Value.ref bs] meth c cL_law 9 RL ret A) (hAs : ∀ q, A q → s.heap.size ≤ q) (a b c0 : Nat → Nat) (k Ls : Nat) (xs : Nat → Int32) (hX : va_X bs Ls xs s s.heap) (hbl : bs < s.heap.size) (hbA : ¬ A bs) (hlt : l.stackTraces = false) (hdc : DC s) : ∀ (n : Nat) (cN sN : Nat) (fa : Nat → Nat → Nat) (i : Int32) (S : VV × VV × VV × VV × VV × Int32) (T : Nat → Nat → Int32) (U : Nat → Int64) (V : Nat × Int32 × Int32 × (Nat → VV)), cN + 20 * n ≤ 601024 → sN + 1600 * n ≤ 7293034 → M_law k Ls xs n i S T U V = some () →
    WW E p l e room_1 s m #[Value.ref bs] below meth c A cN sN (lw_Z below #[Value.ref bs] s) (wSg E a S ++ wMd E b T ++ wLo E c0 U ++ wHi E a fa V) 9 [some (.ref bs), some (.ref (a 0)), some (.ref (b 0)), some (.ref (c0 0)), some (.int i), none, none, none, none] 23 [] := by
  intro n
  induction n with
  | zero => intro cN sN fa i S T U V _ _ h; cases h
  | succ n ih =>
    intro cN sN fa i S T U V h1 h2 h
    rw [M_law_s] at h
    refine r_iload (pc := 23) C (i := 4) dL_law_23 rfl ?_
    refine r_aload_n (pc := 25) C (i := 0) dL_law_25 rfl rfl ?_
    refine r_slen (pc := 26) C hX hbl hbA dL_law_26 ?_
    refine r_bipush (pc := 27) C (v := 6) dL_law_27 (by decide) ?_
    refine r_isub (pc := 29) C dL_law_29 ?_
    refine r_icmp_gt (pc := 30) C (tgt := 2042) dL_law_30 rfl (fun g => ?_) (fun g => ?_)
    · refine r_iconst (pc := 2042) C (v := 1) dL_law_2042 (by decide) ?_
      intro H locs ls hP hD hS hl
      refine va_forget (fun q hq => hAs _ (hS.2.2 q hq)) ?_
      refine W.widen (k := 601024) (n := 7293034) (by omega) (by omega) ?_
      exact lw_ret (d0 := s.drawn) (Drawn.sameBut.refl s.drawn lw_cs) C.1 C.2.1 C.2.2.2.2.2.2.2.2.2 C.2.2.2.2.2.2.2.2.1 dL_law_2043
    · rw [if_neg g] at h
      obtain ⟨hin, h⟩ := ifn h
      obtain ⟨q, hq, h⟩ := bnd h
      refine r_aload_n (pc := 33) C (i := 0) dL_law_33 rfl rfl ?_
      refine r_iload (pc := 34) C (i := 4) dL_law_34 rfl ?_
      refine r_sld (pc := 36) C hX hbl hbA hin dL_law_36 ?_
      refine r_bipush (pc := 37) C (v := 63) dL_law_37 (by decide) ?_
      refine r_iand (pc := 39) C dL_law_39 ?_
      refine law_case C a b c0 k Ls xs hX hbl hbA hlt hdc cN sN ⟨by omega, by omega⟩ fa i _ S T U V q hq (fun fa' => ?_)
      refine r_iinc (pc := 2036) C (v := (i + 6)) dL_law_2036 rfl rfl (by decide) rfl ?_
      refine r_goto (pc := 2039) C (tgt := 23) dL_law_2039 rfl ?_
      exact ih (cN + 20) (sN + 1600) fa' (i + 6) q.1 q.2.1 q.2.2.1 q.2.2.2 (by omega) (by omega) h
end WALKS
