section WALKS
variable {E : ENV} {p : Program} {l : Launch} {e : Env} {s : State} {m : MethodId} {args : Array Value} {below : List Frame} {meth : Method} {c : Code} {A : Nat → Prop} {bs : Nat}
theorem hd_X10_move : yX10_move.cls = RX10 ∧ yX10_move.cls ≠ "java/lang/invoke/MethodHandle" ∧ yX10_move.cls ≠ "java/lang/invoke/VarHandle" ∧ (parseMethodDescriptor yX10_move.desc).map (fun d => d.parameters.length) = some 2 := by decide +kernel
theorem g_L_194 : GoodIn GW (wsV RL 194 RX10 yX10_move (wsG yX10_move cX10_move 4 (some .int))) := gw_V wm_7_139 wm_7_140 wm_7_141 wm_1_9 wm_7_142
theorem hd_L_move : yL_move.cls = RL ∧ yL_move.cls ≠ "java/lang/invoke/MethodHandle" ∧ yL_move.cls ≠ "java/lang/invoke/VarHandle" ∧ (parseMethodDescriptor yL_move.desc).map (fun d => d.parameters.length) = some 4 := by decide +kernel
theorem gL_192 : GoodIn GW (va_wsS RL 192 yL_move (Cond.codeWith yL_move cL_move 5 (some .int) [(0, 10, 13, 18), (0, 10, 17, 13)] :: GW)) := gw_SW wm_5_27 wm_5_28 wm_1_0 wm_5_29
-- the law from 1601
theorem dL_law_1601 : decode cL_law 1601 = .ok (.aload_n 1, 1) := by decide +kernel
theorem dL_law_1602 : decode cL_law 1602 = .ok (.aload_n 0, 1) := by decide +kernel
theorem dL_law_1603 : decode cL_law 1603 = .ok (.iload 4, 2) := by decide +kernel
theorem dL_law_1605 : decode cL_law 1605 = .ok (.iconst 1, 1) := by decide +kernel
theorem dL_law_1606 : decode cL_law 1606 = .ok (.iadd, 1) := by decide +kernel
theorem dL_law_1607 : decode cL_law 1607 = .ok (.iaload, 1) := by decide +kernel
theorem dL_law_1608 : decode cL_law 1608 = .ok (.aload_n 0, 1) := by decide +kernel
theorem dL_law_1609 : decode cL_law 1609 = .ok (.iload 4, 2) := by decide +kernel
theorem dL_law_1611 : decode cL_law 1611 = .ok (.iconst 2, 1) := by decide +kernel
theorem dL_law_1612 : decode cL_law 1612 = .ok (.iadd, 1) := by decide +kernel
theorem dL_law_1613 : decode cL_law 1613 = .ok (.iaload, 1) := by decide +kernel
theorem dL_law_1614 : decode cL_law 1614 = .ok (.aload_n 3, 1) := by decide +kernel
theorem dL_law_1615 : decode cL_law 1615 = .ok (.invokestatic 192, 3) := by decide +kernel
theorem dL_law_1618 : decode cL_law 1618 = .ok (.istore 5, 2) := by decide +kernel
theorem dL_law_1620 : decode cL_law 1620 = .ok (.aload_n 2, 1) := by decide +kernel
theorem dL_law_1621 : decode cL_law 1621 = .ok (.aload_n 0, 1) := by decide +kernel
theorem dL_law_1622 : decode cL_law 1622 = .ok (.iload 4, 2) := by decide +kernel
theorem dL_law_1624 : decode cL_law 1624 = .ok (.iconst 1, 1) := by decide +kernel
theorem dL_law_1625 : decode cL_law 1625 = .ok (.iadd, 1) := by decide +kernel
theorem dL_law_1626 : decode cL_law 1626 = .ok (.iaload, 1) := by decide +kernel
theorem dL_law_1627 : decode cL_law 1627 = .ok (.aload_n 0, 1) := by decide +kernel
theorem dL_law_1628 : decode cL_law 1628 = .ok (.iload 4, 2) := by decide +kernel
theorem dL_law_1630 : decode cL_law 1630 = .ok (.iconst 2, 1) := by decide +kernel
theorem dL_law_1631 : decode cL_law 1631 = .ok (.iadd, 1) := by decide +kernel
theorem dL_law_1632 : decode cL_law 1632 = .ok (.iaload, 1) := by decide +kernel
theorem dL_law_1633 : decode cL_law 1633 = .ok (.invokevirtual 194, 3) := by decide +kernel
theorem dL_law_1636 : decode cL_law 1636 = .ok (.istore 6, 2) := by decide +kernel
theorem dL_law_1638 : decode cL_law 1638 = .ok (.aload_n 2, 1) := by decide +kernel
theorem dL_law_1639 : decode cL_law 1639 = .ok (.invokevirtual 106, 3) := by decide +kernel
theorem dL_law_1642 : decode cL_law 1642 = .ok (.iload 5, 2) := by decide +kernel
theorem dL_law_1644 : decode cL_law 1644 = .ok (.if_icmp .eq 5, 3) := by decide +kernel
theorem dL_law_1647 : decode cL_law 1647 = .ok (.iconst 0, 1) := by decide +kernel
theorem dL_law_1648 : decode cL_law 1648 = .ok (.ireturn, 1) := by decide +kernel
theorem dL_law_1649 : decode cL_law 1649 = .ok (.iload 5, 2) := by decide +kernel
theorem dL_law_1651 : decode cL_law 1651 = .ok (.ifCond .ne 15, 3) := by decide +kernel
theorem dL_law_1654 : decode cL_law 1654 = .ok (.aload_n 3, 1) := by decide +kernel
theorem dL_law_1655 : decode cL_law 1655 = .ok (.iconst 0, 1) := by decide +kernel
theorem dL_law_1656 : decode cL_law 1656 = .ok (.laload, 1) := by decide +kernel
theorem dL_law_1657 : decode cL_law 1657 = .ok (.iload 6, 2) := by decide +kernel
theorem dL_law_1659 : decode cL_law 1659 = .ok (.i2l, 1) := by decide +kernel
theorem dL_law_1660 : decode cL_law 1660 = .ok (.lcmp, 1) := by decide +kernel
theorem dL_law_1661 : decode cL_law 1661 = .ok (.ifCond .eq 5, 3) := by decide +kernel
theorem dL_law_1664 : decode cL_law 1664 = .ok (.iconst 0, 1) := by decide +kernel
theorem dL_law_1665 : decode cL_law 1665 = .ok (.ireturn, 1) := by decide +kernel
theorem dL_law_1666 : decode cL_law 1666 = .ok (.goto 370, 3) := by decide +kernel
def M_L_1601_1601 (k Ls : Nat) (xs : Nat → Int32) (x4 : Int32) (S : VV × VV × VV × VV × VV × Int32) (T : Nat → Nat → Int32) (U : Nat → Int64) (V : Nat × Int32 × Int32 × (Nat → VV)) : Option ((VV × VV × VV × VV × VV × Int32) × (Nat → Nat → Int32) × (Nat → Int64) × (Nat × Int32 × Int32 × (Nat → VV))) := (if inb (x4 + (1 : Int32)) Ls = true then (if inb (x4 + (2 : Int32)) Ls = true then (M_L_move k S V U (xs (x4 + (1 : Int32)).toNatClampNeg) (xs (x4 + (2 : Int32)).toNatClampNeg)).bind fun q3 => (if inb (x4 + (1 : Int32)) Ls = true then (if inb (x4 + (2 : Int32)) Ls = true then (M_X10_move k T (xs (x4 + (1 : Int32)).toNatClampNeg) (xs (x4 + (2 : Int32)).toNatClampNeg)).bind fun q7 => (M_X10_thrown k q7.2).bind fun q8 => if q8 = q3.1 then (if q3.1 = 0 then ((if inb (0 : Int32) 1 = true then if (lg_cmp (q3.2.2.2 (0 : Int32).toNatClampNeg) (q7.1.toInt64)) = 0 then (some (q3.2.1, q7.2, q3.2.2.2, q3.2.2.1)) else (none) else none)) else (some (q3.2.1, q7.2, q3.2.2.2, q3.2.2.1))) else (none) else none) else none) else none) else none)
set_option maxRecDepth 100000 in
set_option maxHeartbeats 4000000 in
theorem N_L_1601_1601 (C : CX E p l s m #[Value.ref bs] meth c cL_law 9 RL ret A) (a : Nat → Nat) (b : Nat → Nat) (c0 : Nat → Nat) (k Ls : Nat) (xs : Nat → Int32) (hX : va_X bs Ls xs s s.heap) (hbl : bs < s.heap.size) (hbA : ¬ A bs) (hlt : l.stackTraces = false) (hdc : DC s) (cN sN : Nat) (hcN : cN + 20 ≤ 601024 ∧ sN + 1600 ≤ 7293034) (fa : Nat → Nat → Nat) :
    ∀ (x4 : Int32) (S : VV × VV × VV × VV × VV × Int32) (T : Nat → Nat → Int32) (U : Nat → Int64) (V : Nat × Int32 × Int32 × (Nat → VV)) (q : (VV × VV × VV × VV × VV × Int32) × (Nat → Nat → Int32) × (Nat → Int64) × (Nat × Int32 × Int32 × (Nat → VV))), M_L_1601_1601 k Ls xs x4 S T U V = some q → (∀ fa' : Nat → Nat → Nat, WW E p l e room_1 s m #[Value.ref bs] below meth c A (cN + 20) (sN + 1600) (lw_Z below #[Value.ref bs] s) (wSg E a q.1 ++ wMd E b q.2.1 ++ wLo E c0 q.2.2.1 ++ wHi E a fa' q.2.2.2) 9 [some (.ref bs), some (.ref (a 0)), some (.ref (b 0)), some (.ref (c0 0)), some (.int x4), none, none, none, none] 2036 []) →
      WW E p l e room_1 s m #[Value.ref bs] below meth c A (cN + 0) (sN + 0) (lw_Z below #[Value.ref bs] s) (wSg E a S ++ wMd E b T ++ wLo E c0 U ++ wHi E a fa V) 9 [some (.ref bs), some (.ref (a 0)), some (.ref (b 0)), some (.ref (c0 0)), some (.int x4), none, none, none, none] 1601 [] := by
  intro x4 S T U V q  h hq
  unfold M_L_1601_1601 at h
  refine r_aload_n (pc := 1601) C (i := 1) dL_law_1601 rfl rfl ?_
  refine r_aload_n (pc := 1602) C (i := 0) dL_law_1602 rfl rfl ?_
  refine r_iload (pc := 1603) C (i := 4) dL_law_1603 rfl ?_
  refine r_iconst (pc := 1605) C (v := 1) dL_law_1605 (by decide) ?_
  refine r_iadd (pc := 1606) C dL_law_1606 ?_
  obtain ⟨hi1, h⟩ := ifn h
  refine r_sld (pc := 1607) C hX hbl hbA hi1 dL_law_1607 ?_
  refine r_aload_n (pc := 1608) C (i := 0) dL_law_1608 rfl rfl ?_
  refine r_iload (pc := 1609) C (i := 4) dL_law_1609 rfl ?_
  refine r_iconst (pc := 1611) C (v := 2) dL_law_1611 (by decide) ?_
  refine r_iadd (pc := 1612) C dL_law_1612 ?_
  obtain ⟨hi2, h⟩ := ifn h
  refine r_sld (pc := 1613) C hX hbl hbA hi2 dL_law_1613 ?_
  refine r_aload_n (pc := 1614) C (i := 3) dL_law_1614 rfl rfl ?_
  obtain ⟨q3, hq3, h⟩ := bnd h
  refine r_callSHT (c0 := (wSg E a S ++ ([(c0 0, .inl (eC E 1, 1, .inr (.inl U)))] ++ hiC E a fa V))) (w0 := (wSg E a S ++ wMd E b T ++ wLo E c0 U ++ hiC E a fa V)) (t := hiT E fa V) (pc := 1615) C [.ref (a 0), .int (xs (x4 + (1 : Int32)).toNatClampNeg), .int (xs (x4 + (2 : Int32)).toNatClampNeg), .ref (c0 0)] hdc (c_L_move E l k a (c0 0) fa S V U (xs (x4 + (1 : Int32)).toNatClampNeg) (xs (x4 + (2 : Int32)).toNatClampNeg) hlt hq3) [0, 1, 2, 3, 4, 5, 6, 7, 8, 9, 10, 11, 12, 13, 14, 15, 16, 17, 18, 19, 20, 21, 22, 23, 24, 25, 26, 27, 28, 29, 30, 31, 32, 33, 34, 35, 36, 37, 38, 39, 40, 41, 42, 43, 44, 45, 46, 47, 48, 49, 50, 51, 52, 53, 54, 55, 56, 57, 58, 59, 60, 74, 75, 76] (hpL2 E a b c0 fa S T U V) (by decide) gL_192 hd_L_move.2 ⟨Nat.le_of_ble_eq_true rfl, Nat.le_of_ble_eq_true rfl⟩ ⟨by have h1 : room_1.cells = 601024 := rfl; have h2 := hcN.1; simp only [Nat.le_refl, rm_L_move]; omega, by have h1 : room_1.slots = 7293034 := rfl; have h2 := hcN.2; simp only [Nat.le_refl, rm_L_move]; omega⟩ (Nat.le_of_ble_eq_true rfl) rfl dL_law_1615 (List.append_assoc _ _ _).symm (fun r w1 hw1 => ?_)
  obtain ⟨hr1, fa4, hw1, hmo⟩ := hw1
  subst hr1 hw1
  refine ⟨(wSg E a q3.2.1 ++ ([(c0 0, .inl (eC E 1, 1, .inr (.inl q3.2.2.2)))] ++ hiC E a fa4 q3.2.2.1)), hiT E fa4 q3.2.2.1, (wSg E a q3.2.1 ++ wMd E b T ++ wLo E c0 q3.2.2.2 ++ hiC E a fa4 q3.2.2.1), rfl, ?_, ?_, ?_, ?_⟩
  · exact len_L2 E a (c0 0) fa fa4 S q3.2.1 U q3.2.2.2 V q3.2.2.1
  · exact hiT_le hmo
  · exact pwL2 E a b c0 fa fa4 S T U V q3.2.1 q3.2.2.2 q3.2.2.1
  refine r_world (w' := (wSg E a q3.2.1 ++ wMd E b T ++ wLo E c0 q3.2.2.2 ++ wHi E a fa4 q3.2.2.1)) (List.append_assoc _ _ _) ?_
  refine r_istore (pc := 1618) C (i := 5) dL_law_1618 (by decide) rfl ?_
  refine r_aload_n (pc := 1620) C (i := 2) dL_law_1620 rfl rfl ?_
  refine r_aload_n (pc := 1621) C (i := 0) dL_law_1621 rfl rfl ?_
  refine r_iload (pc := 1622) C (i := 4) dL_law_1622 rfl ?_
  refine r_iconst (pc := 1624) C (v := 1) dL_law_1624 (by decide) ?_
  refine r_iadd (pc := 1625) C dL_law_1625 ?_
  obtain ⟨hi5, h⟩ := ifn h
  refine r_sld (pc := 1626) C hX hbl hbA hi5 dL_law_1626 ?_
  refine r_aload_n (pc := 1627) C (i := 0) dL_law_1627 rfl rfl ?_
  refine r_iload (pc := 1628) C (i := 4) dL_law_1628 rfl ?_
  refine r_iconst (pc := 1630) C (v := 2) dL_law_1630 (by decide) ?_
  refine r_iadd (pc := 1631) C dL_law_1631 ?_
  obtain ⟨hi6, h⟩ := ifn h
  refine r_sld (pc := 1632) C hX hbl hbA hi6 dL_law_1632 ?_
  obtain ⟨q7, hq7, h⟩ := bnd h
  refine r_callV_CI (Cn := RX10) (pc := 1633) C [.int (xs (x4 + (1 : Int32)).toNatClampNeg), .int (xs (x4 + (2 : Int32)).toNatClampNeg)] (c_X10_move E l k b T (xs (x4 + (1 : Int32)).toNatClampNeg) (xs (x4 + (2 : Int32)).toNatClampNeg) hq7) [61, 62, 63, 64, 65, 66, 67, 68, 69, 70, 71, 72, 73] (hps_hi (List.append_assoc _ _ _).symm (hp_L_204_1 E a b c0 fa4 q3.2.1 T q3.2.2.2 q3.2.2.1)) (by decide) 0 rfl rfl rfl g_L_194 hd_X10_move ⟨Nat.le_of_ble_eq_true rfl, Nat.le_of_ble_eq_true rfl⟩ ⟨by have h1 : room_1.cells = 601024 := rfl; have h2 := hcN.1; simp only [Nat.le_refl, rm_L_move, rm_X10_move]; omega, by have h1 : room_1.slots = 7293034 := rfl; have h2 := hcN.2; simp only [Nat.le_refl, rm_L_move, rm_X10_move]; omega⟩ (Nat.le_of_ble_eq_true rfl) rfl dL_law_1633 (fun r w1 hw1 => ?_)
  obtain ⟨hr1, hw1⟩ := hw1
  subst hr1 hw1
  refine ⟨(wSg E a q3.2.1 ++ wMd E b q7.2 ++ wLo E c0 q3.2.2.2 ++ wHi E a fa4 q3.2.2.1), by exact putW_hi (List.append_assoc _ _ _).symm (List.append_assoc _ _ _).symm (hp_L_204_1 E a b c0 fa4 q3.2.1 T q3.2.2.2 q3.2.2.1) rfl (pw_L_204_1 E a b c0 fa4 q3.2.1 T q3.2.2.2 q3.2.2.1 q7.2), ?_⟩
  refine r_istore (pc := 1636) C (i := 6) dL_law_1636 (by decide) rfl ?_
  refine r_aload_n (pc := 1638) C (i := 2) dL_law_1638 rfl rfl ?_
  obtain ⟨q8, hq8, h⟩ := bnd h
  refine r_callVp_CI (Cn := RX10) (pc := 1639) C [] (c_X10_thrown E l k b q7.2 hq8) [61, 62, 63, 64, 65, 66, 67, 68, 69, 70, 71, 72, 73] (hps_hi (List.append_assoc _ _ _).symm (hp_L_204_1 E a b c0 fa4 q3.2.1 q7.2 q3.2.2.2 q3.2.2.1)) (by decide) 0 rfl rfl rfl g_L_106 hd_X10_thrown ⟨Nat.le_of_ble_eq_true rfl, Nat.le_of_ble_eq_true rfl⟩ ⟨by have h1 : room_1.cells = 601024 := rfl; have h2 := hcN.1; simp only [Nat.le_refl, rm_L_move, rm_X10_move, rm_X10_thrown]; omega, by have h1 : room_1.slots = 7293034 := rfl; have h2 := hcN.2; simp only [Nat.le_refl, rm_L_move, rm_X10_move, rm_X10_thrown]; omega⟩ (Nat.le_of_ble_eq_true rfl) rfl dL_law_1639 (fun r hr => ?_)
  have hr := hr.symm
  subst hr
  refine r_iload (pc := 1642) C (i := 5) dL_law_1642 rfl ?_
  refine r_icmp_eq (pc := 1644) C (tgt := 1649) dL_law_1644 rfl (fun c9 => ?_) (fun c9 => ?_)
  · rw [if_pos c9] at h
    refine r_iload (pc := 1649) C (i := 5) dL_law_1649 rfl ?_
    refine r_if_ne (pc := 1651) C (tgt := 1666) dL_law_1651 rfl (fun c10 => ?_) (fun c10 => ?_)
    · rw [if_neg c10] at h
      refine r_goto (pc := 1666) C (tgt := 2036) dL_law_1666 rfl ?_
      cases h
      refine r_widen (k1 := cN + 20) (n1 := sN + 1600) (by simp only [Nat.le_refl, rm_L_move, rm_X10_move, rm_X10_thrown]; omega) (by simp only [Nat.le_refl, rm_L_move, rm_X10_move, rm_X10_thrown]; omega) ?_
      refine r_weak (lSub_s (lSub_s (lSub_s (lSub_s (lSub_s (lSub_n (lSub_n (lSub_n (lSub_n lSub_e))))))))) ?_
      exact hq fa4
    · rw [if_pos c10] at h
      refine r_aload_n (pc := 1654) C (i := 3) dL_law_1654 rfl rfl ?_
      refine r_iconst (pc := 1655) C (v := 0) dL_law_1655 (by decide) ?_
      obtain ⟨hi11, h⟩ := ifn h
      refine r_lald (pc := 1656) C 74 rfl hi11 dL_law_1656 ?_
      refine r_iload (pc := 1657) C (i := 6) dL_law_1657 rfl ?_
      refine r_i2l (pc := 1659) C dL_law_1659 ?_
      refine r_lcmp (pc := 1660) C dL_law_1660 ?_
      refine r_if_eq (pc := 1661) C (tgt := 1666) dL_law_1661 rfl (fun c12 => ?_) (fun c12 => ?_)
      · rw [if_pos c12] at h
        refine r_goto (pc := 1666) C (tgt := 2036) dL_law_1666 rfl ?_
        cases h
        refine r_widen (k1 := cN + 20) (n1 := sN + 1600) (by simp only [Nat.le_refl, rm_L_move, rm_X10_move, rm_X10_thrown]; omega) (by simp only [Nat.le_refl, rm_L_move, rm_X10_move, rm_X10_thrown]; omega) ?_
        refine r_weak (lSub_s (lSub_s (lSub_s (lSub_s (lSub_s (lSub_n (lSub_n (lSub_n (lSub_n lSub_e))))))))) ?_
        exact hq fa4
      · rw [if_neg c12] at h
        refine r_iconst (pc := 1664) C (v := 0) dL_law_1664 (by decide) ?_
        cases h
  · rw [if_neg c9] at h
    refine r_iconst (pc := 1647) C (v := 0) dL_law_1647 (by decide) ?_
    cases h
theorem hd_X10_draw : yX10_draw.cls = RX10 ∧ yX10_draw.cls ≠ "java/lang/invoke/MethodHandle" ∧ yX10_draw.cls ≠ "java/lang/invoke/VarHandle" ∧ (parseMethodDescriptor yX10_draw.desc).map (fun d => d.parameters.length) = some 1 := by decide +kernel
theorem g_L_197 : GoodIn GW (wsV RL 197 RX10 yX10_draw (wsG yX10_draw cX10_draw 2 (some .int))) := gw_V wm_7_143 wm_7_144 wm_7_145 wm_1_9 wm_7_146
theorem hd_L_draw : yL_draw.cls = RL ∧ yL_draw.cls ≠ "java/lang/invoke/MethodHandle" ∧ yL_draw.cls ≠ "java/lang/invoke/VarHandle" ∧ (parseMethodDescriptor yL_draw.desc).map (fun d => d.parameters.length) = some 3 := by decide +kernel
theorem gL_195 : GoodIn GW (va_wsS RL 195 yL_draw (Cond.codeWith yL_draw cL_draw 4 (some .int) [(0, 9, 12, 13)] :: GW)) := gw_SW wm_5_37 wm_5_38 wm_1_0 wm_5_39
-- the law from 1669
theorem dL_law_1669 : decode cL_law 1669 = .ok (.aload_n 1, 1) := by decide +kernel
theorem dL_law_1670 : decode cL_law 1670 = .ok (.aload_n 0, 1) := by decide +kernel
theorem dL_law_1671 : decode cL_law 1671 = .ok (.iload 4, 2) := by decide +kernel
theorem dL_law_1673 : decode cL_law 1673 = .ok (.iconst 1, 1) := by decide +kernel
theorem dL_law_1674 : decode cL_law 1674 = .ok (.iadd, 1) := by decide +kernel
theorem dL_law_1675 : decode cL_law 1675 = .ok (.iaload, 1) := by decide +kernel
theorem dL_law_1676 : decode cL_law 1676 = .ok (.aload_n 3, 1) := by decide +kernel
theorem dL_law_1677 : decode cL_law 1677 = .ok (.invokestatic 195, 3) := by decide +kernel
theorem dL_law_1680 : decode cL_law 1680 = .ok (.istore 5, 2) := by decide +kernel
theorem dL_law_1682 : decode cL_law 1682 = .ok (.aload_n 2, 1) := by decide +kernel
theorem dL_law_1683 : decode cL_law 1683 = .ok (.aload_n 0, 1) := by decide +kernel
theorem dL_law_1684 : decode cL_law 1684 = .ok (.iload 4, 2) := by decide +kernel
theorem dL_law_1686 : decode cL_law 1686 = .ok (.iconst 1, 1) := by decide +kernel
theorem dL_law_1687 : decode cL_law 1687 = .ok (.iadd, 1) := by decide +kernel
theorem dL_law_1688 : decode cL_law 1688 = .ok (.iaload, 1) := by decide +kernel
theorem dL_law_1689 : decode cL_law 1689 = .ok (.invokevirtual 197, 3) := by decide +kernel
theorem dL_law_1692 : decode cL_law 1692 = .ok (.istore 6, 2) := by decide +kernel
theorem dL_law_1694 : decode cL_law 1694 = .ok (.aload_n 2, 1) := by decide +kernel
theorem dL_law_1695 : decode cL_law 1695 = .ok (.invokevirtual 106, 3) := by decide +kernel
theorem dL_law_1698 : decode cL_law 1698 = .ok (.iload 5, 2) := by decide +kernel
theorem dL_law_1700 : decode cL_law 1700 = .ok (.if_icmp .eq 5, 3) := by decide +kernel
theorem dL_law_1703 : decode cL_law 1703 = .ok (.iconst 0, 1) := by decide +kernel
theorem dL_law_1704 : decode cL_law 1704 = .ok (.ireturn, 1) := by decide +kernel
theorem dL_law_1705 : decode cL_law 1705 = .ok (.iload 5, 2) := by decide +kernel
theorem dL_law_1707 : decode cL_law 1707 = .ok (.ifCond .ne 15, 3) := by decide +kernel
theorem dL_law_1710 : decode cL_law 1710 = .ok (.aload_n 3, 1) := by decide +kernel
theorem dL_law_1711 : decode cL_law 1711 = .ok (.iconst 0, 1) := by decide +kernel
theorem dL_law_1712 : decode cL_law 1712 = .ok (.laload, 1) := by decide +kernel
theorem dL_law_1713 : decode cL_law 1713 = .ok (.iload 6, 2) := by decide +kernel
theorem dL_law_1715 : decode cL_law 1715 = .ok (.i2l, 1) := by decide +kernel
theorem dL_law_1716 : decode cL_law 1716 = .ok (.lcmp, 1) := by decide +kernel
theorem dL_law_1717 : decode cL_law 1717 = .ok (.ifCond .eq 5, 3) := by decide +kernel
theorem dL_law_1720 : decode cL_law 1720 = .ok (.iconst 0, 1) := by decide +kernel
theorem dL_law_1721 : decode cL_law 1721 = .ok (.ireturn, 1) := by decide +kernel
theorem dL_law_1722 : decode cL_law 1722 = .ok (.goto 314, 3) := by decide +kernel
def M_L_1669_1669 (k Ls : Nat) (xs : Nat → Int32) (x4 : Int32) (S : VV × VV × VV × VV × VV × Int32) (T : Nat → Nat → Int32) (U : Nat → Int64) (V : Nat × Int32 × Int32 × (Nat → VV)) : Option ((VV × VV × VV × VV × VV × Int32) × (Nat → Nat → Int32) × (Nat → Int64) × (Nat × Int32 × Int32 × (Nat → VV))) := (if inb (x4 + (1 : Int32)) Ls = true then (M_L_draw k S V U (xs (x4 + (1 : Int32)).toNatClampNeg)).bind fun q2 => (if inb (x4 + (1 : Int32)) Ls = true then (M_X10_draw k T (xs (x4 + (1 : Int32)).toNatClampNeg)).bind fun q5 => (M_X10_thrown k q5.2).bind fun q6 => if q6 = q2.1 then (if q2.1 = 0 then ((if inb (0 : Int32) 1 = true then if (lg_cmp (q2.2.2.2 (0 : Int32).toNatClampNeg) (q5.1.toInt64)) = 0 then (some (q2.2.1, q5.2, q2.2.2.2, q2.2.2.1)) else (none) else none)) else (some (q2.2.1, q5.2, q2.2.2.2, q2.2.2.1))) else (none) else none) else none)
set_option maxRecDepth 100000 in
set_option maxHeartbeats 4000000 in
theorem N_L_1669_1669 (C : CX E p l s m #[Value.ref bs] meth c cL_law 9 RL ret A) (a : Nat → Nat) (b : Nat → Nat) (c0 : Nat → Nat) (k Ls : Nat) (xs : Nat → Int32) (hX : va_X bs Ls xs s s.heap) (hbl : bs < s.heap.size) (hbA : ¬ A bs) (hlt : l.stackTraces = false) (hdc : DC s) (cN sN : Nat) (hcN : cN + 20 ≤ 601024 ∧ sN + 1600 ≤ 7293034) (fa : Nat → Nat → Nat) :
    ∀ (x4 : Int32) (S : VV × VV × VV × VV × VV × Int32) (T : Nat → Nat → Int32) (U : Nat → Int64) (V : Nat × Int32 × Int32 × (Nat → VV)) (q : (VV × VV × VV × VV × VV × Int32) × (Nat → Nat → Int32) × (Nat → Int64) × (Nat × Int32 × Int32 × (Nat → VV))), M_L_1669_1669 k Ls xs x4 S T U V = some q → (∀ fa' : Nat → Nat → Nat, WW E p l e room_1 s m #[Value.ref bs] below meth c A (cN + 20) (sN + 1600) (lw_Z below #[Value.ref bs] s) (wSg E a q.1 ++ wMd E b q.2.1 ++ wLo E c0 q.2.2.1 ++ wHi E a fa' q.2.2.2) 9 [some (.ref bs), some (.ref (a 0)), some (.ref (b 0)), some (.ref (c0 0)), some (.int x4), none, none, none, none] 2036 []) →
      WW E p l e room_1 s m #[Value.ref bs] below meth c A (cN + 0) (sN + 0) (lw_Z below #[Value.ref bs] s) (wSg E a S ++ wMd E b T ++ wLo E c0 U ++ wHi E a fa V) 9 [some (.ref bs), some (.ref (a 0)), some (.ref (b 0)), some (.ref (c0 0)), some (.int x4), none, none, none, none] 1669 [] := by
  intro x4 S T U V q  h hq
  unfold M_L_1669_1669 at h
  refine r_aload_n (pc := 1669) C (i := 1) dL_law_1669 rfl rfl ?_
  refine r_aload_n (pc := 1670) C (i := 0) dL_law_1670 rfl rfl ?_
  refine r_iload (pc := 1671) C (i := 4) dL_law_1671 rfl ?_
  refine r_iconst (pc := 1673) C (v := 1) dL_law_1673 (by decide) ?_
  refine r_iadd (pc := 1674) C dL_law_1674 ?_
  obtain ⟨hi1, h⟩ := ifn h
  refine r_sld (pc := 1675) C hX hbl hbA hi1 dL_law_1675 ?_
  refine r_aload_n (pc := 1676) C (i := 3) dL_law_1676 rfl rfl ?_
  obtain ⟨q2, hq2, h⟩ := bnd h
  refine r_callSHT (c0 := (wSg E a S ++ ([(c0 0, .inl (eC E 1, 1, .inr (.inl U)))] ++ hiC E a fa V))) (w0 := (wSg E a S ++ wMd E b T ++ wLo E c0 U ++ hiC E a fa V)) (t := hiT E fa V) (pc := 1677) C [.ref (a 0), .int (xs (x4 + (1 : Int32)).toNatClampNeg), .ref (c0 0)] hdc (c_L_draw E l k a (c0 0) fa S V U (xs (x4 + (1 : Int32)).toNatClampNeg) hlt hq2) [0, 1, 2, 3, 4, 5, 6, 7, 8, 9, 10, 11, 12, 13, 14, 15, 16, 17, 18, 19, 20, 21, 22, 23, 24, 25, 26, 27, 28, 29, 30, 31, 32, 33, 34, 35, 36, 37, 38, 39, 40, 41, 42, 43, 44, 45, 46, 47, 48, 49, 50, 51, 52, 53, 54, 55, 56, 57, 58, 59, 60, 74, 75, 76] (hpL2 E a b c0 fa S T U V) (by decide) gL_195 hd_L_draw.2 ⟨Nat.le_of_ble_eq_true rfl, Nat.le_of_ble_eq_true rfl⟩ ⟨by have h1 : room_1.cells = 601024 := rfl; have h2 := hcN.1; simp only [Nat.le_refl, rm_L_draw]; omega, by have h1 : room_1.slots = 7293034 := rfl; have h2 := hcN.2; simp only [Nat.le_refl, rm_L_draw]; omega⟩ (Nat.le_of_ble_eq_true rfl) rfl dL_law_1677 (List.append_assoc _ _ _).symm (fun r w1 hw1 => ?_)
  obtain ⟨hr1, fa3, hw1, hmo⟩ := hw1
  subst hr1 hw1
  refine ⟨(wSg E a q2.2.1 ++ ([(c0 0, .inl (eC E 1, 1, .inr (.inl q2.2.2.2)))] ++ hiC E a fa3 q2.2.2.1)), hiT E fa3 q2.2.2.1, (wSg E a q2.2.1 ++ wMd E b T ++ wLo E c0 q2.2.2.2 ++ hiC E a fa3 q2.2.2.1), rfl, ?_, ?_, ?_, ?_⟩
  · exact len_L2 E a (c0 0) fa fa3 S q2.2.1 U q2.2.2.2 V q2.2.2.1
  · exact hiT_le hmo
  · exact pwL2 E a b c0 fa fa3 S T U V q2.2.1 q2.2.2.2 q2.2.2.1
  refine r_world (w' := (wSg E a q2.2.1 ++ wMd E b T ++ wLo E c0 q2.2.2.2 ++ wHi E a fa3 q2.2.2.1)) (List.append_assoc _ _ _) ?_
  refine r_istore (pc := 1680) C (i := 5) dL_law_1680 (by decide) rfl ?_
  refine r_aload_n (pc := 1682) C (i := 2) dL_law_1682 rfl rfl ?_
  refine r_aload_n (pc := 1683) C (i := 0) dL_law_1683 rfl rfl ?_
  refine r_iload (pc := 1684) C (i := 4) dL_law_1684 rfl ?_
  refine r_iconst (pc := 1686) C (v := 1) dL_law_1686 (by decide) ?_
  refine r_iadd (pc := 1687) C dL_law_1687 ?_
  obtain ⟨hi4, h⟩ := ifn h
  refine r_sld (pc := 1688) C hX hbl hbA hi4 dL_law_1688 ?_
  obtain ⟨q5, hq5, h⟩ := bnd h
  refine r_callV_CI (Cn := RX10) (pc := 1689) C [.int (xs (x4 + (1 : Int32)).toNatClampNeg)] (c_X10_draw E l k b T (xs (x4 + (1 : Int32)).toNatClampNeg) hq5) [61, 62, 63, 64, 65, 66, 67, 68, 69, 70, 71, 72, 73] (hps_hi (List.append_assoc _ _ _).symm (hp_L_204_1 E a b c0 fa3 q2.2.1 T q2.2.2.2 q2.2.2.1)) (by decide) 0 rfl rfl rfl g_L_197 hd_X10_draw ⟨Nat.le_of_ble_eq_true rfl, Nat.le_of_ble_eq_true rfl⟩ ⟨by have h1 : room_1.cells = 601024 := rfl; have h2 := hcN.1; simp only [Nat.le_refl, rm_L_draw, rm_X10_draw]; omega, by have h1 : room_1.slots = 7293034 := rfl; have h2 := hcN.2; simp only [Nat.le_refl, rm_L_draw, rm_X10_draw]; omega⟩ (Nat.le_of_ble_eq_true rfl) rfl dL_law_1689 (fun r w1 hw1 => ?_)
  obtain ⟨hr1, hw1⟩ := hw1
  subst hr1 hw1
  refine ⟨(wSg E a q2.2.1 ++ wMd E b q5.2 ++ wLo E c0 q2.2.2.2 ++ wHi E a fa3 q2.2.2.1), by exact putW_hi (List.append_assoc _ _ _).symm (List.append_assoc _ _ _).symm (hp_L_204_1 E a b c0 fa3 q2.2.1 T q2.2.2.2 q2.2.2.1) rfl (pw_L_204_1 E a b c0 fa3 q2.2.1 T q2.2.2.2 q2.2.2.1 q5.2), ?_⟩
  refine r_istore (pc := 1692) C (i := 6) dL_law_1692 (by decide) rfl ?_
  refine r_aload_n (pc := 1694) C (i := 2) dL_law_1694 rfl rfl ?_
  obtain ⟨q6, hq6, h⟩ := bnd h
  refine r_callVp_CI (Cn := RX10) (pc := 1695) C [] (c_X10_thrown E l k b q5.2 hq6) [61, 62, 63, 64, 65, 66, 67, 68, 69, 70, 71, 72, 73] (hps_hi (List.append_assoc _ _ _).symm (hp_L_204_1 E a b c0 fa3 q2.2.1 q5.2 q2.2.2.2 q2.2.2.1)) (by decide) 0 rfl rfl rfl g_L_106 hd_X10_thrown ⟨Nat.le_of_ble_eq_true rfl, Nat.le_of_ble_eq_true rfl⟩ ⟨by have h1 : room_1.cells = 601024 := rfl; have h2 := hcN.1; simp only [Nat.le_refl, rm_L_draw, rm_X10_draw, rm_X10_thrown]; omega, by have h1 : room_1.slots = 7293034 := rfl; have h2 := hcN.2; simp only [Nat.le_refl, rm_L_draw, rm_X10_draw, rm_X10_thrown]; omega⟩ (Nat.le_of_ble_eq_true rfl) rfl dL_law_1695 (fun r hr => ?_)
  have hr := hr.symm
  subst hr
  refine r_iload (pc := 1698) C (i := 5) dL_law_1698 rfl ?_
  refine r_icmp_eq (pc := 1700) C (tgt := 1705) dL_law_1700 rfl (fun c7 => ?_) (fun c7 => ?_)
  · rw [if_pos c7] at h
    refine r_iload (pc := 1705) C (i := 5) dL_law_1705 rfl ?_
    refine r_if_ne (pc := 1707) C (tgt := 1722) dL_law_1707 rfl (fun c8 => ?_) (fun c8 => ?_)
    · rw [if_neg c8] at h
      refine r_goto (pc := 1722) C (tgt := 2036) dL_law_1722 rfl ?_
      cases h
      refine r_widen (k1 := cN + 20) (n1 := sN + 1600) (by simp only [Nat.le_refl, rm_L_draw, rm_X10_draw, rm_X10_thrown]; omega) (by simp only [Nat.le_refl, rm_L_draw, rm_X10_draw, rm_X10_thrown]; omega) ?_
      refine r_weak (lSub_s (lSub_s (lSub_s (lSub_s (lSub_s (lSub_n (lSub_n (lSub_n (lSub_n lSub_e))))))))) ?_
      exact hq fa3
    · rw [if_pos c8] at h
      refine r_aload_n (pc := 1710) C (i := 3) dL_law_1710 rfl rfl ?_
      refine r_iconst (pc := 1711) C (v := 0) dL_law_1711 (by decide) ?_
      obtain ⟨hi9, h⟩ := ifn h
      refine r_lald (pc := 1712) C 74 rfl hi9 dL_law_1712 ?_
      refine r_iload (pc := 1713) C (i := 6) dL_law_1713 rfl ?_
      refine r_i2l (pc := 1715) C dL_law_1715 ?_
      refine r_lcmp (pc := 1716) C dL_law_1716 ?_
      refine r_if_eq (pc := 1717) C (tgt := 1722) dL_law_1717 rfl (fun c10 => ?_) (fun c10 => ?_)
      · rw [if_pos c10] at h
        refine r_goto (pc := 1722) C (tgt := 2036) dL_law_1722 rfl ?_
        cases h
        refine r_widen (k1 := cN + 20) (n1 := sN + 1600) (by simp only [Nat.le_refl, rm_L_draw, rm_X10_draw, rm_X10_thrown]; omega) (by simp only [Nat.le_refl, rm_L_draw, rm_X10_draw, rm_X10_thrown]; omega) ?_
        refine r_weak (lSub_s (lSub_s (lSub_s (lSub_s (lSub_s (lSub_n (lSub_n (lSub_n (lSub_n lSub_e))))))))) ?_
        exact hq fa3
      · rw [if_neg c10] at h
        refine r_iconst (pc := 1720) C (v := 0) dL_law_1720 (by decide) ?_
        cases h
  · rw [if_neg c7] at h
    refine r_iconst (pc := 1703) C (v := 0) dL_law_1703 (by decide) ?_
    cases h
theorem hd_X10_release : yX10_release.cls = RX10 ∧ yX10_release.cls ≠ "java/lang/invoke/MethodHandle" ∧ yX10_release.cls ≠ "java/lang/invoke/VarHandle" ∧ (parseMethodDescriptor yX10_release.desc).map (fun d => d.parameters.length) = some 1 := by decide +kernel
theorem g_L_200 : GoodIn GW (wsV RL 200 RX10 yX10_release (wsG yX10_release cX10_release 3 (some .int))) := gw_V wm_7_147 wm_7_148 wm_7_149 wm_1_9 wm_7_150
theorem hd_L_release : yL_release.cls = RL ∧ yL_release.cls ≠ "java/lang/invoke/MethodHandle" ∧ yL_release.cls ≠ "java/lang/invoke/VarHandle" ∧ (parseMethodDescriptor yL_release.desc).map (fun d => d.parameters.length) = some 3 := by decide +kernel
theorem gL_198 : GoodIn GW (va_wsS RL 198 yL_release (Cond.codeWith yL_release cL_release 4 (some .int) [(0, 9, 12, 18)] :: GW)) := gw_SW wm_5_44 wm_5_45 wm_1_0 wm_5_46
-- the law from 1725
theorem dL_law_1725 : decode cL_law 1725 = .ok (.aload_n 1, 1) := by decide +kernel
theorem dL_law_1726 : decode cL_law 1726 = .ok (.aload_n 0, 1) := by decide +kernel
theorem dL_law_1727 : decode cL_law 1727 = .ok (.iload 4, 2) := by decide +kernel
theorem dL_law_1729 : decode cL_law 1729 = .ok (.iconst 1, 1) := by decide +kernel
theorem dL_law_1730 : decode cL_law 1730 = .ok (.iadd, 1) := by decide +kernel
theorem dL_law_1731 : decode cL_law 1731 = .ok (.iaload, 1) := by decide +kernel
theorem dL_law_1732 : decode cL_law 1732 = .ok (.aload_n 3, 1) := by decide +kernel
theorem dL_law_1733 : decode cL_law 1733 = .ok (.invokestatic 198, 3) := by decide +kernel
theorem dL_law_1736 : decode cL_law 1736 = .ok (.istore 5, 2) := by decide +kernel
theorem dL_law_1738 : decode cL_law 1738 = .ok (.aload_n 2, 1) := by decide +kernel
theorem dL_law_1739 : decode cL_law 1739 = .ok (.aload_n 0, 1) := by decide +kernel
theorem dL_law_1740 : decode cL_law 1740 = .ok (.iload 4, 2) := by decide +kernel
theorem dL_law_1742 : decode cL_law 1742 = .ok (.iconst 1, 1) := by decide +kernel
theorem dL_law_1743 : decode cL_law 1743 = .ok (.iadd, 1) := by decide +kernel
theorem dL_law_1744 : decode cL_law 1744 = .ok (.iaload, 1) := by decide +kernel
theorem dL_law_1745 : decode cL_law 1745 = .ok (.invokevirtual 200, 3) := by decide +kernel
theorem dL_law_1748 : decode cL_law 1748 = .ok (.istore 6, 2) := by decide +kernel
theorem dL_law_1750 : decode cL_law 1750 = .ok (.aload_n 2, 1) := by decide +kernel
theorem dL_law_1751 : decode cL_law 1751 = .ok (.invokevirtual 106, 3) := by decide +kernel
theorem dL_law_1754 : decode cL_law 1754 = .ok (.iload 5, 2) := by decide +kernel
theorem dL_law_1756 : decode cL_law 1756 = .ok (.if_icmp .eq 5, 3) := by decide +kernel
theorem dL_law_1759 : decode cL_law 1759 = .ok (.iconst 0, 1) := by decide +kernel
theorem dL_law_1760 : decode cL_law 1760 = .ok (.ireturn, 1) := by decide +kernel
theorem dL_law_1761 : decode cL_law 1761 = .ok (.iload 5, 2) := by decide +kernel
theorem dL_law_1763 : decode cL_law 1763 = .ok (.ifCond .ne 15, 3) := by decide +kernel
theorem dL_law_1766 : decode cL_law 1766 = .ok (.aload_n 3, 1) := by decide +kernel
theorem dL_law_1767 : decode cL_law 1767 = .ok (.iconst 0, 1) := by decide +kernel
theorem dL_law_1768 : decode cL_law 1768 = .ok (.laload, 1) := by decide +kernel
theorem dL_law_1769 : decode cL_law 1769 = .ok (.iload 6, 2) := by decide +kernel
theorem dL_law_1771 : decode cL_law 1771 = .ok (.i2l, 1) := by decide +kernel
theorem dL_law_1772 : decode cL_law 1772 = .ok (.lcmp, 1) := by decide +kernel
theorem dL_law_1773 : decode cL_law 1773 = .ok (.ifCond .eq 5, 3) := by decide +kernel
theorem dL_law_1776 : decode cL_law 1776 = .ok (.iconst 0, 1) := by decide +kernel
theorem dL_law_1777 : decode cL_law 1777 = .ok (.ireturn, 1) := by decide +kernel
theorem dL_law_1778 : decode cL_law 1778 = .ok (.goto 258, 3) := by decide +kernel
def M_L_1725_1725 (k Ls : Nat) (xs : Nat → Int32) (x4 : Int32) (S : VV × VV × VV × VV × VV × Int32) (T : Nat → Nat → Int32) (U : Nat → Int64) (V : Nat × Int32 × Int32 × (Nat → VV)) : Option ((VV × VV × VV × VV × VV × Int32) × (Nat → Nat → Int32) × (Nat → Int64) × (Nat × Int32 × Int32 × (Nat → VV))) := (if inb (x4 + (1 : Int32)) Ls = true then (M_L_release k S V U (xs (x4 + (1 : Int32)).toNatClampNeg)).bind fun q2 => (if inb (x4 + (1 : Int32)) Ls = true then (M_X10_release k T (xs (x4 + (1 : Int32)).toNatClampNeg)).bind fun q5 => (M_X10_thrown k q5.2).bind fun q6 => if q6 = q2.1 then (if q2.1 = 0 then ((if inb (0 : Int32) 1 = true then if (lg_cmp (q2.2.2.2 (0 : Int32).toNatClampNeg) (q5.1.toInt64)) = 0 then (some (q2.2.1, q5.2, q2.2.2.2, q2.2.2.1)) else (none) else none)) else (some (q2.2.1, q5.2, q2.2.2.2, q2.2.2.1))) else (none) else none) else none)
set_option maxRecDepth 100000 in
set_option maxHeartbeats 4000000 in
theorem N_L_1725_1725 (C : CX E p l s m #[Value.ref bs] meth c cL_law 9 RL ret A) (a : Nat → Nat) (b : Nat → Nat) (c0 : Nat → Nat) (k Ls : Nat) (xs : Nat → Int32) (hX : va_X bs Ls xs s s.heap) (hbl : bs < s.heap.size) (hbA : ¬ A bs) (hlt : l.stackTraces = false) (hdc : DC s) (cN sN : Nat) (hcN : cN + 20 ≤ 601024 ∧ sN + 1600 ≤ 7293034) (fa : Nat → Nat → Nat) :
    ∀ (x4 : Int32) (S : VV × VV × VV × VV × VV × Int32) (T : Nat → Nat → Int32) (U : Nat → Int64) (V : Nat × Int32 × Int32 × (Nat → VV)) (q : (VV × VV × VV × VV × VV × Int32) × (Nat → Nat → Int32) × (Nat → Int64) × (Nat × Int32 × Int32 × (Nat → VV))), M_L_1725_1725 k Ls xs x4 S T U V = some q → (∀ fa' : Nat → Nat → Nat, WW E p l e room_1 s m #[Value.ref bs] below meth c A (cN + 20) (sN + 1600) (lw_Z below #[Value.ref bs] s) (wSg E a q.1 ++ wMd E b q.2.1 ++ wLo E c0 q.2.2.1 ++ wHi E a fa' q.2.2.2) 9 [some (.ref bs), some (.ref (a 0)), some (.ref (b 0)), some (.ref (c0 0)), some (.int x4), none, none, none, none] 2036 []) →
      WW E p l e room_1 s m #[Value.ref bs] below meth c A (cN + 0) (sN + 0) (lw_Z below #[Value.ref bs] s) (wSg E a S ++ wMd E b T ++ wLo E c0 U ++ wHi E a fa V) 9 [some (.ref bs), some (.ref (a 0)), some (.ref (b 0)), some (.ref (c0 0)), some (.int x4), none, none, none, none] 1725 [] := by
  intro x4 S T U V q  h hq
  unfold M_L_1725_1725 at h
  refine r_aload_n (pc := 1725) C (i := 1) dL_law_1725 rfl rfl ?_
  refine r_aload_n (pc := 1726) C (i := 0) dL_law_1726 rfl rfl ?_
  refine r_iload (pc := 1727) C (i := 4) dL_law_1727 rfl ?_
  refine r_iconst (pc := 1729) C (v := 1) dL_law_1729 (by decide) ?_
  refine r_iadd (pc := 1730) C dL_law_1730 ?_
  obtain ⟨hi1, h⟩ := ifn h
  refine r_sld (pc := 1731) C hX hbl hbA hi1 dL_law_1731 ?_
  refine r_aload_n (pc := 1732) C (i := 3) dL_law_1732 rfl rfl ?_
  obtain ⟨q2, hq2, h⟩ := bnd h
  refine r_callSHT (c0 := (wSg E a S ++ ([(c0 0, .inl (eC E 1, 1, .inr (.inl U)))] ++ hiC E a fa V))) (w0 := (wSg E a S ++ wMd E b T ++ wLo E c0 U ++ hiC E a fa V)) (t := hiT E fa V) (pc := 1733) C [.ref (a 0), .int (xs (x4 + (1 : Int32)).toNatClampNeg), .ref (c0 0)] hdc (c_L_release E l k a (c0 0) fa S V U (xs (x4 + (1 : Int32)).toNatClampNeg) hlt hq2) [0, 1, 2, 3, 4, 5, 6, 7, 8, 9, 10, 11, 12, 13, 14, 15, 16, 17, 18, 19, 20, 21, 22, 23, 24, 25, 26, 27, 28, 29, 30, 31, 32, 33, 34, 35, 36, 37, 38, 39, 40, 41, 42, 43, 44, 45, 46, 47, 48, 49, 50, 51, 52, 53, 54, 55, 56, 57, 58, 59, 60, 74, 75, 76] (hpL2 E a b c0 fa S T U V) (by decide) gL_198 hd_L_release.2 ⟨Nat.le_of_ble_eq_true rfl, Nat.le_of_ble_eq_true rfl⟩ ⟨by have h1 : room_1.cells = 601024 := rfl; have h2 := hcN.1; simp only [Nat.le_refl, rm_L_release]; omega, by have h1 : room_1.slots = 7293034 := rfl; have h2 := hcN.2; simp only [Nat.le_refl, rm_L_release]; omega⟩ (Nat.le_of_ble_eq_true rfl) rfl dL_law_1733 (List.append_assoc _ _ _).symm (fun r w1 hw1 => ?_)
  obtain ⟨hr1, fa3, hw1, hmo⟩ := hw1
  subst hr1 hw1
  refine ⟨(wSg E a q2.2.1 ++ ([(c0 0, .inl (eC E 1, 1, .inr (.inl q2.2.2.2)))] ++ hiC E a fa3 q2.2.2.1)), hiT E fa3 q2.2.2.1, (wSg E a q2.2.1 ++ wMd E b T ++ wLo E c0 q2.2.2.2 ++ hiC E a fa3 q2.2.2.1), rfl, ?_, ?_, ?_, ?_⟩
  · exact len_L2 E a (c0 0) fa fa3 S q2.2.1 U q2.2.2.2 V q2.2.2.1
  · exact hiT_le hmo
  · exact pwL2 E a b c0 fa fa3 S T U V q2.2.1 q2.2.2.2 q2.2.2.1
  refine r_world (w' := (wSg E a q2.2.1 ++ wMd E b T ++ wLo E c0 q2.2.2.2 ++ wHi E a fa3 q2.2.2.1)) (List.append_assoc _ _ _) ?_
  refine r_istore (pc := 1736) C (i := 5) dL_law_1736 (by decide) rfl ?_
  refine r_aload_n (pc := 1738) C (i := 2) dL_law_1738 rfl rfl ?_
  refine r_aload_n (pc := 1739) C (i := 0) dL_law_1739 rfl rfl ?_
  refine r_iload (pc := 1740) C (i := 4) dL_law_1740 rfl ?_
  refine r_iconst (pc := 1742) C (v := 1) dL_law_1742 (by decide) ?_
  refine r_iadd (pc := 1743) C dL_law_1743 ?_
  obtain ⟨hi4, h⟩ := ifn h
  refine r_sld (pc := 1744) C hX hbl hbA hi4 dL_law_1744 ?_
  obtain ⟨q5, hq5, h⟩ := bnd h
  refine r_callV_CI (Cn := RX10) (pc := 1745) C [.int (xs (x4 + (1 : Int32)).toNatClampNeg)] (c_X10_release E l k b T (xs (x4 + (1 : Int32)).toNatClampNeg) hq5) [61, 62, 63, 64, 65, 66, 67, 68, 69, 70, 71, 72, 73] (hps_hi (List.append_assoc _ _ _).symm (hp_L_204_1 E a b c0 fa3 q2.2.1 T q2.2.2.2 q2.2.2.1)) (by decide) 0 rfl rfl rfl g_L_200 hd_X10_release ⟨Nat.le_of_ble_eq_true rfl, Nat.le_of_ble_eq_true rfl⟩ ⟨by have h1 : room_1.cells = 601024 := rfl; have h2 := hcN.1; simp only [Nat.le_refl, rm_L_release, rm_X10_release]; omega, by have h1 : room_1.slots = 7293034 := rfl; have h2 := hcN.2; simp only [Nat.le_refl, rm_L_release, rm_X10_release]; omega⟩ (Nat.le_of_ble_eq_true rfl) rfl dL_law_1745 (fun r w1 hw1 => ?_)
  obtain ⟨hr1, hw1⟩ := hw1
  subst hr1 hw1
  refine ⟨(wSg E a q2.2.1 ++ wMd E b q5.2 ++ wLo E c0 q2.2.2.2 ++ wHi E a fa3 q2.2.2.1), by exact putW_hi (List.append_assoc _ _ _).symm (List.append_assoc _ _ _).symm (hp_L_204_1 E a b c0 fa3 q2.2.1 T q2.2.2.2 q2.2.2.1) rfl (pw_L_204_1 E a b c0 fa3 q2.2.1 T q2.2.2.2 q2.2.2.1 q5.2), ?_⟩
  refine r_istore (pc := 1748) C (i := 6) dL_law_1748 (by decide) rfl ?_
  refine r_aload_n (pc := 1750) C (i := 2) dL_law_1750 rfl rfl ?_
  obtain ⟨q6, hq6, h⟩ := bnd h
  refine r_callVp_CI (Cn := RX10) (pc := 1751) C [] (c_X10_thrown E l k b q5.2 hq6) [61, 62, 63, 64, 65, 66, 67, 68, 69, 70, 71, 72, 73] (hps_hi (List.append_assoc _ _ _).symm (hp_L_204_1 E a b c0 fa3 q2.2.1 q5.2 q2.2.2.2 q2.2.2.1)) (by decide) 0 rfl rfl rfl g_L_106 hd_X10_thrown ⟨Nat.le_of_ble_eq_true rfl, Nat.le_of_ble_eq_true rfl⟩ ⟨by have h1 : room_1.cells = 601024 := rfl; have h2 := hcN.1; simp only [Nat.le_refl, rm_L_release, rm_X10_release, rm_X10_thrown]; omega, by have h1 : room_1.slots = 7293034 := rfl; have h2 := hcN.2; simp only [Nat.le_refl, rm_L_release, rm_X10_release, rm_X10_thrown]; omega⟩ (Nat.le_of_ble_eq_true rfl) rfl dL_law_1751 (fun r hr => ?_)
  have hr := hr.symm
  subst hr
  refine r_iload (pc := 1754) C (i := 5) dL_law_1754 rfl ?_
  refine r_icmp_eq (pc := 1756) C (tgt := 1761) dL_law_1756 rfl (fun c7 => ?_) (fun c7 => ?_)
  · rw [if_pos c7] at h
    refine r_iload (pc := 1761) C (i := 5) dL_law_1761 rfl ?_
    refine r_if_ne (pc := 1763) C (tgt := 1778) dL_law_1763 rfl (fun c8 => ?_) (fun c8 => ?_)
    · rw [if_neg c8] at h
      refine r_goto (pc := 1778) C (tgt := 2036) dL_law_1778 rfl ?_
      cases h
      refine r_widen (k1 := cN + 20) (n1 := sN + 1600) (by simp only [Nat.le_refl, rm_L_release, rm_X10_release, rm_X10_thrown]; omega) (by simp only [Nat.le_refl, rm_L_release, rm_X10_release, rm_X10_thrown]; omega) ?_
      refine r_weak (lSub_s (lSub_s (lSub_s (lSub_s (lSub_s (lSub_n (lSub_n (lSub_n (lSub_n lSub_e))))))))) ?_
      exact hq fa3
    · rw [if_pos c8] at h
      refine r_aload_n (pc := 1766) C (i := 3) dL_law_1766 rfl rfl ?_
      refine r_iconst (pc := 1767) C (v := 0) dL_law_1767 (by decide) ?_
      obtain ⟨hi9, h⟩ := ifn h
      refine r_lald (pc := 1768) C 74 rfl hi9 dL_law_1768 ?_
      refine r_iload (pc := 1769) C (i := 6) dL_law_1769 rfl ?_
      refine r_i2l (pc := 1771) C dL_law_1771 ?_
      refine r_lcmp (pc := 1772) C dL_law_1772 ?_
      refine r_if_eq (pc := 1773) C (tgt := 1778) dL_law_1773 rfl (fun c10 => ?_) (fun c10 => ?_)
      · rw [if_pos c10] at h
        refine r_goto (pc := 1778) C (tgt := 2036) dL_law_1778 rfl ?_
        cases h
        refine r_widen (k1 := cN + 20) (n1 := sN + 1600) (by simp only [Nat.le_refl, rm_L_release, rm_X10_release, rm_X10_thrown]; omega) (by simp only [Nat.le_refl, rm_L_release, rm_X10_release, rm_X10_thrown]; omega) ?_
        refine r_weak (lSub_s (lSub_s (lSub_s (lSub_s (lSub_s (lSub_n (lSub_n (lSub_n (lSub_n lSub_e))))))))) ?_
        exact hq fa3
      · rw [if_neg c10] at h
        refine r_iconst (pc := 1776) C (v := 0) dL_law_1776 (by decide) ?_
        cases h
  · rw [if_neg c7] at h
    refine r_iconst (pc := 1759) C (v := 0) dL_law_1759 (by decide) ?_
    cases h
theorem hd_X10_set : yX10_set.cls = RX10 ∧ yX10_set.cls ≠ "java/lang/invoke/MethodHandle" ∧ yX10_set.cls ≠ "java/lang/invoke/VarHandle" ∧ (parseMethodDescriptor yX10_set.desc).map (fun d => d.parameters.length) = some 2 := by decide +kernel
theorem g_L_203 : GoodIn GW (wsV RL 203 RX10 yX10_set (wsG yX10_set cX10_set 4 (some .int))) := gw_V wm_7_151 wm_7_152 wm_7_153 wm_1_9 wm_7_154
theorem hd_L_set : yL_set.cls = RL ∧ yL_set.cls ≠ "java/lang/invoke/MethodHandle" ∧ yL_set.cls ≠ "java/lang/invoke/VarHandle" ∧ (parseMethodDescriptor yL_set.desc).map (fun d => d.parameters.length) = some 4 := by decide +kernel
theorem gL_201 : GoodIn GW (va_wsS RL 201 yL_set (Cond.codeWith yL_set cL_set 5 (some .int) [(0, 10, 13, 18), (0, 10, 17, 13)] :: GW)) := gw_SW wm_5_51 wm_5_52 wm_1_0 wm_5_53
-- the law from 1781
theorem dL_law_1781 : decode cL_law 1781 = .ok (.aload_n 1, 1) := by decide +kernel
theorem dL_law_1782 : decode cL_law 1782 = .ok (.aload_n 0, 1) := by decide +kernel
theorem dL_law_1783 : decode cL_law 1783 = .ok (.iload 4, 2) := by decide +kernel
theorem dL_law_1785 : decode cL_law 1785 = .ok (.iconst 1, 1) := by decide +kernel
theorem dL_law_1786 : decode cL_law 1786 = .ok (.iadd, 1) := by decide +kernel
theorem dL_law_1787 : decode cL_law 1787 = .ok (.iaload, 1) := by decide +kernel
theorem dL_law_1788 : decode cL_law 1788 = .ok (.aload_n 0, 1) := by decide +kernel
theorem dL_law_1789 : decode cL_law 1789 = .ok (.iload 4, 2) := by decide +kernel
theorem dL_law_1791 : decode cL_law 1791 = .ok (.iconst 2, 1) := by decide +kernel
theorem dL_law_1792 : decode cL_law 1792 = .ok (.iadd, 1) := by decide +kernel
theorem dL_law_1793 : decode cL_law 1793 = .ok (.iaload, 1) := by decide +kernel
theorem dL_law_1794 : decode cL_law 1794 = .ok (.aload_n 3, 1) := by decide +kernel
theorem dL_law_1795 : decode cL_law 1795 = .ok (.invokestatic 201, 3) := by decide +kernel
theorem dL_law_1798 : decode cL_law 1798 = .ok (.istore 5, 2) := by decide +kernel
theorem dL_law_1800 : decode cL_law 1800 = .ok (.aload_n 2, 1) := by decide +kernel
theorem dL_law_1801 : decode cL_law 1801 = .ok (.aload_n 0, 1) := by decide +kernel
theorem dL_law_1802 : decode cL_law 1802 = .ok (.iload 4, 2) := by decide +kernel
theorem dL_law_1804 : decode cL_law 1804 = .ok (.iconst 1, 1) := by decide +kernel
theorem dL_law_1805 : decode cL_law 1805 = .ok (.iadd, 1) := by decide +kernel
theorem dL_law_1806 : decode cL_law 1806 = .ok (.iaload, 1) := by decide +kernel
theorem dL_law_1807 : decode cL_law 1807 = .ok (.aload_n 0, 1) := by decide +kernel
theorem dL_law_1808 : decode cL_law 1808 = .ok (.iload 4, 2) := by decide +kernel
theorem dL_law_1810 : decode cL_law 1810 = .ok (.iconst 2, 1) := by decide +kernel
theorem dL_law_1811 : decode cL_law 1811 = .ok (.iadd, 1) := by decide +kernel
theorem dL_law_1812 : decode cL_law 1812 = .ok (.iaload, 1) := by decide +kernel
theorem dL_law_1813 : decode cL_law 1813 = .ok (.invokevirtual 203, 3) := by decide +kernel
theorem dL_law_1816 : decode cL_law 1816 = .ok (.istore 6, 2) := by decide +kernel
theorem dL_law_1818 : decode cL_law 1818 = .ok (.aload_n 2, 1) := by decide +kernel
theorem dL_law_1819 : decode cL_law 1819 = .ok (.invokevirtual 106, 3) := by decide +kernel
theorem dL_law_1822 : decode cL_law 1822 = .ok (.iload 5, 2) := by decide +kernel
theorem dL_law_1824 : decode cL_law 1824 = .ok (.if_icmp .eq 5, 3) := by decide +kernel
theorem dL_law_1827 : decode cL_law 1827 = .ok (.iconst 0, 1) := by decide +kernel
theorem dL_law_1828 : decode cL_law 1828 = .ok (.ireturn, 1) := by decide +kernel
theorem dL_law_1829 : decode cL_law 1829 = .ok (.iload 5, 2) := by decide +kernel
theorem dL_law_1831 : decode cL_law 1831 = .ok (.ifCond .ne 15, 3) := by decide +kernel
theorem dL_law_1834 : decode cL_law 1834 = .ok (.aload_n 3, 1) := by decide +kernel
theorem dL_law_1835 : decode cL_law 1835 = .ok (.iconst 0, 1) := by decide +kernel
theorem dL_law_1836 : decode cL_law 1836 = .ok (.laload, 1) := by decide +kernel
theorem dL_law_1837 : decode cL_law 1837 = .ok (.iload 6, 2) := by decide +kernel
theorem dL_law_1839 : decode cL_law 1839 = .ok (.i2l, 1) := by decide +kernel
theorem dL_law_1840 : decode cL_law 1840 = .ok (.lcmp, 1) := by decide +kernel
theorem dL_law_1841 : decode cL_law 1841 = .ok (.ifCond .eq 5, 3) := by decide +kernel
theorem dL_law_1844 : decode cL_law 1844 = .ok (.iconst 0, 1) := by decide +kernel
theorem dL_law_1845 : decode cL_law 1845 = .ok (.ireturn, 1) := by decide +kernel
theorem dL_law_1846 : decode cL_law 1846 = .ok (.goto 190, 3) := by decide +kernel
def M_L_1781_1781 (k Ls : Nat) (xs : Nat → Int32) (x4 : Int32) (S : VV × VV × VV × VV × VV × Int32) (T : Nat → Nat → Int32) (U : Nat → Int64) (V : Nat × Int32 × Int32 × (Nat → VV)) : Option ((VV × VV × VV × VV × VV × Int32) × (Nat → Nat → Int32) × (Nat → Int64) × (Nat × Int32 × Int32 × (Nat → VV))) := (if inb (x4 + (1 : Int32)) Ls = true then (if inb (x4 + (2 : Int32)) Ls = true then (M_L_set k S V U (xs (x4 + (1 : Int32)).toNatClampNeg) (xs (x4 + (2 : Int32)).toNatClampNeg)).bind fun q3 => (if inb (x4 + (1 : Int32)) Ls = true then (if inb (x4 + (2 : Int32)) Ls = true then (M_X10_set k T (xs (x4 + (1 : Int32)).toNatClampNeg) (xs (x4 + (2 : Int32)).toNatClampNeg)).bind fun q7 => (M_X10_thrown k q7.2).bind fun q8 => if q8 = q3.1 then (if q3.1 = 0 then ((if inb (0 : Int32) 1 = true then if (lg_cmp (q3.2.2.2 (0 : Int32).toNatClampNeg) (q7.1.toInt64)) = 0 then (some (q3.2.1, q7.2, q3.2.2.2, q3.2.2.1)) else (none) else none)) else (some (q3.2.1, q7.2, q3.2.2.2, q3.2.2.1))) else (none) else none) else none) else none) else none)
set_option maxRecDepth 100000 in
set_option maxHeartbeats 4000000 in
theorem N_L_1781_1781 (C : CX E p l s m #[Value.ref bs] meth c cL_law 9 RL ret A) (a : Nat → Nat) (b : Nat → Nat) (c0 : Nat → Nat) (k Ls : Nat) (xs : Nat → Int32) (hX : va_X bs Ls xs s s.heap) (hbl : bs < s.heap.size) (hbA : ¬ A bs) (hlt : l.stackTraces = false) (hdc : DC s) (cN sN : Nat) (hcN : cN + 20 ≤ 601024 ∧ sN + 1600 ≤ 7293034) (fa : Nat → Nat → Nat) :
    ∀ (x4 : Int32) (S : VV × VV × VV × VV × VV × Int32) (T : Nat → Nat → Int32) (U : Nat → Int64) (V : Nat × Int32 × Int32 × (Nat → VV)) (q : (VV × VV × VV × VV × VV × Int32) × (Nat → Nat → Int32) × (Nat → Int64) × (Nat × Int32 × Int32 × (Nat → VV))), M_L_1781_1781 k Ls xs x4 S T U V = some q → (∀ fa' : Nat → Nat → Nat, WW E p l e room_1 s m #[Value.ref bs] below meth c A (cN + 20) (sN + 1600) (lw_Z below #[Value.ref bs] s) (wSg E a q.1 ++ wMd E b q.2.1 ++ wLo E c0 q.2.2.1 ++ wHi E a fa' q.2.2.2) 9 [some (.ref bs), some (.ref (a 0)), some (.ref (b 0)), some (.ref (c0 0)), some (.int x4), none, none, none, none] 2036 []) →
      WW E p l e room_1 s m #[Value.ref bs] below meth c A (cN + 0) (sN + 0) (lw_Z below #[Value.ref bs] s) (wSg E a S ++ wMd E b T ++ wLo E c0 U ++ wHi E a fa V) 9 [some (.ref bs), some (.ref (a 0)), some (.ref (b 0)), some (.ref (c0 0)), some (.int x4), none, none, none, none] 1781 [] := by
  intro x4 S T U V q  h hq
  unfold M_L_1781_1781 at h
  refine r_aload_n (pc := 1781) C (i := 1) dL_law_1781 rfl rfl ?_
  refine r_aload_n (pc := 1782) C (i := 0) dL_law_1782 rfl rfl ?_
  refine r_iload (pc := 1783) C (i := 4) dL_law_1783 rfl ?_
  refine r_iconst (pc := 1785) C (v := 1) dL_law_1785 (by decide) ?_
  refine r_iadd (pc := 1786) C dL_law_1786 ?_
  obtain ⟨hi1, h⟩ := ifn h
  refine r_sld (pc := 1787) C hX hbl hbA hi1 dL_law_1787 ?_
  refine r_aload_n (pc := 1788) C (i := 0) dL_law_1788 rfl rfl ?_
  refine r_iload (pc := 1789) C (i := 4) dL_law_1789 rfl ?_
  refine r_iconst (pc := 1791) C (v := 2) dL_law_1791 (by decide) ?_
  refine r_iadd (pc := 1792) C dL_law_1792 ?_
  obtain ⟨hi2, h⟩ := ifn h
  refine r_sld (pc := 1793) C hX hbl hbA hi2 dL_law_1793 ?_
  refine r_aload_n (pc := 1794) C (i := 3) dL_law_1794 rfl rfl ?_
  obtain ⟨q3, hq3, h⟩ := bnd h
  refine r_callSHT (c0 := (wSg E a S ++ ([(c0 0, .inl (eC E 1, 1, .inr (.inl U)))] ++ hiC E a fa V))) (w0 := (wSg E a S ++ wMd E b T ++ wLo E c0 U ++ hiC E a fa V)) (t := hiT E fa V) (pc := 1795) C [.ref (a 0), .int (xs (x4 + (1 : Int32)).toNatClampNeg), .int (xs (x4 + (2 : Int32)).toNatClampNeg), .ref (c0 0)] hdc (c_L_set E l k a (c0 0) fa S V U (xs (x4 + (1 : Int32)).toNatClampNeg) (xs (x4 + (2 : Int32)).toNatClampNeg) hlt hq3) [0, 1, 2, 3, 4, 5, 6, 7, 8, 9, 10, 11, 12, 13, 14, 15, 16, 17, 18, 19, 20, 21, 22, 23, 24, 25, 26, 27, 28, 29, 30, 31, 32, 33, 34, 35, 36, 37, 38, 39, 40, 41, 42, 43, 44, 45, 46, 47, 48, 49, 50, 51, 52, 53, 54, 55, 56, 57, 58, 59, 60, 74, 75, 76] (hpL2 E a b c0 fa S T U V) (by decide) gL_201 hd_L_set.2 ⟨Nat.le_of_ble_eq_true rfl, Nat.le_of_ble_eq_true rfl⟩ ⟨by have h1 : room_1.cells = 601024 := rfl; have h2 := hcN.1; simp only [Nat.le_refl, rm_L_set]; omega, by have h1 : room_1.slots = 7293034 := rfl; have h2 := hcN.2; simp only [Nat.le_refl, rm_L_set]; omega⟩ (Nat.le_of_ble_eq_true rfl) rfl dL_law_1795 (List.append_assoc _ _ _).symm (fun r w1 hw1 => ?_)
  obtain ⟨hr1, fa4, hw1, hmo⟩ := hw1
  subst hr1 hw1
  refine ⟨(wSg E a q3.2.1 ++ ([(c0 0, .inl (eC E 1, 1, .inr (.inl q3.2.2.2)))] ++ hiC E a fa4 q3.2.2.1)), hiT E fa4 q3.2.2.1, (wSg E a q3.2.1 ++ wMd E b T ++ wLo E c0 q3.2.2.2 ++ hiC E a fa4 q3.2.2.1), rfl, ?_, ?_, ?_, ?_⟩
  · exact len_L2 E a (c0 0) fa fa4 S q3.2.1 U q3.2.2.2 V q3.2.2.1
  · exact hiT_le hmo
  · exact pwL2 E a b c0 fa fa4 S T U V q3.2.1 q3.2.2.2 q3.2.2.1
  refine r_world (w' := (wSg E a q3.2.1 ++ wMd E b T ++ wLo E c0 q3.2.2.2 ++ wHi E a fa4 q3.2.2.1)) (List.append_assoc _ _ _) ?_
  refine r_istore (pc := 1798) C (i := 5) dL_law_1798 (by decide) rfl ?_
  refine r_aload_n (pc := 1800) C (i := 2) dL_law_1800 rfl rfl ?_
  refine r_aload_n (pc := 1801) C (i := 0) dL_law_1801 rfl rfl ?_
  refine r_iload (pc := 1802) C (i := 4) dL_law_1802 rfl ?_
  refine r_iconst (pc := 1804) C (v := 1) dL_law_1804 (by decide) ?_
  refine r_iadd (pc := 1805) C dL_law_1805 ?_
  obtain ⟨hi5, h⟩ := ifn h
  refine r_sld (pc := 1806) C hX hbl hbA hi5 dL_law_1806 ?_
  refine r_aload_n (pc := 1807) C (i := 0) dL_law_1807 rfl rfl ?_
  refine r_iload (pc := 1808) C (i := 4) dL_law_1808 rfl ?_
  refine r_iconst (pc := 1810) C (v := 2) dL_law_1810 (by decide) ?_
  refine r_iadd (pc := 1811) C dL_law_1811 ?_
  obtain ⟨hi6, h⟩ := ifn h
  refine r_sld (pc := 1812) C hX hbl hbA hi6 dL_law_1812 ?_
  obtain ⟨q7, hq7, h⟩ := bnd h
  refine r_callV_CI (Cn := RX10) (pc := 1813) C [.int (xs (x4 + (1 : Int32)).toNatClampNeg), .int (xs (x4 + (2 : Int32)).toNatClampNeg)] (c_X10_set E l k b T (xs (x4 + (1 : Int32)).toNatClampNeg) (xs (x4 + (2 : Int32)).toNatClampNeg) hq7) [61, 62, 63, 64, 65, 66, 67, 68, 69, 70, 71, 72, 73] (hps_hi (List.append_assoc _ _ _).symm (hp_L_204_1 E a b c0 fa4 q3.2.1 T q3.2.2.2 q3.2.2.1)) (by decide) 0 rfl rfl rfl g_L_203 hd_X10_set ⟨Nat.le_of_ble_eq_true rfl, Nat.le_of_ble_eq_true rfl⟩ ⟨by have h1 : room_1.cells = 601024 := rfl; have h2 := hcN.1; simp only [Nat.le_refl, rm_L_set, rm_X10_set]; omega, by have h1 : room_1.slots = 7293034 := rfl; have h2 := hcN.2; simp only [Nat.le_refl, rm_L_set, rm_X10_set]; omega⟩ (Nat.le_of_ble_eq_true rfl) rfl dL_law_1813 (fun r w1 hw1 => ?_)
  obtain ⟨hr1, hw1⟩ := hw1
  subst hr1 hw1
  refine ⟨(wSg E a q3.2.1 ++ wMd E b q7.2 ++ wLo E c0 q3.2.2.2 ++ wHi E a fa4 q3.2.2.1), by exact putW_hi (List.append_assoc _ _ _).symm (List.append_assoc _ _ _).symm (hp_L_204_1 E a b c0 fa4 q3.2.1 T q3.2.2.2 q3.2.2.1) rfl (pw_L_204_1 E a b c0 fa4 q3.2.1 T q3.2.2.2 q3.2.2.1 q7.2), ?_⟩
  refine r_istore (pc := 1816) C (i := 6) dL_law_1816 (by decide) rfl ?_
  refine r_aload_n (pc := 1818) C (i := 2) dL_law_1818 rfl rfl ?_
  obtain ⟨q8, hq8, h⟩ := bnd h
  refine r_callVp_CI (Cn := RX10) (pc := 1819) C [] (c_X10_thrown E l k b q7.2 hq8) [61, 62, 63, 64, 65, 66, 67, 68, 69, 70, 71, 72, 73] (hps_hi (List.append_assoc _ _ _).symm (hp_L_204_1 E a b c0 fa4 q3.2.1 q7.2 q3.2.2.2 q3.2.2.1)) (by decide) 0 rfl rfl rfl g_L_106 hd_X10_thrown ⟨Nat.le_of_ble_eq_true rfl, Nat.le_of_ble_eq_true rfl⟩ ⟨by have h1 : room_1.cells = 601024 := rfl; have h2 := hcN.1; simp only [Nat.le_refl, rm_L_set, rm_X10_set, rm_X10_thrown]; omega, by have h1 : room_1.slots = 7293034 := rfl; have h2 := hcN.2; simp only [Nat.le_refl, rm_L_set, rm_X10_set, rm_X10_thrown]; omega⟩ (Nat.le_of_ble_eq_true rfl) rfl dL_law_1819 (fun r hr => ?_)
  have hr := hr.symm
  subst hr
  refine r_iload (pc := 1822) C (i := 5) dL_law_1822 rfl ?_
  refine r_icmp_eq (pc := 1824) C (tgt := 1829) dL_law_1824 rfl (fun c9 => ?_) (fun c9 => ?_)
  · rw [if_pos c9] at h
    refine r_iload (pc := 1829) C (i := 5) dL_law_1829 rfl ?_
    refine r_if_ne (pc := 1831) C (tgt := 1846) dL_law_1831 rfl (fun c10 => ?_) (fun c10 => ?_)
    · rw [if_neg c10] at h
      refine r_goto (pc := 1846) C (tgt := 2036) dL_law_1846 rfl ?_
      cases h
      refine r_widen (k1 := cN + 20) (n1 := sN + 1600) (by simp only [Nat.le_refl, rm_L_set, rm_X10_set, rm_X10_thrown]; omega) (by simp only [Nat.le_refl, rm_L_set, rm_X10_set, rm_X10_thrown]; omega) ?_
      refine r_weak (lSub_s (lSub_s (lSub_s (lSub_s (lSub_s (lSub_n (lSub_n (lSub_n (lSub_n lSub_e))))))))) ?_
      exact hq fa4
    · rw [if_pos c10] at h
      refine r_aload_n (pc := 1834) C (i := 3) dL_law_1834 rfl rfl ?_
      refine r_iconst (pc := 1835) C (v := 0) dL_law_1835 (by decide) ?_
      obtain ⟨hi11, h⟩ := ifn h
      refine r_lald (pc := 1836) C 74 rfl hi11 dL_law_1836 ?_
      refine r_iload (pc := 1837) C (i := 6) dL_law_1837 rfl ?_
      refine r_i2l (pc := 1839) C dL_law_1839 ?_
      refine r_lcmp (pc := 1840) C dL_law_1840 ?_
      refine r_if_eq (pc := 1841) C (tgt := 1846) dL_law_1841 rfl (fun c12 => ?_) (fun c12 => ?_)
      · rw [if_pos c12] at h
        refine r_goto (pc := 1846) C (tgt := 2036) dL_law_1846 rfl ?_
        cases h
        refine r_widen (k1 := cN + 20) (n1 := sN + 1600) (by simp only [Nat.le_refl, rm_L_set, rm_X10_set, rm_X10_thrown]; omega) (by simp only [Nat.le_refl, rm_L_set, rm_X10_set, rm_X10_thrown]; omega) ?_
        refine r_weak (lSub_s (lSub_s (lSub_s (lSub_s (lSub_s (lSub_n (lSub_n (lSub_n (lSub_n lSub_e))))))))) ?_
        exact hq fa4
      · rw [if_neg c12] at h
        refine r_iconst (pc := 1844) C (v := 0) dL_law_1844 (by decide) ?_
        cases h
  · rw [if_neg c9] at h
    refine r_iconst (pc := 1827) C (v := 0) dL_law_1827 (by decide) ?_
    cases h
end WALKS
