section WALKS
variable {E : ENV} {p : Program} {l : Launch} {e : Env} {s : State} {m : MethodId} {args : Array Value} {below : List Frame} {meth : Method} {c : Code} {A : Nat → Prop} {bs : Nat}
theorem hd_X10_release : yX10_release.cls = RX10 ∧ yX10_release.cls ≠ "java/lang/invoke/MethodHandle" ∧ yX10_release.cls ≠ "java/lang/invoke/VarHandle" ∧ (parseMethodDescriptor yX10_release.desc).map (fun d => d.parameters.length) = some 1 := by decide +kernel
theorem g_L_200 : GoodIn GW (wsV RL 200 RX10 yX10_release (wsG yX10_release cX10_release 3 (some .int))) := gw_V wm_7_150 wm_7_151 wm_7_152 wm_1_9 wm_7_153
theorem hd_L_release : yL_release.cls = RL ∧ yL_release.cls ≠ "java/lang/invoke/MethodHandle" ∧ yL_release.cls ≠ "java/lang/invoke/VarHandle" ∧ (parseMethodDescriptor yL_release.desc).map (fun d => d.parameters.length) = some 3 := by decide +kernel
theorem gL_198 : GoodIn GW (va_wsS RL 198 yL_release (Cond.codeWith yL_release cL_release 4 (some .int) [(0, 9, 12, 18)] :: GW)) := gw_SW wm_5_44 wm_5_45 wm_1_0 wm_5_46
-- the law from 1725
theorem dL_law_1725 : decode cL_law 1725 = .ok (.aload_n 1, 1) := by decide +kernel
theorem dL_law_1726 : decode cL_law 1726 = .ok (.aload_n 0, 1) := by decide +kernel
theorem dL_law_1727 : decode cL_law 1727 = .ok (.iload 4, 2) := by decide +kernel
theorem dL_law_1729 : decode cL_law 1729 = .ok (.iconst 1, 1) := by decide +kernel
theorem dL_law_1730 : decode cL_law 1730 = .ok (.iadd, 1) := by decide +kernel
theorem dL_law_1731 : decode cL_law 1731 = .ok (.iaload, 1) := by decide +kernel
theorem dL_law_1732 : decode cL_law 1732 = .ok (.aload_n 3, 1) := by decide +kernel
theorem dL_law_1733 : decode cL_law 1733 = .ok (.invokestatic 198, 3) := by decide +kernel
theorem dL_law_1736 : decode cL_law 1736 = .ok (.istore 5, 2) := by decide +kernel
theorem dL_law_1738 : decode cL_law 1738 = .ok (.aload_n 2, 1) := by decide +kernel
theorem dL_law_1739 : decode cL_law 1739 = .ok (.aload_n 0, 1) := by decide +kernel
theorem dL_law_1740 : decode cL_law 1740 = .ok (.iload 4, 2) := by decide +kernel
theorem dL_law_1742 : decode cL_law 1742 = .ok (.iconst 1, 1) := by decide +kernel
theorem dL_law_1743 : decode cL_law 1743 = .ok (.iadd, 1) := by decide +kernel
theorem dL_law_1744 : decode cL_law 1744 = .ok (.iaload, 1) := by decide +kernel
theorem dL_law_1745 : decode cL_law 1745 = .ok (.invokevirtual 200, 3) := by decide +kernel
theorem dL_law_1748 : decode cL_law 1748 = .ok (.istore 6, 2) := by decide +kernel
theorem dL_law_1750 : decode cL_law 1750 = .ok (.aload_n 2, 1) := by decide +kernel
theorem dL_law_1751 : decode cL_law 1751 = .ok (.invokevirtual 106, 3) := by decide +kernel
theorem dL_law_1754 : decode cL_law 1754 = .ok (.iload 5, 2) := by decide +kernel
theorem dL_law_1756 : decode cL_law 1756 = .ok (.if_icmp .eq 5, 3) := by decide +kernel
theorem dL_law_1759 : decode cL_law 1759 = .ok (.iconst 0, 1) := by decide +kernel
theorem dL_law_1760 : decode cL_law 1760 = .ok (.ireturn, 1) := by decide +kernel
theorem dL_law_1761 : decode cL_law 1761 = .ok (.iload 5, 2) := by decide +kernel
theorem dL_law_1763 : decode cL_law 1763 = .ok (.ifCond .ne 15, 3) := by decide +kernel
theorem dL_law_1766 : decode cL_law 1766 = .ok (.aload_n 3, 1) := by decide +kernel
theorem dL_law_1767 : decode cL_law 1767 = .ok (.iconst 0, 1) := by decide +kernel
theorem dL_law_1768 : decode cL_law 1768 = .ok (.laload, 1) := by decide +kernel
theorem dL_law_1769 : decode cL_law 1769 = .ok (.iload 6, 2) := by decide +kernel
theorem dL_law_1771 : decode cL_law 1771 = .ok (.i2l, 1) := by decide +kernel
theorem dL_law_1772 : decode cL_law 1772 = .ok (.lcmp, 1) := by decide +kernel
theorem dL_law_1773 : decode cL_law 1773 = .ok (.ifCond .eq 5, 3) := by decide +kernel
theorem dL_law_1776 : decode cL_law 1776 = .ok (.iconst 0, 1) := by decide +kernel
theorem dL_law_1777 : decode cL_law 1777 = .ok (.ireturn, 1) := by decide +kernel
theorem dL_law_1778 : decode cL_law 1778 = .ok (.goto 258, 3) := by decide +kernel
def M_L_1725_1725 (k Ls : Nat) (xs : Nat → Int32) (x4 : Int32) (S : VV × VV × VV × VV × VV × Int32) (T : Nat → Nat → Int32) (U : Nat → Int64) (V : Nat × Int32 × Int32 × (Nat → VV)) : Option ((VV × VV × VV × VV × VV × Int32) × (Nat → Nat → Int32) × (Nat → Int64) × (Nat × Int32 × Int32 × (Nat → VV))) := (if inb (x4 + (1 : Int32)) Ls = true then (M_L_release k S V U (xs (x4 + (1 : Int32)).toNatClampNeg)).bind fun q2 => (if inb (x4 + (1 : Int32)) Ls = true then (M_X10_release k T (xs (x4 + (1 : Int32)).toNatClampNeg)).bind fun q5 => (M_X10_thrown k q5.2).bind fun q6 => if q6 = q2.1 then (if q2.1 = 0 then ((if inb (0 : Int32) 1 = true then if (lg_cmp ((q2.2.2.2 (0 : Int32).toNatClampNeg).toInt64) (q5.1.toInt64)) = 0 then (some (q2.2.1, q5.2, q2.2.2.2, q2.2.2.1)) else (none) else none)) else (some (q2.2.1, q5.2, q2.2.2.2, q2.2.2.1))) else (none) else none) else none)
set_option maxRecDepth 100000 in
set_option maxHeartbeats 4000000 in
theorem N_L_1725_1725 (C : CX E p l s m #[Value.ref bs] meth c cL_law 9 RL ret A) (a : Nat → Nat) (b : Nat → Nat) (c0 : Nat → Nat) (k Ls : Nat) (xs : Nat → Int32) (hX : va_X bs Ls xs s s.heap) (hbl : bs < s.heap.size) (hbA : ¬ A bs) (hlt : l.stackTraces = false) (hdc : DC s) (cN sN : Nat) (hcN : cN + 20 ≤ 601024 ∧ sN + 1600 ≤ 7293034) (fa : Nat → Nat → Nat) :
    ∀ (x4 : Int32) (S : VV × VV × VV × VV × VV × Int32) (T : Nat → Nat → Int32) (U : Nat → Int64) (V : Nat × Int32 × Int32 × (Nat → VV)) (q : (VV × VV × VV × VV × VV × Int32) × (Nat → Nat → Int32) × (Nat → Int64) × (Nat × Int32 × Int32 × (Nat → VV))), M_L_1725_1725 k Ls xs x4 S T U V = some q → (∀ fa' : Nat → Nat → Nat, WW E p l e room_1 s m #[Value.ref bs] below meth c A (cN + 20) (sN + 1600) (lw_Z below #[Value.ref bs] s) (wSg E a q.1 ++ wMd E b q.2.1 ++ wLo E c0 q.2.2.1 ++ wHi E a fa' q.2.2.2) 9 [some (.ref bs), some (.ref (a 0)), some (.ref (b 0)), some (.ref (c0 0)), some (.int x4), none, none, none, none] 2036 []) →
      WW E p l e room_1 s m #[Value.ref bs] below meth c A (cN + 0) (sN + 0) (lw_Z below #[Value.ref bs] s) (wSg E a S ++ wMd E b T ++ wLo E c0 U ++ wHi E a fa V) 9 [some (.ref bs), some (.ref (a 0)), some (.ref (b 0)), some (.ref (c0 0)), some (.int x4), none, none, none, none] 1725 [] := by
  intro x4 S T U V q  h hq
  unfold M_L_1725_1725 at h
  refine r_aload_n (pc := 1725) C (i := 1) dL_law_1725 rfl rfl ?_
  refine r_aload_n (pc := 1726) C (i := 0) dL_law_1726 rfl rfl ?_
  refine r_iload (pc := 1727) C (i := 4) dL_law_1727 rfl ?_
  refine r_iconst (pc := 1729) C (v := 1) dL_law_1729 (by decide) ?_
  refine r_iadd (pc := 1730) C dL_law_1730 ?_
  obtain ⟨hi1, h⟩ := ifn h
  refine r_sld (pc := 1731) C hX hbl hbA hi1 dL_law_1731 ?_
  refine r_aload_n (pc := 1732) C (i := 3) dL_law_1732 rfl rfl ?_
  obtain ⟨q2, hq2, h⟩ := bnd h
  refine r_callSHT (c0 := (wSg E a S ++ ([(c0 0, .inl (eC E 1, 1, .inr (.inl U)))] ++ hiC E a fa V))) (w0 := (wSg E a S ++ wMd E b T ++ wLo E c0 U ++ hiC E a fa V)) (t := hiT E fa V) (pc := 1733) C [.ref (a 0), .int (xs (x4 + (1 : Int32)).toNatClampNeg), .ref (c0 0)] hdc (c_L_release E l k a (c0 0) fa S V U (xs (x4 + (1 : Int32)).toNatClampNeg) hlt hq2) [0, 1, 2, 3, 4, 5, 6, 7, 8, 9, 10, 11, 12, 13, 14, 15, 16, 17, 18, 19, 20, 21, 22, 23, 24, 25, 26, 27, 28, 29, 30, 31, 32, 33, 34, 35, 36, 37, 38, 39, 40, 41, 42, 43, 44, 45, 46, 47, 48, 49, 50, 51, 52, 53, 54, 55, 56, 57, 58, 59, 60, 74, 75, 76] (hpL2 E a b c0 fa S T U V) (by decide) gL_198 hd_L_release.2 ⟨Nat.le_of_ble_eq_true rfl, Nat.le_of_ble_eq_true rfl⟩ ⟨by have h1 : room_1.cells = 601024 := rfl; have h2 := hcN.1; simp only [Nat.le_refl, rm_L_release]; omega, by have h1 : room_1.slots = 7293034 := rfl; have h2 := hcN.2; simp only [Nat.le_refl, rm_L_release]; omega⟩ (Nat.le_of_ble_eq_true rfl) rfl dL_law_1733 (List.append_assoc _ _ _).symm (fun r w1 hw1 => ?_)
  obtain ⟨hr1, fa3, hw1, hmo⟩ := hw1
  subst hr1 hw1
  refine ⟨(wSg E a q2.2.1 ++ ([(c0 0, .inl (eC E 1, 1, .inr (.inl q2.2.2.2)))] ++ hiC E a fa3 q2.2.2.1)), hiT E fa3 q2.2.2.1, _, rfl, rfl, hiT_le hmo, pwL2 E a b c0 fa3 S T U V q2.2.1 q2.2.2.2 q2.2.2.1, ?_⟩
  refine r_world (w' := (wSg E a q2.2.1 ++ wMd E b T ++ wLo E c0 q2.2.2.2 ++ wHi E a fa3 q2.2.2.1)) (List.append_assoc _ _ _) ?_
  refine r_istore (pc := 1736) C (i := 5) dL_law_1736 (by decide) rfl ?_
  refine r_aload_n (pc := 1738) C (i := 2) dL_law_1738 rfl rfl ?_
  refine r_aload_n (pc := 1739) C (i := 0) dL_law_1739 rfl rfl ?_
  refine r_iload (pc := 1740) C (i := 4) dL_law_1740 rfl ?_
  refine r_iconst (pc := 1742) C (v := 1) dL_law_1742 (by decide) ?_
  refine r_iadd (pc := 1743) C dL_law_1743 ?_
  obtain ⟨hi4, h⟩ := ifn h
  refine r_sld (pc := 1744) C hX hbl hbA hi4 dL_law_1744 ?_
  obtain ⟨q5, hq5, h⟩ := bnd h
  refine r_callV_CI (Cn := RX10) (pc := 1745) C [.int (xs (x4 + (1 : Int32)).toNatClampNeg)] (c_X10_release E l k b T (xs (x4 + (1 : Int32)).toNatClampNeg) hq5) [61, 62, 63, 64, 65, 66, 67, 68, 69, 70, 71, 72, 73] (hps_hi (List.append_assoc _ _ _).symm (hp_L_204_1 E a b c0 fa3 q2.2.1 T q2.2.2.2 q2.2.2.1)) (by decide) 0 rfl rfl rfl g_L_200 hd_X10_release ⟨Nat.le_of_ble_eq_true rfl, Nat.le_of_ble_eq_true rfl⟩ ⟨Nat.le_of_ble_eq_true rfl, Nat.le_of_ble_eq_true rfl⟩ (Nat.le_of_ble_eq_true rfl) rfl dL_law_1745 (fun r w1 hw1 => ?_)
  obtain ⟨hr1, hw1⟩ := hw1
  subst hr1 hw1
  refine ⟨(wSg E a q2.2.1 ++ wMd E b q5.2 ++ wLo E c0 q2.2.2.2 ++ wHi E a fa3 q2.2.2.1), by exact putW_hi (List.append_assoc _ _ _).symm (List.append_assoc _ _ _).symm (hp_L_204_1 E a b c0 fa3 q2.2.1 T q2.2.2.2 q2.2.2.1) rfl (pw_L_204_1 E a b c0 fa3 q2.2.1 T q2.2.2.2 q2.2.2.1 q5.2), ?_⟩
  refine r_istore (pc := 1748) C (i := 6) dL_law_1748 (by decide) rfl ?_
  refine r_aload_n (pc := 1750) C (i := 2) dL_law_1750 rfl rfl ?_
  obtain ⟨q6, hq6, h⟩ := bnd h
  refine r_callVp_CI (Cn := RX10) (pc := 1751) C [] (c_X10_thrown E l k b q5.2 hq6) [61, 62, 63, 64, 65, 66, 67, 68, 69, 70, 71, 72, 73] (hps_hi (List.append_assoc _ _ _).symm (hp_L_204_1 E a b c0 fa3 q2.2.1 q5.2 q2.2.2.2 q2.2.2.1)) (by decide) 0 rfl rfl rfl g_L_106 hd_X10_thrown ⟨Nat.le_of_ble_eq_true rfl, Nat.le_of_ble_eq_true rfl⟩ ⟨Nat.le_of_ble_eq_true rfl, Nat.le_of_ble_eq_true rfl⟩ (Nat.le_of_ble_eq_true rfl) rfl dL_law_1751 (fun r hr => ?_)
  have hr := hr.symm
  subst hr
  refine r_iload (pc := 1754) C (i := 5) dL_law_1754 rfl ?_
  refine r_icmp_eq (pc := 1756) C (tgt := 1761) dL_law_1756 rfl (fun c7 => ?_) (fun c7 => ?_)
  · rw [if_pos c7] at h
    refine r_iload (pc := 1761) C (i := 5) dL_law_1761 rfl ?_
    refine r_if_ne (pc := 1763) C (tgt := 1778) dL_law_1763 rfl (fun c8 => ?_) (fun c8 => ?_)
    · rw [if_neg c8] at h
      refine r_goto (pc := 1778) C (tgt := 2036) dL_law_1778 rfl ?_
      cases h
      refine r_widen (k1 := cN + 20) (n1 := sN + 1600) (by simp only [Nat.le_refl, rm_L_release, rm_X10_release, rm_X10_thrown]; omega) (by simp only [Nat.le_refl, rm_L_release, rm_X10_release, rm_X10_thrown]; omega) ?_
      refine r_weak (lSub_s (lSub_s (lSub_s (lSub_s (lSub_s (lSub_n (lSub_n (lSub_n (lSub_n lSub_e))))))))) ?_
      exact hq fa3
    · rw [if_pos c8] at h
      refine r_aload_n (pc := 1766) C (i := 3) dL_law_1766 rfl rfl ?_
      refine r_iconst (pc := 1767) C (v := 0) dL_law_1767 (by decide) ?_
      obtain ⟨hi9, h⟩ := ifn h
      refine r_lald (pc := 1768) C 74 rfl hi9 dL_law_1768 ?_
      refine r_iload (pc := 1769) C (i := 6) dL_law_1769 rfl ?_
      refine r_i2l (pc := 1771) C dL_law_1771 ?_
      refine r_lcmp (pc := 1772) C dL_law_1772 ?_
      refine r_if_eq (pc := 1773) C (tgt := 1778) dL_law_1773 rfl (fun c10 => ?_) (fun c10 => ?_)
      · rw [if_pos c10] at h
        refine r_goto (pc := 1778) C (tgt := 2036) dL_law_1778 rfl ?_
        cases h
        refine r_widen (k1 := cN + 20) (n1 := sN + 1600) (by simp only [Nat.le_refl, rm_L_release, rm_X10_release, rm_X10_thrown]; omega) (by simp only [Nat.le_refl, rm_L_release, rm_X10_release, rm_X10_thrown]; omega) ?_
        refine r_weak (lSub_s (lSub_s (lSub_s (lSub_s (lSub_s (lSub_n (lSub_n (lSub_n (lSub_n lSub_e))))))))) ?_
        exact hq fa3
      · rw [if_neg c10] at h
        refine r_iconst (pc := 1776) C (v := 0) dL_law_1776 (by decide) ?_
        cases h
  · rw [if_neg c7] at h
    refine r_iconst (pc := 1759) C (v := 0) dL_law_1759 (by decide) ?_
    cases h
theorem hd_X10_set : yX10_set.cls = RX10 ∧ yX10_set.cls ≠ "java/lang/invoke/MethodHandle" ∧ yX10_set.cls ≠ "java/lang/invoke/VarHandle" ∧ (parseMethodDescriptor yX10_set.desc).map (fun d => d.parameters.length) = some 2 := by decide +kernel
theorem g_L_203 : GoodIn GW (wsV RL 203 RX10 yX10_set (wsG yX10_set cX10_set 4 (some .int))) := gw_V wm_7_154 wm_7_155 wm_7_156 wm_1_9 wm_7_157
theorem hd_L_set : yL_set.cls = RL ∧ yL_set.cls ≠ "java/lang/invoke/MethodHandle" ∧ yL_set.cls ≠ "java/lang/invoke/VarHandle" ∧ (parseMethodDescriptor yL_set.desc).map (fun d => d.parameters.length) = some 4 := by decide +kernel
theorem gL_201 : GoodIn GW (va_wsS RL 201 yL_set (Cond.codeWith yL_set cL_set 5 (some .int) [(0, 10, 13, 18), (0, 10, 17, 13)] :: GW)) := gw_SW wm_5_51 wm_5_52 wm_1_0 wm_5_53
-- the law from 1781
theorem dL_law_1781 : decode cL_law 1781 = .ok (.aload_n 1, 1) := by decide +kernel
theorem dL_law_1782 : decode cL_law 1782 = .ok (.aload_n 0, 1) := by decide +kernel
theorem dL_law_1783 : decode cL_law 1783 = .ok (.iload 4, 2) := by decide +kernel
theorem dL_law_1785 : decode cL_law 1785 = .ok (.iconst 1, 1) := by decide +kernel
theorem dL_law_1786 : decode cL_law 1786 = .ok (.iadd, 1) := by decide +kernel
theorem dL_law_1787 : decode cL_law 1787 = .ok (.iaload, 1) := by decide +kernel
theorem dL_law_1788 : decode cL_law 1788 = .ok (.aload_n 0, 1) := by decide +kernel
theorem dL_law_1789 : decode cL_law 1789 = .ok (.iload 4, 2) := by decide +kernel
theorem dL_law_1791 : decode cL_law 1791 = .ok (.iconst 2, 1) := by decide +kernel
theorem dL_law_1792 : decode cL_law 1792 = .ok (.iadd, 1) := by decide +kernel
theorem dL_law_1793 : decode cL_law 1793 = .ok (.iaload, 1) := by decide +kernel
theorem dL_law_1794 : decode cL_law 1794 = .ok (.aload_n 3, 1) := by decide +kernel
theorem dL_law_1795 : decode cL_law 1795 = .ok (.invokestatic 201, 3) := by decide +kernel
theorem dL_law_1798 : decode cL_law 1798 = .ok (.istore 5, 2) := by decide +kernel
theorem dL_law_1800 : decode cL_law 1800 = .ok (.aload_n 2, 1) := by decide +kernel
theorem dL_law_1801 : decode cL_law 1801 = .ok (.aload_n 0, 1) := by decide +kernel
theorem dL_law_1802 : decode cL_law 1802 = .ok (.iload 4, 2) := by decide +kernel
theorem dL_law_1804 : decode cL_law 1804 = .ok (.iconst 1, 1) := by decide +kernel
theorem dL_law_1805 : decode cL_law 1805 = .ok (.iadd, 1) := by decide +kernel
theorem dL_law_1806 : decode cL_law 1806 = .ok (.iaload, 1) := by decide +kernel
theorem dL_law_1807 : decode cL_law 1807 = .ok (.aload_n 0, 1) := by decide +kernel
theorem dL_law_1808 : decode cL_law 1808 = .ok (.iload 4, 2) := by decide +kernel
theorem dL_law_1810 : decode cL_law 1810 = .ok (.iconst 2, 1) := by decide +kernel
theorem dL_law_1811 : decode cL_law 1811 = .ok (.iadd, 1) := by decide +kernel
theorem dL_law_1812 : decode cL_law 1812 = .ok (.iaload, 1) := by decide +kernel
theorem dL_law_1813 : decode cL_law 1813 = .ok (.invokevirtual 203, 3) := by decide +kernel
theorem dL_law_1816 : decode cL_law 1816 = .ok (.istore 6, 2) := by decide +kernel
theorem dL_law_1818 : decode cL_law 1818 = .ok (.aload_n 2, 1) := by decide +kernel
theorem dL_law_1819 : decode cL_law 1819 = .ok (.invokevirtual 106, 3) := by decide +kernel
theorem dL_law_1822 : decode cL_law 1822 = .ok (.iload 5, 2) := by decide +kernel
theorem dL_law_1824 : decode cL_law 1824 = .ok (.if_icmp .eq 5, 3) := by decide +kernel
theorem dL_law_1827 : decode cL_law 1827 = .ok (.iconst 0, 1) := by decide +kernel
theorem dL_law_1828 : decode cL_law 1828 = .ok (.ireturn, 1) := by decide +kernel
theorem dL_law_1829 : decode cL_law 1829 = .ok (.iload 5, 2) := by decide +kernel
theorem dL_law_1831 : decode cL_law 1831 = .ok (.ifCond .ne 15, 3) := by decide +kernel
theorem dL_law_1834 : decode cL_law 1834 = .ok (.aload_n 3, 1) := by decide +kernel
theorem dL_law_1835 : decode cL_law 1835 = .ok (.iconst 0, 1) := by decide +kernel
theorem dL_law_1836 : decode cL_law 1836 = .ok (.laload, 1) := by decide +kernel
theorem dL_law_1837 : decode cL_law 1837 = .ok (.iload 6, 2) := by decide +kernel
theorem dL_law_1839 : decode cL_law 1839 = .ok (.i2l, 1) := by decide +kernel
theorem dL_law_1840 : decode cL_law 1840 = .ok (.lcmp, 1) := by decide +kernel
theorem dL_law_1841 : decode cL_law 1841 = .ok (.ifCond .eq 5, 3) := by decide +kernel
theorem dL_law_1844 : decode cL_law 1844 = .ok (.iconst 0, 1) := by decide +kernel
theorem dL_law_1845 : decode cL_law 1845 = .ok (.ireturn, 1) := by decide +kernel
theorem dL_law_1846 : decode cL_law 1846 = .ok (.goto 190, 3) := by decide +kernel
def M_L_1781_1781 (k Ls : Nat) (xs : Nat → Int32) (x4 : Int32) (S : VV × VV × VV × VV × VV × Int32) (T : Nat → Nat → Int32) (U : Nat → Int64) (V : Nat × Int32 × Int32 × (Nat → VV)) : Option ((VV × VV × VV × VV × VV × Int32) × (Nat → Nat → Int32) × (Nat → Int64) × (Nat × Int32 × Int32 × (Nat → VV))) := (if inb (x4 + (1 : Int32)) Ls = true then (if inb (x4 + (2 : Int32)) Ls = true then (M_L_set k S V U (xs (x4 + (1 : Int32)).toNatClampNeg) (xs (x4 + (2 : Int32)).toNatClampNeg)).bind fun q3 => (if inb (x4 + (1 : Int32)) Ls = true then (if inb (x4 + (2 : Int32)) Ls = true then (M_X10_set k T (xs (x4 + (1 : Int32)).toNatClampNeg) (xs (x4 + (2 : Int32)).toNatClampNeg)).bind fun q7 => (M_X10_thrown k q7.2).bind fun q8 => if q8 = q3.1 then (if q3.1 = 0 then ((if inb (0 : Int32) 1 = true then if (lg_cmp ((q3.2.2.2 (0 : Int32).toNatClampNeg).toInt64) (q7.1.toInt64)) = 0 then (some (q3.2.1, q7.2, q3.2.2.2, q3.2.2.1)) else (none) else none)) else (some (q3.2.1, q7.2, q3.2.2.2, q3.2.2.1))) else (none) else none) else none) else none) else none)
set_option maxRecDepth 100000 in
set_option maxHeartbeats 4000000 in
theorem N_L_1781_1781 (C : CX E p l s m #[Value.ref bs] meth c cL_law 9 RL ret A) (a : Nat → Nat) (b : Nat → Nat) (c0 : Nat → Nat) (k Ls : Nat) (xs : Nat → Int32) (hX : va_X bs Ls xs s s.heap) (hbl : bs < s.heap.size) (hbA : ¬ A bs) (hlt : l.stackTraces = false) (hdc : DC s) (cN sN : Nat) (hcN : cN + 20 ≤ 601024 ∧ sN + 1600 ≤ 7293034) (fa : Nat → Nat → Nat) :
    ∀ (x4 : Int32) (S : VV × VV × VV × VV × VV × Int32) (T : Nat → Nat → Int32) (U : Nat → Int64) (V : Nat × Int32 × Int32 × (Nat → VV)) (q : (VV × VV × VV × VV × VV × Int32) × (Nat → Nat → Int32) × (Nat → Int64) × (Nat × Int32 × Int32 × (Nat → VV))), M_L_1781_1781 k Ls xs x4 S T U V = some q → (∀ fa' : Nat → Nat → Nat, WW E p l e room_1 s m #[Value.ref bs] below meth c A (cN + 20) (sN + 1600) (lw_Z below #[Value.ref bs] s) (wSg E a q.1 ++ wMd E b q.2.1 ++ wLo E c0 q.2.2.1 ++ wHi E a fa' q.2.2.2) 9 [some (.ref bs), some (.ref (a 0)), some (.ref (b 0)), some (.ref (c0 0)), some (.int x4), none, none, none, none] 2036 []) →
      WW E p l e room_1 s m #[Value.ref bs] below meth c A (cN + 0) (sN + 0) (lw_Z below #[Value.ref bs] s) (wSg E a S ++ wMd E b T ++ wLo E c0 U ++ wHi E a fa V) 9 [some (.ref bs), some (.ref (a 0)), some (.ref (b 0)), some (.ref (c0 0)), some (.int x4), none, none, none, none] 1781 [] := by
  intro x4 S T U V q  h hq
  unfold M_L_1781_1781 at h
  refine r_aload_n (pc := 1781) C (i := 1) dL_law_1781 rfl rfl ?_
  refine r_aload_n (pc := 1782) C (i := 0) dL_law_1782 rfl rfl ?_
  refine r_iload (pc := 1783) C (i := 4) dL_law_1783 rfl ?_
  refine r_iconst (pc := 1785) C (v := 1) dL_law_1785 (by decide) ?_
  refine r_iadd (pc := 1786) C dL_law_1786 ?_
  obtain ⟨hi1, h⟩ := ifn h
  refine r_sld (pc := 1787) C hX hbl hbA hi1 dL_law_1787 ?_
  refine r_aload_n (pc := 1788) C (i := 0) dL_law_1788 rfl rfl ?_
  refine r_iload (pc := 1789) C (i := 4) dL_law_1789 rfl ?_
  refine r_iconst (pc := 1791) C (v := 2) dL_law_1791 (by decide) ?_
  refine r_iadd (pc := 1792) C dL_law_1792 ?_
  obtain ⟨hi2, h⟩ := ifn h
  refine r_sld (pc := 1793) C hX hbl hbA hi2 dL_law_1793 ?_
  refine r_aload_n (pc := 1794) C (i := 3) dL_law_1794 rfl rfl ?_
  obtain ⟨q3, hq3, h⟩ := bnd h
  refine r_callSHT (c0 := (wSg E a S ++ ([(c0 0, .inl (eC E 1, 1, .inr (.inl U)))] ++ hiC E a fa V))) (w0 := (wSg E a S ++ wMd E b T ++ wLo E c0 U ++ hiC E a fa V)) (t := hiT E fa V) (pc := 1795) C [.ref (a 0), .int (xs (x4 + (1 : Int32)).toNatClampNeg), .int (xs (x4 + (2 : Int32)).toNatClampNeg), .ref (c0 0)] hdc (c_L_set E l k a (c0 0) fa S V U (xs (x4 + (1 : Int32)).toNatClampNeg) (xs (x4 + (2 : Int32)).toNatClampNeg) hlt hq3) [0, 1, 2, 3, 4, 5, 6, 7, 8, 9, 10, 11, 12, 13, 14, 15, 16, 17, 18, 19, 20, 21, 22, 23, 24, 25, 26, 27, 28, 29, 30, 31, 32, 33, 34, 35, 36, 37, 38, 39, 40, 41, 42, 43, 44, 45, 46, 47, 48, 49, 50, 51, 52, 53, 54, 55, 56, 57, 58, 59, 60, 74, 75, 76] (hpL2 E a b c0 fa S T U V) (by decide) gL_201 hd_L_set.2 ⟨Nat.le_of_ble_eq_true rfl, Nat.le_of_ble_eq_true rfl⟩ ⟨by have h1 : room_1.cells = 601024 := rfl; have h2 := hcN.1; simp only [Nat.le_refl, rm_L_set]; omega, by have h1 : room_1.slots = 7293034 := rfl; have h2 := hcN.2; simp only [Nat.le_refl, rm_L_set]; omega⟩ (Nat.le_of_ble_eq_true rfl) rfl dL_law_1795 (List.append_assoc _ _ _).symm (fun r w1 hw1 => ?_)
  obtain ⟨hr1, fa4, hw1, hmo⟩ := hw1
  subst hr1 hw1
  refine ⟨(wSg E a q3.2.1 ++ ([(c0 0, .inl (eC E 1, 1, .inr (.inl q3.2.2.2)))] ++ hiC E a fa4 q3.2.2.1)), hiT E fa4 q3.2.2.1, _, rfl, rfl, hiT_le hmo, pwL2 E a b c0 fa4 S T U V q3.2.1 q3.2.2.2 q3.2.2.1, ?_⟩
  refine r_world (w' := (wSg E a q3.2.1 ++ wMd E b T ++ wLo E c0 q3.2.2.2 ++ wHi E a fa4 q3.2.2.1)) (List.append_assoc _ _ _) ?_
  refine r_istore (pc := 1798) C (i := 5) dL_law_1798 (by decide) rfl ?_
  refine r_aload_n (pc := 1800) C (i := 2) dL_law_1800 rfl rfl ?_
  refine r_aload_n (pc := 1801) C (i := 0) dL_law_1801 rfl rfl ?_
  refine r_iload (pc := 1802) C (i := 4) dL_law_1802 rfl ?_
  refine r_iconst (pc := 1804) C (v := 1) dL_law_1804 (by decide) ?_
  refine r_iadd (pc := 1805) C dL_law_1805 ?_
  obtain ⟨hi5, h⟩ := ifn h
  refine r_sld (pc := 1806) C hX hbl hbA hi5 dL_law_1806 ?_
  refine r_aload_n (pc := 1807) C (i := 0) dL_law_1807 rfl rfl ?_
  refine r_iload (pc := 1808) C (i := 4) dL_law_1808 rfl ?_
  refine r_iconst (pc := 1810) C (v := 2) dL_law_1810 (by decide) ?_
  refine r_iadd (pc := 1811) C dL_law_1811 ?_
  obtain ⟨hi6, h⟩ := ifn h
  refine r_sld (pc := 1812) C hX hbl hbA hi6 dL_law_1812 ?_
  obtain ⟨q7, hq7, h⟩ := bnd h
  refine r_callV_CI (Cn := RX10) (pc := 1813) C [.int (xs (x4 + (1 : Int32)).toNatClampNeg), .int (xs (x4 + (2 : Int32)).toNatClampNeg)] (c_X10_set E l k b T (xs (x4 + (1 : Int32)).toNatClampNeg) (xs (x4 + (2 : Int32)).toNatClampNeg) hq7) [61, 62, 63, 64, 65, 66, 67, 68, 69, 70, 71, 72, 73] (hps_hi (List.append_assoc _ _ _).symm (hp_L_204_1 E a b c0 fa4 q3.2.1 T q3.2.2.2 q3.2.2.1)) (by decide) 0 rfl rfl rfl g_L_203 hd_X10_set ⟨Nat.le_of_ble_eq_true rfl, Nat.le_of_ble_eq_true rfl⟩ ⟨Nat.le_of_ble_eq_true rfl, Nat.le_of_ble_eq_true rfl⟩ (Nat.le_of_ble_eq_true rfl) rfl dL_law_1813 (fun r w1 hw1 => ?_)
  obtain ⟨hr1, hw1⟩ := hw1
  subst hr1 hw1
  refine ⟨(wSg E a q3.2.1 ++ wMd E b q7.2 ++ wLo E c0 q3.2.2.2 ++ wHi E a fa4 q3.2.2.1), by exact putW_hi (List.append_assoc _ _ _).symm (List.append_assoc _ _ _).symm (hp_L_204_1 E a b c0 fa4 q3.2.1 T q3.2.2.2 q3.2.2.1) rfl (pw_L_204_1 E a b c0 fa4 q3.2.1 T q3.2.2.2 q3.2.2.1 q7.2), ?_⟩
  refine r_istore (pc := 1816) C (i := 6) dL_law_1816 (by decide) rfl ?_
  refine r_aload_n (pc := 1818) C (i := 2) dL_law_1818 rfl rfl ?_
  obtain ⟨q8, hq8, h⟩ := bnd h
  refine r_callVp_CI (Cn := RX10) (pc := 1819) C [] (c_X10_thrown E l k b q7.2 hq8) [61, 62, 63, 64, 65, 66, 67, 68, 69, 70, 71, 72, 73] (hps_hi (List.append_assoc _ _ _).symm (hp_L_204_1 E a b c0 fa4 q3.2.1 q7.2 q3.2.2.2 q3.2.2.1)) (by decide) 0 rfl rfl rfl g_L_106 hd_X10_thrown ⟨Nat.le_of_ble_eq_true rfl, Nat.le_of_ble_eq_true rfl⟩ ⟨Nat.le_of_ble_eq_true rfl, Nat.le_of_ble_eq_true rfl⟩ (Nat.le_of_ble_eq_true rfl) rfl dL_law_1819 (fun r hr => ?_)
  have hr := hr.symm
  subst hr
  refine r_iload (pc := 1822) C (i := 5) dL_law_1822 rfl ?_
  refine r_icmp_eq (pc := 1824) C (tgt := 1829) dL_law_1824 rfl (fun c9 => ?_) (fun c9 => ?_)
  · rw [if_pos c9] at h
    refine r_iload (pc := 1829) C (i := 5) dL_law_1829 rfl ?_
    refine r_if_ne (pc := 1831) C (tgt := 1846) dL_law_1831 rfl (fun c10 => ?_) (fun c10 => ?_)
    · rw [if_neg c10] at h
      refine r_goto (pc := 1846) C (tgt := 2036) dL_law_1846 rfl ?_
      cases h
      refine r_widen (k1 := cN + 20) (n1 := sN + 1600) (by simp only [Nat.le_refl, rm_L_set, rm_X10_set, rm_X10_thrown]; omega) (by simp only [Nat.le_refl, rm_L_set, rm_X10_set, rm_X10_thrown]; omega) ?_
      refine r_weak (lSub_s (lSub_s (lSub_s (lSub_s (lSub_s (lSub_n (lSub_n (lSub_n (lSub_n lSub_e))))))))) ?_
      exact hq fa4
    · rw [if_pos c10] at h
      refine r_aload_n (pc := 1834) C (i := 3) dL_law_1834 rfl rfl ?_
      refine r_iconst (pc := 1835) C (v := 0) dL_law_1835 (by decide) ?_
      obtain ⟨hi11, h⟩ := ifn h
      refine r_lald (pc := 1836) C 74 rfl hi11 dL_law_1836 ?_
      refine r_iload (pc := 1837) C (i := 6) dL_law_1837 rfl ?_
      refine r_i2l (pc := 1839) C dL_law_1839 ?_
      refine r_lcmp (pc := 1840) C dL_law_1840 ?_
      refine r_if_eq (pc := 1841) C (tgt := 1846) dL_law_1841 rfl (fun c12 => ?_) (fun c12 => ?_)
      · rw [if_pos c12] at h
        refine r_goto (pc := 1846) C (tgt := 2036) dL_law_1846 rfl ?_
        cases h
        refine r_widen (k1 := cN + 20) (n1 := sN + 1600) (by simp only [Nat.le_refl, rm_L_set, rm_X10_set, rm_X10_thrown]; omega) (by simp only [Nat.le_refl, rm_L_set, rm_X10_set, rm_X10_thrown]; omega) ?_
        refine r_weak (lSub_s (lSub_s (lSub_s (lSub_s (lSub_s (lSub_n (lSub_n (lSub_n (lSub_n lSub_e))))))))) ?_
        exact hq fa4
      · rw [if_neg c12] at h
        refine r_iconst (pc := 1844) C (v := 0) dL_law_1844 (by decide) ?_
        cases h
  · rw [if_neg c9] at h
    refine r_iconst (pc := 1827) C (v := 0) dL_law_1827 (by decide) ?_
    cases h
theorem hd_X10_format : yX10_format.cls = RX10 ∧ yX10_format.cls ≠ "java/lang/invoke/MethodHandle" ∧ yX10_format.cls ≠ "java/lang/invoke/VarHandle" ∧ (parseMethodDescriptor yX10_format.desc).map (fun d => d.parameters.length) = some 1 := by decide +kernel
theorem g_L_206 : GoodIn GW (wsV RL 206 RX10 yX10_format (wsG yX10_format cX10_format 3 (some .int))) := gw_V wm_7_164 wm_7_165 wm_7_166 wm_1_9 wm_7_167
theorem hd_L_format : yL_format.cls = RL ∧ yL_format.cls ≠ "java/lang/invoke/MethodHandle" ∧ yL_format.cls ≠ "java/lang/invoke/VarHandle" ∧ (parseMethodDescriptor yL_format.desc).map (fun d => d.parameters.length) = some 3 := by decide +kernel
theorem gL_204 : GoodIn GW (va_wsS RL 204 yL_format (Cond.codeWith yL_format cL_format 4 (some .int) [(0, 9, 12, 18)] :: GW)) := gw_SW wm_5_62 wm_5_63 wm_1_0 wm_5_64
-- the law from 1849
theorem dL_law_1849 : decode cL_law 1849 = .ok (.aload_n 1, 1) := by decide +kernel
theorem dL_law_1850 : decode cL_law 1850 = .ok (.aload_n 0, 1) := by decide +kernel
theorem dL_law_1851 : decode cL_law 1851 = .ok (.iload 4, 2) := by decide +kernel
theorem dL_law_1853 : decode cL_law 1853 = .ok (.iconst 1, 1) := by decide +kernel
theorem dL_law_1854 : decode cL_law 1854 = .ok (.iadd, 1) := by decide +kernel
theorem dL_law_1855 : decode cL_law 1855 = .ok (.iaload, 1) := by decide +kernel
theorem dL_law_1856 : decode cL_law 1856 = .ok (.aload_n 3, 1) := by decide +kernel
theorem dL_law_1857 : decode cL_law 1857 = .ok (.invokestatic 204, 3) := by decide +kernel
theorem dL_law_1860 : decode cL_law 1860 = .ok (.istore 5, 2) := by decide +kernel
theorem dL_law_1862 : decode cL_law 1862 = .ok (.aload_n 2, 1) := by decide +kernel
theorem dL_law_1863 : decode cL_law 1863 = .ok (.aload_n 0, 1) := by decide +kernel
theorem dL_law_1864 : decode cL_law 1864 = .ok (.iload 4, 2) := by decide +kernel
theorem dL_law_1866 : decode cL_law 1866 = .ok (.iconst 1, 1) := by decide +kernel
theorem dL_law_1867 : decode cL_law 1867 = .ok (.iadd, 1) := by decide +kernel
theorem dL_law_1868 : decode cL_law 1868 = .ok (.iaload, 1) := by decide +kernel
theorem dL_law_1869 : decode cL_law 1869 = .ok (.invokevirtual 206, 3) := by decide +kernel
theorem dL_law_1872 : decode cL_law 1872 = .ok (.istore 6, 2) := by decide +kernel
theorem dL_law_1874 : decode cL_law 1874 = .ok (.aload_n 2, 1) := by decide +kernel
theorem dL_law_1875 : decode cL_law 1875 = .ok (.invokevirtual 106, 3) := by decide +kernel
theorem dL_law_1878 : decode cL_law 1878 = .ok (.iload 5, 2) := by decide +kernel
theorem dL_law_1880 : decode cL_law 1880 = .ok (.if_icmp .eq 5, 3) := by decide +kernel
theorem dL_law_1883 : decode cL_law 1883 = .ok (.iconst 0, 1) := by decide +kernel
theorem dL_law_1884 : decode cL_law 1884 = .ok (.ireturn, 1) := by decide +kernel
theorem dL_law_1885 : decode cL_law 1885 = .ok (.iload 5, 2) := by decide +kernel
theorem dL_law_1887 : decode cL_law 1887 = .ok (.ifCond .ne 15, 3) := by decide +kernel
theorem dL_law_1890 : decode cL_law 1890 = .ok (.aload_n 3, 1) := by decide +kernel
theorem dL_law_1891 : decode cL_law 1891 = .ok (.iconst 0, 1) := by decide +kernel
theorem dL_law_1892 : decode cL_law 1892 = .ok (.laload, 1) := by decide +kernel
theorem dL_law_1893 : decode cL_law 1893 = .ok (.iload 6, 2) := by decide +kernel
theorem dL_law_1895 : decode cL_law 1895 = .ok (.i2l, 1) := by decide +kernel
theorem dL_law_1896 : decode cL_law 1896 = .ok (.lcmp, 1) := by decide +kernel
theorem dL_law_1897 : decode cL_law 1897 = .ok (.ifCond .eq 5, 3) := by decide +kernel
theorem dL_law_1900 : decode cL_law 1900 = .ok (.iconst 0, 1) := by decide +kernel
theorem dL_law_1901 : decode cL_law 1901 = .ok (.ireturn, 1) := by decide +kernel
theorem dL_law_1902 : decode cL_law 1902 = .ok (.goto 134, 3) := by decide +kernel
def M_L_1849_1849 (k Ls : Nat) (xs : Nat → Int32) (x4 : Int32) (S : VV × VV × VV × VV × VV × Int32) (T : Nat → Nat → Int32) (U : Nat → Int64) (V : Nat × Int32 × Int32 × (Nat → VV)) : Option ((VV × VV × VV × VV × VV × Int32) × (Nat → Nat → Int32) × (Nat → Int64) × (Nat × Int32 × Int32 × (Nat → VV))) := (if inb (x4 + (1 : Int32)) Ls = true then (M_L_format k S U (xs (x4 + (1 : Int32)).toNatClampNeg)).bind fun q2 => (if inb (x4 + (1 : Int32)) Ls = true then (M_X10_format k T (xs (x4 + (1 : Int32)).toNatClampNeg)).bind fun q4 => (M_X10_thrown k q4.2).bind fun q5 => if q5 = q2.1 then (if q2.1 = 0 then ((if inb (0 : Int32) 1 = true then if (lg_cmp ((q2.2.2 (0 : Int32).toNatClampNeg).toInt64) (q4.1.toInt64)) = 0 then (some (q2.2.1, q4.2, q2.2.2, V)) else (none) else none)) else (some (q2.2.1, q4.2, q2.2.2, V))) else (none) else none) else none)
set_option maxRecDepth 100000 in
set_option maxHeartbeats 4000000 in
theorem N_L_1849_1849 (C : CX E p l s m #[Value.ref bs] meth c cL_law 9 RL ret A) (a : Nat → Nat) (b : Nat → Nat) (c0 : Nat → Nat) (k Ls : Nat) (xs : Nat → Int32) (hX : va_X bs Ls xs s s.heap) (hbl : bs < s.heap.size) (hbA : ¬ A bs) (hlt : l.stackTraces = false) (hdc : DC s) (cN sN : Nat) (hcN : cN + 20 ≤ 601024 ∧ sN + 1600 ≤ 7293034) (fa : Nat → Nat → Nat) :
    ∀ (x4 : Int32) (S : VV × VV × VV × VV × VV × Int32) (T : Nat → Nat → Int32) (U : Nat → Int64) (V : Nat × Int32 × Int32 × (Nat → VV)) (q : (VV × VV × VV × VV × VV × Int32) × (Nat → Nat → Int32) × (Nat → Int64) × (Nat × Int32 × Int32 × (Nat → VV))), M_L_1849_1849 k Ls xs x4 S T U V = some q → (∀ fa' : Nat → Nat → Nat, WW E p l e room_1 s m #[Value.ref bs] below meth c A (cN + 20) (sN + 1600) (lw_Z below #[Value.ref bs] s) (wSg E a q.1 ++ wMd E b q.2.1 ++ wLo E c0 q.2.2.1 ++ wHi E a fa' q.2.2.2) 9 [some (.ref bs), some (.ref (a 0)), some (.ref (b 0)), some (.ref (c0 0)), some (.int x4), none, none, none, none] 2036 []) →
      WW E p l e room_1 s m #[Value.ref bs] below meth c A (cN + 0) (sN + 0) (lw_Z below #[Value.ref bs] s) (wSg E a S ++ wMd E b T ++ wLo E c0 U ++ wHi E a fa V) 9 [some (.ref bs), some (.ref (a 0)), some (.ref (b 0)), some (.ref (c0 0)), some (.int x4), none, none, none, none] 1849 [] := by
  intro x4 S T U V q  h hq
  unfold M_L_1849_1849 at h
  refine r_aload_n (pc := 1849) C (i := 1) dL_law_1849 rfl rfl ?_
  refine r_aload_n (pc := 1850) C (i := 0) dL_law_1850 rfl rfl ?_
  refine r_iload (pc := 1851) C (i := 4) dL_law_1851 rfl ?_
  refine r_iconst (pc := 1853) C (v := 1) dL_law_1853 (by decide) ?_
  refine r_iadd (pc := 1854) C dL_law_1854 ?_
  obtain ⟨hi1, h⟩ := ifn h
  refine r_sld (pc := 1855) C hX hbl hbA hi1 dL_law_1855 ?_
  refine r_aload_n (pc := 1856) C (i := 3) dL_law_1856 rfl rfl ?_
  obtain ⟨q2, hq2, h⟩ := bnd h
  refine r_callSH (pc := 1857) C [.ref (a 0), .int (xs (x4 + (1 : Int32)).toNatClampNeg), .ref (c0 0)] hdc (c_L_format E l k a (c0 0) S U (xs (x4 + (1 : Int32)).toNatClampNeg) hlt hq2) [0, 1, 2, 3, 4, 5, 6, 7, 8, 9, 10, 11, 12, 13, 14, 15, 16, 17, 18, 19, 20, 21, 22, 23, 24, 25, 26, 27, 28, 29, 30, 31, 32, 33, 34, 35, 36, 37, 38, 39, 40, 41, 42, 43, 44, 45, 46, 47, 48, 49, 50, 51, 52, 53, 54, 55, 56, 57, 58, 59, 60, 74] (hps_hi (List.append_assoc _ _ _).symm (hpL1 E a b c0 fa S T U V)) (by decide) gL_204 hd_L_format.2 ⟨Nat.le_of_ble_eq_true rfl, Nat.le_of_ble_eq_true rfl⟩ ⟨by have h1 : room_1.cells = 601024 := rfl; have h2 := hcN.1; simp only [Nat.le_refl, rm_L_format]; omega, by have h1 : room_1.slots = 7293034 := rfl; have h2 := hcN.2; simp only [Nat.le_refl, rm_L_format]; omega⟩ (Nat.le_of_ble_eq_true rfl) rfl dL_law_1857 (fun r w1 hw1 => ?_)
  obtain ⟨hr1, hw1⟩ := hw1
  subst hr1 hw1
  refine ⟨(wSg E a q2.2.1 ++ wMd E b T ++ wLo E c0 q2.2.2 ++ wHi E a fa V), putW_hi (List.append_assoc _ _ _).symm (List.append_assoc _ _ _).symm (hpL1 E a b c0 fa S T U V) rfl (pwL1 E a b c0 fa S T U V q2.2.1 q2.2.2), ?_⟩
  refine r_istore (pc := 1860) C (i := 5) dL_law_1860 (by decide) rfl ?_
  refine r_aload_n (pc := 1862) C (i := 2) dL_law_1862 rfl rfl ?_
  refine r_aload_n (pc := 1863) C (i := 0) dL_law_1863 rfl rfl ?_
  refine r_iload (pc := 1864) C (i := 4) dL_law_1864 rfl ?_
  refine r_iconst (pc := 1866) C (v := 1) dL_law_1866 (by decide) ?_
  refine r_iadd (pc := 1867) C dL_law_1867 ?_
  obtain ⟨hi3, h⟩ := ifn h
  refine r_sld (pc := 1868) C hX hbl hbA hi3 dL_law_1868 ?_
  obtain ⟨q4, hq4, h⟩ := bnd h
  refine r_callV_CI (Cn := RX10) (pc := 1869) C [.int (xs (x4 + (1 : Int32)).toNatClampNeg)] (c_X10_format E l k b T (xs (x4 + (1 : Int32)).toNatClampNeg) hq4) [61, 62, 63, 64, 65, 66, 67, 68, 69, 70, 71, 72, 73] (hps_hi (List.append_assoc _ _ _).symm (hp_L_204_1 E a b c0 fa q2.2.1 T q2.2.2 V)) (by decide) 0 rfl rfl rfl g_L_206 hd_X10_format ⟨Nat.le_of_ble_eq_true rfl, Nat.le_of_ble_eq_true rfl⟩ ⟨Nat.le_of_ble_eq_true rfl, Nat.le_of_ble_eq_true rfl⟩ (Nat.le_of_ble_eq_true rfl) rfl dL_law_1869 (fun r w1 hw1 => ?_)
  obtain ⟨hr1, hw1⟩ := hw1
  subst hr1 hw1
  refine ⟨(wSg E a q2.2.1 ++ wMd E b q4.2 ++ wLo E c0 q2.2.2 ++ wHi E a fa V), by exact putW_hi (List.append_assoc _ _ _).symm (List.append_assoc _ _ _).symm (hp_L_204_1 E a b c0 fa q2.2.1 T q2.2.2 V) rfl (pw_L_204_1 E a b c0 fa q2.2.1 T q2.2.2 V q4.2), ?_⟩
  refine r_istore (pc := 1872) C (i := 6) dL_law_1872 (by decide) rfl ?_
  refine r_aload_n (pc := 1874) C (i := 2) dL_law_1874 rfl rfl ?_
  obtain ⟨q5, hq5, h⟩ := bnd h
  refine r_callVp_CI (Cn := RX10) (pc := 1875) C [] (c_X10_thrown E l k b q4.2 hq5) [61, 62, 63, 64, 65, 66, 67, 68, 69, 70, 71, 72, 73] (hps_hi (List.append_assoc _ _ _).symm (hp_L_204_1 E a b c0 fa q2.2.1 q4.2 q2.2.2 V)) (by decide) 0 rfl rfl rfl g_L_106 hd_X10_thrown ⟨Nat.le_of_ble_eq_true rfl, Nat.le_of_ble_eq_true rfl⟩ ⟨Nat.le_of_ble_eq_true rfl, Nat.le_of_ble_eq_true rfl⟩ (Nat.le_of_ble_eq_true rfl) rfl dL_law_1875 (fun r hr => ?_)
  have hr := hr.symm
  subst hr
  refine r_iload (pc := 1878) C (i := 5) dL_law_1878 rfl ?_
  refine r_icmp_eq (pc := 1880) C (tgt := 1885) dL_law_1880 rfl (fun c6 => ?_) (fun c6 => ?_)
  · rw [if_pos c6] at h
    refine r_iload (pc := 1885) C (i := 5) dL_law_1885 rfl ?_
    refine r_if_ne (pc := 1887) C (tgt := 1902) dL_law_1887 rfl (fun c7 => ?_) (fun c7 => ?_)
    · rw [if_neg c7] at h
      refine r_goto (pc := 1902) C (tgt := 2036) dL_law_1902 rfl ?_
      cases h
      refine r_widen (k1 := cN + 20) (n1 := sN + 1600) (by simp only [Nat.le_refl, rm_L_format, rm_X10_format, rm_X10_thrown]; omega) (by simp only [Nat.le_refl, rm_L_format, rm_X10_format, rm_X10_thrown]; omega) ?_
      refine r_weak (lSub_s (lSub_s (lSub_s (lSub_s (lSub_s (lSub_n (lSub_n (lSub_n (lSub_n lSub_e))))))))) ?_
      exact hq fa
    · rw [if_pos c7] at h
      refine r_aload_n (pc := 1890) C (i := 3) dL_law_1890 rfl rfl ?_
      refine r_iconst (pc := 1891) C (v := 0) dL_law_1891 (by decide) ?_
      obtain ⟨hi8, h⟩ := ifn h
      refine r_lald (pc := 1892) C 74 rfl hi8 dL_law_1892 ?_
      refine r_iload (pc := 1893) C (i := 6) dL_law_1893 rfl ?_
      refine r_i2l (pc := 1895) C dL_law_1895 ?_
      refine r_lcmp (pc := 1896) C dL_law_1896 ?_
      refine r_if_eq (pc := 1897) C (tgt := 1902) dL_law_1897 rfl (fun c9 => ?_) (fun c9 => ?_)
      · rw [if_pos c9] at h
        refine r_goto (pc := 1902) C (tgt := 2036) dL_law_1902 rfl ?_
        cases h
        refine r_widen (k1 := cN + 20) (n1 := sN + 1600) (by simp only [Nat.le_refl, rm_L_format, rm_X10_format, rm_X10_thrown]; omega) (by simp only [Nat.le_refl, rm_L_format, rm_X10_format, rm_X10_thrown]; omega) ?_
        refine r_weak (lSub_s (lSub_s (lSub_s (lSub_s (lSub_s (lSub_n (lSub_n (lSub_n (lSub_n lSub_e))))))))) ?_
        exact hq fa
      · rw [if_neg c9] at h
        refine r_iconst (pc := 1900) C (v := 0) dL_law_1900 (by decide) ?_
        cases h
  · rw [if_neg c6] at h
    refine r_iconst (pc := 1883) C (v := 0) dL_law_1883 (by decide) ?_
    cases h
theorem hd_X9_formattedByte : yX9_formattedByte.cls = RX9 ∧ yX9_formattedByte.cls ≠ "java/lang/invoke/MethodHandle" ∧ yX9_formattedByte.cls ≠ "java/lang/invoke/VarHandle" ∧ (parseMethodDescriptor yX9_formattedByte.desc).map (fun d => d.parameters.length) = some 1 := by decide +kernel
theorem g_L_207 : GoodIn GW (wsV RL 207 RX9 yX9_formattedByte (wsG yX9_formattedByte cX9_formattedByte 2 (some .int))) := gw_V wm_2_145 wm_2_146 wm_2_147 wm_1_1 wm_2_148
theorem hd_X10_formattedByte : yX10_formattedByte.cls = RX10 ∧ yX10_formattedByte.cls ≠ "java/lang/invoke/MethodHandle" ∧ yX10_formattedByte.cls ≠ "java/lang/invoke/VarHandle" ∧ (parseMethodDescriptor yX10_formattedByte.desc).map (fun d => d.parameters.length) = some 1 := by decide +kernel
theorem g_L_210 : GoodIn GW (wsV RL 210 RX10 yX10_formattedByte (wsG yX10_formattedByte cX10_formattedByte 2 (some .int))) := gw_V wm_7_190 wm_7_191 wm_7_192 wm_1_9 wm_7_193
-- the law from 1905
theorem dL_law_1905 : decode cL_law 1905 = .ok (.aload_n 1, 1) := by decide +kernel
theorem dL_law_1906 : decode cL_law 1906 = .ok (.aload_n 0, 1) := by decide +kernel
theorem dL_law_1907 : decode cL_law 1907 = .ok (.iload 4, 2) := by decide +kernel
theorem dL_law_1909 : decode cL_law 1909 = .ok (.iconst 1, 1) := by decide +kernel
theorem dL_law_1910 : decode cL_law 1910 = .ok (.iadd, 1) := by decide +kernel
theorem dL_law_1911 : decode cL_law 1911 = .ok (.iaload, 1) := by decide +kernel
theorem dL_law_1912 : decode cL_law 1912 = .ok (.invokevirtual 207, 3) := by decide +kernel
theorem dL_law_1915 : decode cL_law 1915 = .ok (.aload_n 2, 1) := by decide +kernel
theorem dL_law_1916 : decode cL_law 1916 = .ok (.aload_n 0, 1) := by decide +kernel
theorem dL_law_1917 : decode cL_law 1917 = .ok (.iload 4, 2) := by decide +kernel
theorem dL_law_1919 : decode cL_law 1919 = .ok (.iconst 1, 1) := by decide +kernel
theorem dL_law_1920 : decode cL_law 1920 = .ok (.iadd, 1) := by decide +kernel
theorem dL_law_1921 : decode cL_law 1921 = .ok (.iaload, 1) := by decide +kernel
theorem dL_law_1922 : decode cL_law 1922 = .ok (.invokevirtual 210, 3) := by decide +kernel
theorem dL_law_1925 : decode cL_law 1925 = .ok (.if_icmp .eq 111, 3) := by decide +kernel
theorem dL_law_1928 : decode cL_law 1928 = .ok (.iconst 0, 1) := by decide +kernel
theorem dL_law_1929 : decode cL_law 1929 = .ok (.ireturn, 1) := by decide +kernel
def M_L_1905_1905 (k Ls : Nat) (xs : Nat → Int32) (x4 : Int32) (S : VV × VV × VV × VV × VV × Int32) (T : Nat → Nat → Int32) (U : Nat → Int64) (V : Nat × Int32 × Int32 × (Nat → VV)) : Option ((VV × VV × VV × VV × VV × Int32) × (Nat → Nat → Int32) × (Nat → Int64) × (Nat × Int32 × Int32 × (Nat → VV))) := (if inb (x4 + (1 : Int32)) Ls = true then (M_X9_formattedByte k S (xs (x4 + (1 : Int32)).toNatClampNeg)).bind fun q2 => (if inb (x4 + (1 : Int32)) Ls = true then (M_X10_formattedByte k T (xs (x4 + (1 : Int32)).toNatClampNeg)).bind fun q4 => if q2 = q4.1 then (some (S, q4.2, U, V)) else (none) else none) else none)
set_option maxRecDepth 100000 in
set_option maxHeartbeats 4000000 in
theorem N_L_1905_1905 (C : CX E p l s m #[Value.ref bs] meth c cL_law 9 RL ret A) (a : Nat → Nat) (b : Nat → Nat) (c0 : Nat → Nat) (k Ls : Nat) (xs : Nat → Int32) (hX : va_X bs Ls xs s s.heap) (hbl : bs < s.heap.size) (hbA : ¬ A bs) (hlt : l.stackTraces = false) (hdc : DC s) (cN sN : Nat) (hcN : cN + 20 ≤ 601024 ∧ sN + 1600 ≤ 7293034) (fa : Nat → Nat → Nat) :
    ∀ (x4 : Int32) (S : VV × VV × VV × VV × VV × Int32) (T : Nat → Nat → Int32) (U : Nat → Int64) (V : Nat × Int32 × Int32 × (Nat → VV)) (q : (VV × VV × VV × VV × VV × Int32) × (Nat → Nat → Int32) × (Nat → Int64) × (Nat × Int32 × Int32 × (Nat → VV))), M_L_1905_1905 k Ls xs x4 S T U V = some q → (∀ fa' : Nat → Nat → Nat, WW E p l e room_1 s m #[Value.ref bs] below meth c A (cN + 20) (sN + 1600) (lw_Z below #[Value.ref bs] s) (wSg E a q.1 ++ wMd E b q.2.1 ++ wLo E c0 q.2.2.1 ++ wHi E a fa' q.2.2.2) 9 [some (.ref bs), some (.ref (a 0)), some (.ref (b 0)), some (.ref (c0 0)), some (.int x4), none, none, none, none] 2036 []) →
      WW E p l e room_1 s m #[Value.ref bs] below meth c A (cN + 0) (sN + 0) (lw_Z below #[Value.ref bs] s) (wSg E a S ++ wMd E b T ++ wLo E c0 U ++ wHi E a fa V) 9 [some (.ref bs), some (.ref (a 0)), some (.ref (b 0)), some (.ref (c0 0)), some (.int x4), none, none, none, none] 1905 [] := by
  intro x4 S T U V q  h hq
  unfold M_L_1905_1905 at h
  refine r_aload_n (pc := 1905) C (i := 1) dL_law_1905 rfl rfl ?_
  refine r_aload_n (pc := 1906) C (i := 0) dL_law_1906 rfl rfl ?_
  refine r_iload (pc := 1907) C (i := 4) dL_law_1907 rfl ?_
  refine r_iconst (pc := 1909) C (v := 1) dL_law_1909 (by decide) ?_
  refine r_iadd (pc := 1910) C dL_law_1910 ?_
  obtain ⟨hi1, h⟩ := ifn h
  refine r_sld (pc := 1911) C hX hbl hbA hi1 dL_law_1911 ?_
  obtain ⟨q2, hq2, h⟩ := bnd h
  refine r_callVp_CI (Cn := RX9) (pc := 1912) C [.int (xs (x4 + (1 : Int32)).toNatClampNeg)] (c_X9_formattedByte E l k a S (xs (x4 + (1 : Int32)).toNatClampNeg) hq2) [0, 1, 2, 3, 4, 5, 6, 7, 8, 9, 10, 11, 12, 13, 14, 15, 16, 17, 18, 19, 20, 21, 22, 23, 24, 25, 26, 27, 28, 29, 30, 31, 32, 33, 34, 35, 36, 37, 38, 39, 40, 41, 42, 43, 44, 45, 46, 47, 48, 49, 50, 51, 52, 53, 54, 55, 56, 57, 58, 59, 60] (hps_hi (List.append_assoc _ _ _).symm (hp_L_204_0 E a b c0 fa S T U V)) (by decide) 0 rfl rfl rfl g_L_207 hd_X9_formattedByte ⟨Nat.le_of_ble_eq_true rfl, Nat.le_of_ble_eq_true rfl⟩ ⟨Nat.zero_le _, Nat.zero_le _⟩ (Nat.le_of_ble_eq_true rfl) rfl dL_law_1912 (fun r hr => ?_)
  have hr := hr.symm
  subst hr
  refine r_aload_n (pc := 1915) C (i := 2) dL_law_1915 rfl rfl ?_
  refine r_aload_n (pc := 1916) C (i := 0) dL_law_1916 rfl rfl ?_
  refine r_iload (pc := 1917) C (i := 4) dL_law_1917 rfl ?_
  refine r_iconst (pc := 1919) C (v := 1) dL_law_1919 (by decide) ?_
  refine r_iadd (pc := 1920) C dL_law_1920 ?_
  obtain ⟨hi3, h⟩ := ifn h
  refine r_sld (pc := 1921) C hX hbl hbA hi3 dL_law_1921 ?_
  obtain ⟨q4, hq4, h⟩ := bnd h
  refine r_callV_CI (Cn := RX10) (pc := 1922) C [.int (xs (x4 + (1 : Int32)).toNatClampNeg)] (c_X10_formattedByte E l k b T (xs (x4 + (1 : Int32)).toNatClampNeg) hq4) [61, 62, 63, 64, 65, 66, 67, 68, 69, 70, 71, 72, 73] (hps_hi (List.append_assoc _ _ _).symm (hp_L_204_1 E a b c0 fa S T U V)) (by decide) 0 rfl rfl rfl g_L_210 hd_X10_formattedByte ⟨Nat.le_of_ble_eq_true rfl, Nat.le_of_ble_eq_true rfl⟩ ⟨Nat.zero_le _, Nat.zero_le _⟩ (Nat.le_of_ble_eq_true rfl) rfl dL_law_1922 (fun r w1 hw1 => ?_)
  obtain ⟨hr1, hw1⟩ := hw1
  subst hr1 hw1
  refine ⟨(wSg E a S ++ wMd E b q4.2 ++ wLo E c0 U ++ wHi E a fa V), by exact putW_hi (List.append_assoc _ _ _).symm (List.append_assoc _ _ _).symm (hp_L_204_1 E a b c0 fa S T U V) rfl (pw_L_204_1 E a b c0 fa S T U V q4.2), ?_⟩
  refine r_icmp_eq (pc := 1925) C (tgt := 2036) dL_law_1925 rfl (fun c5 => ?_) (fun c5 => ?_)
  · rw [if_pos c5] at h
    cases h
    refine r_widen (k1 := cN + 20) (n1 := sN + 1600) (by simp only [Nat.le_refl, rm_X9_formattedByte, rm_X10_formattedByte]; omega) (by simp only [Nat.le_refl, rm_X9_formattedByte, rm_X10_formattedByte]; omega) ?_
    refine r_weak (lSub_s (lSub_s (lSub_s (lSub_s (lSub_s (lSub_n (lSub_n (lSub_n (lSub_n lSub_e))))))))) ?_
    exact hq fa
  · rw [if_neg c5] at h
    refine r_iconst (pc := 1928) C (v := 0) dL_law_1928 (by decide) ?_
    cases h
theorem hd_X9_undoCount : yX9_undoCount.cls = RX9 ∧ yX9_undoCount.cls ≠ "java/lang/invoke/MethodHandle" ∧ yX9_undoCount.cls ≠ "java/lang/invoke/VarHandle" ∧ (parseMethodDescriptor yX9_undoCount.desc).map (fun d => d.parameters.length) = some 0 := by decide +kernel
theorem g_L_211 : GoodIn GW (wsV RL 211 RX9 yX9_undoCount (wsG yX9_undoCount cX9_undoCount 1 (some .int))) := gw_V wm_2_153 wm_2_154 wm_2_155 wm_1_1 wm_2_156
theorem hd_X10_undoCount : yX10_undoCount.cls = RX10 ∧ yX10_undoCount.cls ≠ "java/lang/invoke/MethodHandle" ∧ yX10_undoCount.cls ≠ "java/lang/invoke/VarHandle" ∧ (parseMethodDescriptor yX10_undoCount.desc).map (fun d => d.parameters.length) = some 0 := by decide +kernel
theorem g_L_214 : GoodIn GW (wsV RL 214 RX10 yX10_undoCount (wsG yX10_undoCount cX10_undoCount 1 (some .int))) := gw_V wm_7_194 wm_7_195 wm_7_196 wm_1_9 wm_7_197
-- the law from 1930
theorem dL_law_1930 : decode cL_law 1930 = .ok (.aload_n 1, 1) := by decide +kernel
theorem dL_law_1931 : decode cL_law 1931 = .ok (.invokevirtual 211, 3) := by decide +kernel
theorem dL_law_1934 : decode cL_law 1934 = .ok (.aload_n 2, 1) := by decide +kernel
theorem dL_law_1935 : decode cL_law 1935 = .ok (.invokevirtual 214, 3) := by decide +kernel
theorem dL_law_1938 : decode cL_law 1938 = .ok (.if_icmp .eq 98, 3) := by decide +kernel
theorem dL_law_1941 : decode cL_law 1941 = .ok (.iconst 0, 1) := by decide +kernel
theorem dL_law_1942 : decode cL_law 1942 = .ok (.ireturn, 1) := by decide +kernel
def M_L_1930_1930 (k Ls : Nat) (xs : Nat → Int32) (x4 : Int32) (S : VV × VV × VV × VV × VV × Int32) (T : Nat → Nat → Int32) (U : Nat → Int64) (V : Nat × Int32 × Int32 × (Nat → VV)) : Option ((VV × VV × VV × VV × VV × Int32) × (Nat → Nat → Int32) × (Nat → Int64) × (Nat × Int32 × Int32 × (Nat → VV))) := (M_X9_undoCount k S V).bind fun q1 => (M_X10_undoCount k T).bind fun q3 => if q1 = q3.1 then (some (S, q3.2, U, V)) else (none)
set_option maxRecDepth 100000 in
set_option maxHeartbeats 4000000 in
theorem N_L_1930_1930 (C : CX E p l s m #[Value.ref bs] meth c cL_law 9 RL ret A) (a : Nat → Nat) (b : Nat → Nat) (c0 : Nat → Nat) (k Ls : Nat) (xs : Nat → Int32) (hX : va_X bs Ls xs s s.heap) (hbl : bs < s.heap.size) (hbA : ¬ A bs) (hlt : l.stackTraces = false) (hdc : DC s) (cN sN : Nat) (hcN : cN + 20 ≤ 601024 ∧ sN + 1600 ≤ 7293034) (fa : Nat → Nat → Nat) :
    ∀ (x4 : Int32) (S : VV × VV × VV × VV × VV × Int32) (T : Nat → Nat → Int32) (U : Nat → Int64) (V : Nat × Int32 × Int32 × (Nat → VV)) (q : (VV × VV × VV × VV × VV × Int32) × (Nat → Nat → Int32) × (Nat → Int64) × (Nat × Int32 × Int32 × (Nat → VV))), M_L_1930_1930 k Ls xs x4 S T U V = some q → (∀ fa' : Nat → Nat → Nat, WW E p l e room_1 s m #[Value.ref bs] below meth c A (cN + 20) (sN + 1600) (lw_Z below #[Value.ref bs] s) (wSg E a q.1 ++ wMd E b q.2.1 ++ wLo E c0 q.2.2.1 ++ wHi E a fa' q.2.2.2) 9 [some (.ref bs), some (.ref (a 0)), some (.ref (b 0)), some (.ref (c0 0)), some (.int x4), none, none, none, none] 2036 []) →
      WW E p l e room_1 s m #[Value.ref bs] below meth c A (cN + 0) (sN + 0) (lw_Z below #[Value.ref bs] s) (wSg E a S ++ wMd E b T ++ wLo E c0 U ++ wHi E a fa V) 9 [some (.ref bs), some (.ref (a 0)), some (.ref (b 0)), some (.ref (c0 0)), some (.int x4), none, none, none, none] 1930 [] := by
  intro x4 S T U V q  h hq
  unfold M_L_1930_1930 at h
  refine r_aload_n (pc := 1930) C (i := 1) dL_law_1930 rfl rfl ?_
  obtain ⟨q1, hq1, h⟩ := bnd h
  refine r_callT_CI (Cn := RX9) (c0 := (wSg E a S ++ hiC E a fa V)) (w0 := (wSg E a S ++ wMd E b T ++ wLo E c0 U ++ hiC E a fa V)) (t := hiT E fa V) (pc := 1931) C [] (c2_X9_undoCount E l k a fa S V hq1) [0, 1, 2, 3, 4, 5, 6, 7, 8, 9, 10, 11, 12, 13, 14, 15, 16, 17, 18, 19, 20, 21, 22, 23, 24, 25, 26, 27, 28, 29, 30, 31, 32, 33, 34, 35, 36, 37, 38, 39, 40, 41, 42, 43, 44, 45, 46, 47, 48, 49, 50, 51, 52, 53, 54, 55, 56, 57, 58, 59, 60, 75, 76] (hpL3 E a b c0 fa S T U V) (by decide) 0 rfl rfl rfl g_L_211 hd_X9_undoCount ⟨Nat.le_of_ble_eq_true rfl, Nat.le_of_ble_eq_true rfl⟩ ⟨by have h1 : room_1.cells = 601024 := rfl; have h2 := hcN.1; simp only [Nat.le_refl, rm_X9_undoCount]; omega, by have h1 : room_1.slots = 7293034 := rfl; have h2 := hcN.2; simp only [Nat.le_refl, rm_X9_undoCount]; omega⟩ (Nat.le_of_ble_eq_true rfl) rfl dL_law_1931 (List.append_assoc _ _ _).symm (fun r w1 hw1 => ?_)
  obtain ⟨hr1, fa2, hw1⟩ := hw1
  subst hr1 hw1
  refine ⟨wSg E a S ++ hiC E a fa2 V, hiT E fa2 V, _, (List.append_assoc _ _ _).symm, rfl, hiT_le (Nat.le_refl _), pwL3 E a b c0 fa2 S T U V S V, ?_⟩
  refine r_world (w' := (wSg E a S ++ wMd E b T ++ wLo E c0 U ++ wHi E a fa2 V)) (List.append_assoc _ _ _) ?_
  refine r_aload_n (pc := 1934) C (i := 2) dL_law_1934 rfl rfl ?_
  obtain ⟨q3, hq3, h⟩ := bnd h
  refine r_callV_CI (Cn := RX10) (pc := 1935) C [] (c_X10_undoCount E l k b T hq3) [61, 62, 63, 64, 65, 66, 67, 68, 69, 70, 71, 72, 73] (hps_hi (List.append_assoc _ _ _).symm (hp_L_204_1 E a b c0 fa2 S T U V)) (by decide) 0 rfl rfl rfl g_L_214 hd_X10_undoCount ⟨Nat.le_of_ble_eq_true rfl, Nat.le_of_ble_eq_true rfl⟩ ⟨Nat.zero_le _, Nat.zero_le _⟩ (Nat.le_of_ble_eq_true rfl) rfl dL_law_1935 (fun r w1 hw1 => ?_)
  obtain ⟨hr1, hw1⟩ := hw1
  subst hr1 hw1
  refine ⟨(wSg E a S ++ wMd E b q3.2 ++ wLo E c0 U ++ wHi E a fa2 V), by exact putW_hi (List.append_assoc _ _ _).symm (List.append_assoc _ _ _).symm (hp_L_204_1 E a b c0 fa2 S T U V) rfl (pw_L_204_1 E a b c0 fa2 S T U V q3.2), ?_⟩
  refine r_icmp_eq (pc := 1938) C (tgt := 2036) dL_law_1938 rfl (fun c4 => ?_) (fun c4 => ?_)
  · rw [if_pos c4] at h
    cases h
    refine r_widen (k1 := cN + 20) (n1 := sN + 1600) (by simp only [Nat.le_refl, rm_X9_undoCount, rm_X10_undoCount]; omega) (by simp only [Nat.le_refl, rm_X9_undoCount, rm_X10_undoCount]; omega) ?_
    refine r_weak (lSub_s (lSub_s (lSub_s (lSub_s (lSub_s (lSub_n (lSub_n (lSub_n (lSub_n lSub_e))))))))) ?_
    exact hq fa2
  · rw [if_neg c4] at h
    refine r_iconst (pc := 1941) C (v := 0) dL_law_1941 (by decide) ?_
    cases h
theorem hd_X9_undo : yX9_undo.cls = RX9 ∧ yX9_undo.cls ≠ "java/lang/invoke/MethodHandle" ∧ yX9_undo.cls ≠ "java/lang/invoke/VarHandle" ∧ (parseMethodDescriptor yX9_undo.desc).map (fun d => d.parameters.length) = some 0 := by decide +kernel
theorem g_L_215 : GoodIn GW (wsV RL 215 RX9 yX9_undo (wsG yX9_undo cX9_undo 1 (some .int))) := gw_V wm_2_157 wm_2_158 wm_2_159 wm_1_1 wm_2_160
theorem hd_X10_undo : yX10_undo.cls = RX10 ∧ yX10_undo.cls ≠ "java/lang/invoke/MethodHandle" ∧ yX10_undo.cls ≠ "java/lang/invoke/VarHandle" ∧ (parseMethodDescriptor yX10_undo.desc).map (fun d => d.parameters.length) = some 0 := by decide +kernel
theorem g_L_218 : GoodIn GW (wsV RL 218 RX10 yX10_undo (wsG yX10_undo cX10_undo 1 (some .int))) := gw_V wm_7_198 wm_7_199 wm_7_200 wm_1_9 wm_7_201
-- the law from 1943
theorem dL_law_1943 : decode cL_law 1943 = .ok (.aload_n 1, 1) := by decide +kernel
theorem dL_law_1944 : decode cL_law 1944 = .ok (.invokevirtual 215, 3) := by decide +kernel
theorem dL_law_1947 : decode cL_law 1947 = .ok (.aload_n 2, 1) := by decide +kernel
theorem dL_law_1948 : decode cL_law 1948 = .ok (.invokevirtual 218, 3) := by decide +kernel
theorem dL_law_1951 : decode cL_law 1951 = .ok (.if_icmp .eq 85, 3) := by decide +kernel
theorem dL_law_1954 : decode cL_law 1954 = .ok (.iconst 0, 1) := by decide +kernel
theorem dL_law_1955 : decode cL_law 1955 = .ok (.ireturn, 1) := by decide +kernel
def M_L_1943_1943 (k Ls : Nat) (xs : Nat → Int32) (x4 : Int32) (S : VV × VV × VV × VV × VV × Int32) (T : Nat → Nat → Int32) (U : Nat → Int64) (V : Nat × Int32 × Int32 × (Nat → VV)) : Option ((VV × VV × VV × VV × VV × Int32) × (Nat → Nat → Int32) × (Nat → Int64) × (Nat × Int32 × Int32 × (Nat → VV))) := (M_X9_undo k S V).bind fun q1 => (M_X10_undo k T).bind fun q3 => if q1.1 = q3.1 then (some (q1.2.1, q3.2, U, q1.2.2)) else (none)
set_option maxRecDepth 100000 in
set_option maxHeartbeats 4000000 in
theorem N_L_1943_1943 (C : CX E p l s m #[Value.ref bs] meth c cL_law 9 RL ret A) (a : Nat → Nat) (b : Nat → Nat) (c0 : Nat → Nat) (k Ls : Nat) (xs : Nat → Int32) (hX : va_X bs Ls xs s s.heap) (hbl : bs < s.heap.size) (hbA : ¬ A bs) (hlt : l.stackTraces = false) (hdc : DC s) (cN sN : Nat) (hcN : cN + 20 ≤ 601024 ∧ sN + 1600 ≤ 7293034) (fa : Nat → Nat → Nat) :
    ∀ (x4 : Int32) (S : VV × VV × VV × VV × VV × Int32) (T : Nat → Nat → Int32) (U : Nat → Int64) (V : Nat × Int32 × Int32 × (Nat → VV)) (q : (VV × VV × VV × VV × VV × Int32) × (Nat → Nat → Int32) × (Nat → Int64) × (Nat × Int32 × Int32 × (Nat → VV))), M_L_1943_1943 k Ls xs x4 S T U V = some q → (∀ fa' : Nat → Nat → Nat, WW E p l e room_1 s m #[Value.ref bs] below meth c A (cN + 20) (sN + 1600) (lw_Z below #[Value.ref bs] s) (wSg E a q.1 ++ wMd E b q.2.1 ++ wLo E c0 q.2.2.1 ++ wHi E a fa' q.2.2.2) 9 [some (.ref bs), some (.ref (a 0)), some (.ref (b 0)), some (.ref (c0 0)), some (.int x4), none, none, none, none] 2036 []) →
      WW E p l e room_1 s m #[Value.ref bs] below meth c A (cN + 0) (sN + 0) (lw_Z below #[Value.ref bs] s) (wSg E a S ++ wMd E b T ++ wLo E c0 U ++ wHi E a fa V) 9 [some (.ref bs), some (.ref (a 0)), some (.ref (b 0)), some (.ref (c0 0)), some (.int x4), none, none, none, none] 1943 [] := by
  intro x4 S T U V q  h hq
  unfold M_L_1943_1943 at h
  refine r_aload_n (pc := 1943) C (i := 1) dL_law_1943 rfl rfl ?_
  obtain ⟨q1, hq1, h⟩ := bnd h
  refine r_callT_CI (Cn := RX9) (c0 := (wSg E a S ++ hiC E a fa V)) (w0 := (wSg E a S ++ wMd E b T ++ wLo E c0 U ++ hiC E a fa V)) (t := hiT E fa V) (pc := 1944) C [] (c2_X9_undo E l k a fa S V hq1) [0, 1, 2, 3, 4, 5, 6, 7, 8, 9, 10, 11, 12, 13, 14, 15, 16, 17, 18, 19, 20, 21, 22, 23, 24, 25, 26, 27, 28, 29, 30, 31, 32, 33, 34, 35, 36, 37, 38, 39, 40, 41, 42, 43, 44, 45, 46, 47, 48, 49, 50, 51, 52, 53, 54, 55, 56, 57, 58, 59, 60, 75, 76] (hpL3 E a b c0 fa S T U V) (by decide) 0 rfl rfl rfl g_L_215 hd_X9_undo ⟨Nat.le_of_ble_eq_true rfl, Nat.le_of_ble_eq_true rfl⟩ ⟨by have h1 : room_1.cells = 601024 := rfl; have h2 := hcN.1; simp only [Nat.le_refl, rm_X9_undo]; omega, by have h1 : room_1.slots = 7293034 := rfl; have h2 := hcN.2; simp only [Nat.le_refl, rm_X9_undo]; omega⟩ (Nat.le_of_ble_eq_true rfl) rfl dL_law_1944 (List.append_assoc _ _ _).symm (fun r w1 hw1 => ?_)
  obtain ⟨hr1, fa2, hw1, hmo⟩ := hw1
  subst hr1 hw1
  refine ⟨wSg E a q1.2.1 ++ hiC E a fa2 q1.2.2, hiT E fa2 q1.2.2, _, (List.append_assoc _ _ _).symm, rfl, hiT_le hmo, pwL3 E a b c0 fa2 S T U V q1.2.1 q1.2.2, ?_⟩
  refine r_world (w' := (wSg E a q1.2.1 ++ wMd E b T ++ wLo E c0 U ++ wHi E a fa2 q1.2.2)) (List.append_assoc _ _ _) ?_
  refine r_aload_n (pc := 1947) C (i := 2) dL_law_1947 rfl rfl ?_
  obtain ⟨q3, hq3, h⟩ := bnd h
  refine r_callV_CI (Cn := RX10) (pc := 1948) C [] (c_X10_undo E l k b T hq3) [61, 62, 63, 64, 65, 66, 67, 68, 69, 70, 71, 72, 73] (hps_hi (List.append_assoc _ _ _).symm (hp_L_204_1 E a b c0 fa2 q1.2.1 T U q1.2.2)) (by decide) 0 rfl rfl rfl g_L_218 hd_X10_undo ⟨Nat.le_of_ble_eq_true rfl, Nat.le_of_ble_eq_true rfl⟩ ⟨Nat.zero_le _, Nat.zero_le _⟩ (Nat.le_of_ble_eq_true rfl) rfl dL_law_1948 (fun r w1 hw1 => ?_)
  obtain ⟨hr1, hw1⟩ := hw1
  subst hr1 hw1
  refine ⟨(wSg E a q1.2.1 ++ wMd E b q3.2 ++ wLo E c0 U ++ wHi E a fa2 q1.2.2), by exact putW_hi (List.append_assoc _ _ _).symm (List.append_assoc _ _ _).symm (hp_L_204_1 E a b c0 fa2 q1.2.1 T U q1.2.2) rfl (pw_L_204_1 E a b c0 fa2 q1.2.1 T U q1.2.2 q3.2), ?_⟩
  refine r_icmp_eq (pc := 1951) C (tgt := 2036) dL_law_1951 rfl (fun c4 => ?_) (fun c4 => ?_)
  · rw [if_pos c4] at h
    cases h
    refine r_widen (k1 := cN + 20) (n1 := sN + 1600) (by simp only [Nat.le_refl, rm_X9_undo, rm_X10_undo]; omega) (by simp only [Nat.le_refl, rm_X9_undo, rm_X10_undo]; omega) ?_
    refine r_weak (lSub_s (lSub_s (lSub_s (lSub_s (lSub_s (lSub_n (lSub_n (lSub_n (lSub_n lSub_e))))))))) ?_
    exact hq fa2
  · rw [if_neg c4] at h
    refine r_iconst (pc := 1954) C (v := 0) dL_law_1954 (by decide) ?_
    cases h
end WALKS
