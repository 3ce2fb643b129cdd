section WALKS
variable {E : ENV} {p : Program} {l : Launch} {e : Env} {s : State} {m : MethodId} {args : Array Value} {below : List Frame} {meth : Method} {c : Code} {A : Nat → Prop} {bs : Nat}
theorem hd_X10_queued : yX10_queued.cls = RX10 ∧ yX10_queued.cls ≠ "java/lang/invoke/MethodHandle" ∧ yX10_queued.cls ≠ "java/lang/invoke/VarHandle" ∧ (parseMethodDescriptor yX10_queued.desc).map (fun d => d.parameters.length) = some 2 := by decide +kernel
theorem g_L_132 : GoodIn GW (wsV RL 132 RX10 yX10_queued (wsG yX10_queued cX10_queued 4 (some .int))) := gw_V wm_6_186 wm_6_187 wm_6_188 wm_1_9 wm_6_189
theorem hd_L_queued : yL_queued.cls = RL ∧ yL_queued.cls ≠ "java/lang/invoke/MethodHandle" ∧ yL_queued.cls ≠ "java/lang/invoke/VarHandle" ∧ (parseMethodDescriptor yL_queued.desc).map (fun d => d.parameters.length) = some 4 := by decide +kernel
theorem gL_130 : GoodIn GW (va_wsS RL 130 yL_queued (Cond.codeWith yL_queued cL_queued 5 (some .int) [(0, 10, 13, 18)] :: GW)) := gw_SW wm_4_70 wm_4_71 wm_1_0 wm_4_72
-- the law from 662
theorem dL_law_662 : decode cL_law 662 = .ok (.aload_n 1, 1) := by decide +kernel
theorem dL_law_663 : decode cL_law 663 = .ok (.aload_n 0, 1) := by decide +kernel
theorem dL_law_664 : decode cL_law 664 = .ok (.iload 4, 2) := by decide +kernel
theorem dL_law_666 : decode cL_law 666 = .ok (.iconst 1, 1) := by decide +kernel
theorem dL_law_667 : decode cL_law 667 = .ok (.iadd, 1) := by decide +kernel
theorem dL_law_668 : decode cL_law 668 = .ok (.iaload, 1) := by decide +kernel
theorem dL_law_669 : decode cL_law 669 = .ok (.aload_n 0, 1) := by decide +kernel
theorem dL_law_670 : decode cL_law 670 = .ok (.iload 4, 2) := by decide +kernel
theorem dL_law_672 : decode cL_law 672 = .ok (.iconst 2, 1) := by decide +kernel
theorem dL_law_673 : decode cL_law 673 = .ok (.iadd, 1) := by decide +kernel
theorem dL_law_674 : decode cL_law 674 = .ok (.iaload, 1) := by decide +kernel
theorem dL_law_675 : decode cL_law 675 = .ok (.aload_n 3, 1) := by decide +kernel
theorem dL_law_676 : decode cL_law 676 = .ok (.invokestatic 130, 3) := by decide +kernel
theorem dL_law_679 : decode cL_law 679 = .ok (.istore 5, 2) := by decide +kernel
theorem dL_law_681 : decode cL_law 681 = .ok (.aload_n 2, 1) := by decide +kernel
theorem dL_law_682 : decode cL_law 682 = .ok (.aload_n 0, 1) := by decide +kernel
theorem dL_law_683 : decode cL_law 683 = .ok (.iload 4, 2) := by decide +kernel
theorem dL_law_685 : decode cL_law 685 = .ok (.iconst 1, 1) := by decide +kernel
theorem dL_law_686 : decode cL_law 686 = .ok (.iadd, 1) := by decide +kernel
theorem dL_law_687 : decode cL_law 687 = .ok (.iaload, 1) := by decide +kernel
theorem dL_law_688 : decode cL_law 688 = .ok (.aload_n 0, 1) := by decide +kernel
theorem dL_law_689 : decode cL_law 689 = .ok (.iload 4, 2) := by decide +kernel
theorem dL_law_691 : decode cL_law 691 = .ok (.iconst 2, 1) := by decide +kernel
theorem dL_law_692 : decode cL_law 692 = .ok (.iadd, 1) := by decide +kernel
theorem dL_law_693 : decode cL_law 693 = .ok (.iaload, 1) := by decide +kernel
theorem dL_law_694 : decode cL_law 694 = .ok (.invokevirtual 132, 3) := by decide +kernel
theorem dL_law_697 : decode cL_law 697 = .ok (.istore 6, 2) := by decide +kernel
theorem dL_law_699 : decode cL_law 699 = .ok (.aload_n 2, 1) := by decide +kernel
theorem dL_law_700 : decode cL_law 700 = .ok (.invokevirtual 106, 3) := by decide +kernel
theorem dL_law_703 : decode cL_law 703 = .ok (.iload 5, 2) := by decide +kernel
theorem dL_law_705 : decode cL_law 705 = .ok (.if_icmp .eq 5, 3) := by decide +kernel
theorem dL_law_708 : decode cL_law 708 = .ok (.iconst 0, 1) := by decide +kernel
theorem dL_law_709 : decode cL_law 709 = .ok (.ireturn, 1) := by decide +kernel
theorem dL_law_710 : decode cL_law 710 = .ok (.iload 5, 2) := by decide +kernel
theorem dL_law_712 : decode cL_law 712 = .ok (.ifCond .ne 15, 3) := by decide +kernel
theorem dL_law_715 : decode cL_law 715 = .ok (.aload_n 3, 1) := by decide +kernel
theorem dL_law_716 : decode cL_law 716 = .ok (.iconst 0, 1) := by decide +kernel
theorem dL_law_717 : decode cL_law 717 = .ok (.laload, 1) := by decide +kernel
theorem dL_law_718 : decode cL_law 718 = .ok (.iload 6, 2) := by decide +kernel
theorem dL_law_720 : decode cL_law 720 = .ok (.i2l, 1) := by decide +kernel
theorem dL_law_721 : decode cL_law 721 = .ok (.lcmp, 1) := by decide +kernel
theorem dL_law_722 : decode cL_law 722 = .ok (.ifCond .eq 5, 3) := by decide +kernel
theorem dL_law_725 : decode cL_law 725 = .ok (.iconst 0, 1) := by decide +kernel
theorem dL_law_726 : decode cL_law 726 = .ok (.ireturn, 1) := by decide +kernel
theorem dL_law_727 : decode cL_law 727 = .ok (.goto 1309, 3) := by decide +kernel
def M_L_662_662 (k Ls : Nat) (xs : Nat → Int32) (x4 : Int32) (S : VV × VV × VV × VV × VV × Int32) (T : Nat → Nat → Int32) (U : Nat → Int64) (V : Nat × Int32 × Int32 × (Nat → VV)) : Option ((VV × VV × VV × VV × VV × Int32) × (Nat → Nat → Int32) × (Nat → Int64) × (Nat × Int32 × Int32 × (Nat → VV))) := (if inb (x4 + (1 : Int32)) Ls = true then (if inb (x4 + (2 : Int32)) Ls = true then (M_L_queued k S U (xs (x4 + (1 : Int32)).toNatClampNeg) (xs (x4 + (2 : Int32)).toNatClampNeg)).bind fun q3 => (if inb (x4 + (1 : Int32)) Ls = true then (if inb (x4 + (2 : Int32)) Ls = true then (M_X10_queued k T (xs (x4 + (1 : Int32)).toNatClampNeg) (xs (x4 + (2 : Int32)).toNatClampNeg)).bind fun q6 => (M_X10_thrown k q6.2).bind fun q7 => if q7 = q3.1 then (if q3.1 = 0 then ((if inb (0 : Int32) 1 = true then if (lg_cmp (q3.2 (0 : Int32).toNatClampNeg) (q6.1.toInt64)) = 0 then (some (S, q6.2, q3.2, V)) else (none) else none)) else (some (S, q6.2, q3.2, V))) else (none) else none) else none) else none) else none)
set_option maxRecDepth 100000 in
set_option maxHeartbeats 4000000 in
theorem N_L_662_662 (C : CX E p l s m #[Value.ref bs] meth c cL_law 9 RL ret A) (a : Nat → Nat) (b : Nat → Nat) (c0 : Nat → Nat) (k Ls : Nat) (xs : Nat → Int32) (hX : va_X bs Ls xs s s.heap) (hbl : bs < s.heap.size) (hbA : ¬ A bs) (hlt : l.stackTraces = false) (hdc : DC s) (cN sN : Nat) (hcN : cN + 20 ≤ 601024 ∧ sN + 1600 ≤ 7293034) (fa : Nat → Nat → Nat) :
    ∀ (x4 : Int32) (S : VV × VV × VV × VV × VV × Int32) (T : Nat → Nat → Int32) (U : Nat → Int64) (V : Nat × Int32 × Int32 × (Nat → VV)) (q : (VV × VV × VV × VV × VV × Int32) × (Nat → Nat → Int32) × (Nat → Int64) × (Nat × Int32 × Int32 × (Nat → VV))), M_L_662_662 k Ls xs x4 S T U V = some q → (∀ fa' : Nat → Nat → Nat, WW E p l e room_1 s m #[Value.ref bs] below meth c A (cN + 20) (sN + 1600) (lw_Z below #[Value.ref bs] s) (wSg E a q.1 ++ wMd E b q.2.1 ++ wLo E c0 q.2.2.1 ++ wHi E a fa' q.2.2.2) 9 [some (.ref bs), some (.ref (a 0)), some (.ref (b 0)), some (.ref (c0 0)), some (.int x4), none, none, none, none] 2036 []) →
      WW E p l e room_1 s m #[Value.ref bs] below meth c A (cN + 0) (sN + 0) (lw_Z below #[Value.ref bs] s) (wSg E a S ++ wMd E b T ++ wLo E c0 U ++ wHi E a fa V) 9 [some (.ref bs), some (.ref (a 0)), some (.ref (b 0)), some (.ref (c0 0)), some (.int x4), none, none, none, none] 662 [] := by
  intro x4 S T U V q  h hq
  unfold M_L_662_662 at h
  refine r_aload_n (pc := 662) C (i := 1) dL_law_662 rfl rfl ?_
  refine r_aload_n (pc := 663) C (i := 0) dL_law_663 rfl rfl ?_
  refine r_iload (pc := 664) C (i := 4) dL_law_664 rfl ?_
  refine r_iconst (pc := 666) C (v := 1) dL_law_666 (by decide) ?_
  refine r_iadd (pc := 667) C dL_law_667 ?_
  obtain ⟨hi1, h⟩ := ifn h
  refine r_sld (pc := 668) C hX hbl hbA hi1 dL_law_668 ?_
  refine r_aload_n (pc := 669) C (i := 0) dL_law_669 rfl rfl ?_
  refine r_iload (pc := 670) C (i := 4) dL_law_670 rfl ?_
  refine r_iconst (pc := 672) C (v := 2) dL_law_672 (by decide) ?_
  refine r_iadd (pc := 673) C dL_law_673 ?_
  obtain ⟨hi2, h⟩ := ifn h
  refine r_sld (pc := 674) C hX hbl hbA hi2 dL_law_674 ?_
  refine r_aload_n (pc := 675) C (i := 3) dL_law_675 rfl rfl ?_
  obtain ⟨q3, hq3, h⟩ := bnd h
  refine r_callSH (pc := 676) C [.ref (a 0), .int (xs (x4 + (1 : Int32)).toNatClampNeg), .int (xs (x4 + (2 : Int32)).toNatClampNeg), .ref (c0 0)] hdc (c_L_queued E l k a (c0 0) S U (xs (x4 + (1 : Int32)).toNatClampNeg) (xs (x4 + (2 : Int32)).toNatClampNeg) hlt hq3) [0, 1, 2, 3, 4, 5, 6, 7, 8, 9, 10, 11, 12, 13, 14, 15, 16, 17, 18, 19, 20, 21, 22, 23, 24, 25, 26, 27, 28, 29, 30, 31, 32, 33, 34, 35, 36, 37, 38, 39, 40, 41, 42, 43, 44, 45, 46, 47, 48, 49, 50, 51, 52, 53, 54, 55, 56, 57, 58, 59, 60, 74] (hps_hi (List.append_assoc _ _ _).symm (hpL1 E a b c0 fa S T U V)) (by decide) gL_130 hd_L_queued.2 ⟨Nat.le_of_ble_eq_true rfl, Nat.le_of_ble_eq_true rfl⟩ ⟨by have h1 : room_1.cells = 601024 := rfl; have h2 := hcN.1; simp only [Nat.le_refl, rm_L_queued]; omega, by have h1 : room_1.slots = 7293034 := rfl; have h2 := hcN.2; simp only [Nat.le_refl, rm_L_queued]; omega⟩ (Nat.le_of_ble_eq_true rfl) rfl dL_law_676 (fun r w1 hw1 => ?_)
  obtain ⟨hr1, hw1⟩ := hw1
  subst hr1 hw1
  refine ⟨(wSg E a S ++ wMd E b T ++ wLo E c0 q3.2 ++ wHi E a fa V), putW_hi (List.append_assoc _ _ _).symm (List.append_assoc _ _ _).symm (hpL1 E a b c0 fa S T U V) rfl (pwL1 E a b c0 fa S T U V S q3.2), ?_⟩
  refine r_istore (pc := 679) C (i := 5) dL_law_679 (by decide) rfl ?_
  refine r_aload_n (pc := 681) C (i := 2) dL_law_681 rfl rfl ?_
  refine r_aload_n (pc := 682) C (i := 0) dL_law_682 rfl rfl ?_
  refine r_iload (pc := 683) C (i := 4) dL_law_683 rfl ?_
  refine r_iconst (pc := 685) C (v := 1) dL_law_685 (by decide) ?_
  refine r_iadd (pc := 686) C dL_law_686 ?_
  obtain ⟨hi4, h⟩ := ifn h
  refine r_sld (pc := 687) C hX hbl hbA hi4 dL_law_687 ?_
  refine r_aload_n (pc := 688) C (i := 0) dL_law_688 rfl rfl ?_
  refine r_iload (pc := 689) C (i := 4) dL_law_689 rfl ?_
  refine r_iconst (pc := 691) C (v := 2) dL_law_691 (by decide) ?_
  refine r_iadd (pc := 692) C dL_law_692 ?_
  obtain ⟨hi5, h⟩ := ifn h
  refine r_sld (pc := 693) C hX hbl hbA hi5 dL_law_693 ?_
  obtain ⟨q6, hq6, h⟩ := bnd h
  refine r_callV_CI (Cn := RX10) (pc := 694) C [.int (xs (x4 + (1 : Int32)).toNatClampNeg), .int (xs (x4 + (2 : Int32)).toNatClampNeg)] (c_X10_queued E l k b T (xs (x4 + (1 : Int32)).toNatClampNeg) (xs (x4 + (2 : Int32)).toNatClampNeg) hq6) [61, 62, 63, 64, 65, 66, 67, 68, 69, 70, 71, 72, 73] (hps_hi (List.append_assoc _ _ _).symm (hp_L_204_1 E a b c0 fa S T q3.2 V)) (by decide) 0 rfl rfl rfl g_L_132 hd_X10_queued ⟨Nat.le_of_ble_eq_true rfl, Nat.le_of_ble_eq_true rfl⟩ ⟨by have h1 : room_1.cells = 601024 := rfl; have h2 := hcN.1; simp only [Nat.le_refl, rm_L_queued, rm_X10_queued]; omega, by have h1 : room_1.slots = 7293034 := rfl; have h2 := hcN.2; simp only [Nat.le_refl, rm_L_queued, rm_X10_queued]; omega⟩ (Nat.le_of_ble_eq_true rfl) rfl dL_law_694 (fun r w1 hw1 => ?_)
  obtain ⟨hr1, hw1⟩ := hw1
  subst hr1 hw1
  refine ⟨(wSg E a S ++ wMd E b q6.2 ++ wLo E c0 q3.2 ++ wHi E a fa V), by exact putW_hi (List.append_assoc _ _ _).symm (List.append_assoc _ _ _).symm (hp_L_204_1 E a b c0 fa S T q3.2 V) rfl (pw_L_204_1 E a b c0 fa S T q3.2 V q6.2), ?_⟩
  refine r_istore (pc := 697) C (i := 6) dL_law_697 (by decide) rfl ?_
  refine r_aload_n (pc := 699) C (i := 2) dL_law_699 rfl rfl ?_
  obtain ⟨q7, hq7, h⟩ := bnd h
  refine r_callVp_CI (Cn := RX10) (pc := 700) C [] (c_X10_thrown E l k b q6.2 hq7) [61, 62, 63, 64, 65, 66, 67, 68, 69, 70, 71, 72, 73] (hps_hi (List.append_assoc _ _ _).symm (hp_L_204_1 E a b c0 fa S q6.2 q3.2 V)) (by decide) 0 rfl rfl rfl g_L_106 hd_X10_thrown ⟨Nat.le_of_ble_eq_true rfl, Nat.le_of_ble_eq_true rfl⟩ ⟨by have h1 : room_1.cells = 601024 := rfl; have h2 := hcN.1; simp only [Nat.le_refl, rm_L_queued, rm_X10_queued, rm_X10_thrown]; omega, by have h1 : room_1.slots = 7293034 := rfl; have h2 := hcN.2; simp only [Nat.le_refl, rm_L_queued, rm_X10_queued, rm_X10_thrown]; omega⟩ (Nat.le_of_ble_eq_true rfl) rfl dL_law_700 (fun r hr => ?_)
  have hr := hr.symm
  subst hr
  refine r_iload (pc := 703) C (i := 5) dL_law_703 rfl ?_
  refine r_icmp_eq (pc := 705) C (tgt := 710) dL_law_705 rfl (fun c8 => ?_) (fun c8 => ?_)
  · rw [if_pos c8] at h
    refine r_iload (pc := 710) C (i := 5) dL_law_710 rfl ?_
    refine r_if_ne (pc := 712) C (tgt := 727) dL_law_712 rfl (fun c9 => ?_) (fun c9 => ?_)
    · rw [if_neg c9] at h
      refine r_goto (pc := 727) C (tgt := 2036) dL_law_727 rfl ?_
      cases h
      refine r_widen (k1 := cN + 20) (n1 := sN + 1600) (by simp only [Nat.le_refl, rm_L_queued, rm_X10_queued, rm_X10_thrown]; omega) (by simp only [Nat.le_refl, rm_L_queued, rm_X10_queued, rm_X10_thrown]; omega) ?_
      refine r_weak (lSub_s (lSub_s (lSub_s (lSub_s (lSub_s (lSub_n (lSub_n (lSub_n (lSub_n lSub_e))))))))) ?_
      exact hq fa
    · rw [if_pos c9] at h
      refine r_aload_n (pc := 715) C (i := 3) dL_law_715 rfl rfl ?_
      refine r_iconst (pc := 716) C (v := 0) dL_law_716 (by decide) ?_
      obtain ⟨hi10, h⟩ := ifn h
      refine r_lald (pc := 717) C 74 rfl hi10 dL_law_717 ?_
      refine r_iload (pc := 718) C (i := 6) dL_law_718 rfl ?_
      refine r_i2l (pc := 720) C dL_law_720 ?_
      refine r_lcmp (pc := 721) C dL_law_721 ?_
      refine r_if_eq (pc := 722) C (tgt := 727) dL_law_722 rfl (fun c11 => ?_) (fun c11 => ?_)
      · rw [if_pos c11] at h
        refine r_goto (pc := 727) C (tgt := 2036) dL_law_727 rfl ?_
        cases h
        refine r_widen (k1 := cN + 20) (n1 := sN + 1600) (by simp only [Nat.le_refl, rm_L_queued, rm_X10_queued, rm_X10_thrown]; omega) (by simp only [Nat.le_refl, rm_L_queued, rm_X10_queued, rm_X10_thrown]; omega) ?_
        refine r_weak (lSub_s (lSub_s (lSub_s (lSub_s (lSub_s (lSub_n (lSub_n (lSub_n (lSub_n lSub_e))))))))) ?_
        exact hq fa
      · rw [if_neg c11] at h
        refine r_iconst (pc := 725) C (v := 0) dL_law_725 (by decide) ?_
        cases h
  · rw [if_neg c8] at h
    refine r_iconst (pc := 708) C (v := 0) dL_law_708 (by decide) ?_
    cases h
theorem hd_X10_parked : yX10_parked.cls = RX10 ∧ yX10_parked.cls ≠ "java/lang/invoke/MethodHandle" ∧ yX10_parked.cls ≠ "java/lang/invoke/VarHandle" ∧ (parseMethodDescriptor yX10_parked.desc).map (fun d => d.parameters.length) = some 1 := by decide +kernel
theorem g_L_135 : GoodIn GW (wsV RL 135 RX10 yX10_parked (wsG yX10_parked cX10_parked 3 (some .int))) := gw_V wm_6_198 wm_6_199 wm_6_200 wm_1_9 wm_6_201
theorem hd_L_parked : yL_parked.cls = RL ∧ yL_parked.cls ≠ "java/lang/invoke/MethodHandle" ∧ yL_parked.cls ≠ "java/lang/invoke/VarHandle" ∧ (parseMethodDescriptor yL_parked.desc).map (fun d => d.parameters.length) = some 3 := by decide +kernel
theorem gL_133 : GoodIn GW (va_wsS RL 133 yL_parked (Cond.codeWith yL_parked cL_parked 4 (some .int) [(0, 9, 12, 18)] :: GW)) := gw_SW wm_4_82 wm_4_83 wm_1_0 wm_4_84
-- the law from 730
theorem dL_law_730 : decode cL_law 730 = .ok (.aload_n 1, 1) := by decide +kernel
theorem dL_law_731 : decode cL_law 731 = .ok (.aload_n 0, 1) := by decide +kernel
theorem dL_law_732 : decode cL_law 732 = .ok (.iload 4, 2) := by decide +kernel
theorem dL_law_734 : decode cL_law 734 = .ok (.iconst 1, 1) := by decide +kernel
theorem dL_law_735 : decode cL_law 735 = .ok (.iadd, 1) := by decide +kernel
theorem dL_law_736 : decode cL_law 736 = .ok (.iaload, 1) := by decide +kernel
theorem dL_law_737 : decode cL_law 737 = .ok (.aload_n 3, 1) := by decide +kernel
theorem dL_law_738 : decode cL_law 738 = .ok (.invokestatic 133, 3) := by decide +kernel
theorem dL_law_741 : decode cL_law 741 = .ok (.istore 5, 2) := by decide +kernel
theorem dL_law_743 : decode cL_law 743 = .ok (.aload_n 2, 1) := by decide +kernel
theorem dL_law_744 : decode cL_law 744 = .ok (.aload_n 0, 1) := by decide +kernel
theorem dL_law_745 : decode cL_law 745 = .ok (.iload 4, 2) := by decide +kernel
theorem dL_law_747 : decode cL_law 747 = .ok (.iconst 1, 1) := by decide +kernel
theorem dL_law_748 : decode cL_law 748 = .ok (.iadd, 1) := by decide +kernel
theorem dL_law_749 : decode cL_law 749 = .ok (.iaload, 1) := by decide +kernel
theorem dL_law_750 : decode cL_law 750 = .ok (.invokevirtual 135, 3) := by decide +kernel
theorem dL_law_753 : decode cL_law 753 = .ok (.istore 6, 2) := by decide +kernel
theorem dL_law_755 : decode cL_law 755 = .ok (.aload_n 2, 1) := by decide +kernel
theorem dL_law_756 : decode cL_law 756 = .ok (.invokevirtual 106, 3) := by decide +kernel
theorem dL_law_759 : decode cL_law 759 = .ok (.iload 5, 2) := by decide +kernel
theorem dL_law_761 : decode cL_law 761 = .ok (.if_icmp .eq 5, 3) := by decide +kernel
theorem dL_law_764 : decode cL_law 764 = .ok (.iconst 0, 1) := by decide +kernel
theorem dL_law_765 : decode cL_law 765 = .ok (.ireturn, 1) := by decide +kernel
theorem dL_law_766 : decode cL_law 766 = .ok (.iload 5, 2) := by decide +kernel
theorem dL_law_768 : decode cL_law 768 = .ok (.ifCond .ne 15, 3) := by decide +kernel
theorem dL_law_771 : decode cL_law 771 = .ok (.aload_n 3, 1) := by decide +kernel
theorem dL_law_772 : decode cL_law 772 = .ok (.iconst 0, 1) := by decide +kernel
theorem dL_law_773 : decode cL_law 773 = .ok (.laload, 1) := by decide +kernel
theorem dL_law_774 : decode cL_law 774 = .ok (.iload 6, 2) := by decide +kernel
theorem dL_law_776 : decode cL_law 776 = .ok (.i2l, 1) := by decide +kernel
theorem dL_law_777 : decode cL_law 777 = .ok (.lcmp, 1) := by decide +kernel
theorem dL_law_778 : decode cL_law 778 = .ok (.ifCond .eq 5, 3) := by decide +kernel
theorem dL_law_781 : decode cL_law 781 = .ok (.iconst 0, 1) := by decide +kernel
theorem dL_law_782 : decode cL_law 782 = .ok (.ireturn, 1) := by decide +kernel
theorem dL_law_783 : decode cL_law 783 = .ok (.goto 1253, 3) := by decide +kernel
def M_L_730_730 (k Ls : Nat) (xs : Nat → Int32) (x4 : Int32) (S : VV × VV × VV × VV × VV × Int32) (T : Nat → Nat → Int32) (U : Nat → Int64) (V : Nat × Int32 × Int32 × (Nat → VV)) : Option ((VV × VV × VV × VV × VV × Int32) × (Nat → Nat → Int32) × (Nat → Int64) × (Nat × Int32 × Int32 × (Nat → VV))) := (if inb (x4 + (1 : Int32)) Ls = true then (M_L_parked k S U (xs (x4 + (1 : Int32)).toNatClampNeg)).bind fun q2 => (if inb (x4 + (1 : Int32)) Ls = true then (M_X10_parked k T (xs (x4 + (1 : Int32)).toNatClampNeg)).bind fun q4 => (M_X10_thrown k q4.2).bind fun q5 => if q5 = q2.1 then (if q2.1 = 0 then ((if inb (0 : Int32) 1 = true then if (lg_cmp (q2.2 (0 : Int32).toNatClampNeg) (q4.1.toInt64)) = 0 then (some (S, q4.2, q2.2, V)) else (none) else none)) else (some (S, q4.2, q2.2, V))) else (none) else none) else none)
set_option maxRecDepth 100000 in
set_option maxHeartbeats 4000000 in
theorem N_L_730_730 (C : CX E p l s m #[Value.ref bs] meth c cL_law 9 RL ret A) (a : Nat → Nat) (b : Nat → Nat) (c0 : Nat → Nat) (k Ls : Nat) (xs : Nat → Int32) (hX : va_X bs Ls xs s s.heap) (hbl : bs < s.heap.size) (hbA : ¬ A bs) (hlt : l.stackTraces = false) (hdc : DC s) (cN sN : Nat) (hcN : cN + 20 ≤ 601024 ∧ sN + 1600 ≤ 7293034) (fa : Nat → Nat → Nat) :
    ∀ (x4 : Int32) (S : VV × VV × VV × VV × VV × Int32) (T : Nat → Nat → Int32) (U : Nat → Int64) (V : Nat × Int32 × Int32 × (Nat → VV)) (q : (VV × VV × VV × VV × VV × Int32) × (Nat → Nat → Int32) × (Nat → Int64) × (Nat × Int32 × Int32 × (Nat → VV))), M_L_730_730 k Ls xs x4 S T U V = some q → (∀ fa' : Nat → Nat → Nat, WW E p l e room_1 s m #[Value.ref bs] below meth c A (cN + 20) (sN + 1600) (lw_Z below #[Value.ref bs] s) (wSg E a q.1 ++ wMd E b q.2.1 ++ wLo E c0 q.2.2.1 ++ wHi E a fa' q.2.2.2) 9 [some (.ref bs), some (.ref (a 0)), some (.ref (b 0)), some (.ref (c0 0)), some (.int x4), none, none, none, none] 2036 []) →
      WW E p l e room_1 s m #[Value.ref bs] below meth c A (cN + 0) (sN + 0) (lw_Z below #[Value.ref bs] s) (wSg E a S ++ wMd E b T ++ wLo E c0 U ++ wHi E a fa V) 9 [some (.ref bs), some (.ref (a 0)), some (.ref (b 0)), some (.ref (c0 0)), some (.int x4), none, none, none, none] 730 [] := by
  intro x4 S T U V q  h hq
  unfold M_L_730_730 at h
  refine r_aload_n (pc := 730) C (i := 1) dL_law_730 rfl rfl ?_
  refine r_aload_n (pc := 731) C (i := 0) dL_law_731 rfl rfl ?_
  refine r_iload (pc := 732) C (i := 4) dL_law_732 rfl ?_
  refine r_iconst (pc := 734) C (v := 1) dL_law_734 (by decide) ?_
  refine r_iadd (pc := 735) C dL_law_735 ?_
  obtain ⟨hi1, h⟩ := ifn h
  refine r_sld (pc := 736) C hX hbl hbA hi1 dL_law_736 ?_
  refine r_aload_n (pc := 737) C (i := 3) dL_law_737 rfl rfl ?_
  obtain ⟨q2, hq2, h⟩ := bnd h
  refine r_callSH (pc := 738) C [.ref (a 0), .int (xs (x4 + (1 : Int32)).toNatClampNeg), .ref (c0 0)] hdc (c_L_parked E l k a (c0 0) S U (xs (x4 + (1 : Int32)).toNatClampNeg) hlt hq2) [0, 1, 2, 3, 4, 5, 6, 7, 8, 9, 10, 11, 12, 13, 14, 15, 16, 17, 18, 19, 20, 21, 22, 23, 24, 25, 26, 27, 28, 29, 30, 31, 32, 33, 34, 35, 36, 37, 38, 39, 40, 41, 42, 43, 44, 45, 46, 47, 48, 49, 50, 51, 52, 53, 54, 55, 56, 57, 58, 59, 60, 74] (hps_hi (List.append_assoc _ _ _).symm (hpL1 E a b c0 fa S T U V)) (by decide) gL_133 hd_L_parked.2 ⟨Nat.le_of_ble_eq_true rfl, Nat.le_of_ble_eq_true rfl⟩ ⟨by have h1 : room_1.cells = 601024 := rfl; have h2 := hcN.1; simp only [Nat.le_refl, rm_L_parked]; omega, by have h1 : room_1.slots = 7293034 := rfl; have h2 := hcN.2; simp only [Nat.le_refl, rm_L_parked]; omega⟩ (Nat.le_of_ble_eq_true rfl) rfl dL_law_738 (fun r w1 hw1 => ?_)
  obtain ⟨hr1, hw1⟩ := hw1
  subst hr1 hw1
  refine ⟨(wSg E a S ++ wMd E b T ++ wLo E c0 q2.2 ++ wHi E a fa V), putW_hi (List.append_assoc _ _ _).symm (List.append_assoc _ _ _).symm (hpL1 E a b c0 fa S T U V) rfl (pwL1 E a b c0 fa S T U V S q2.2), ?_⟩
  refine r_istore (pc := 741) C (i := 5) dL_law_741 (by decide) rfl ?_
  refine r_aload_n (pc := 743) C (i := 2) dL_law_743 rfl rfl ?_
  refine r_aload_n (pc := 744) C (i := 0) dL_law_744 rfl rfl ?_
  refine r_iload (pc := 745) C (i := 4) dL_law_745 rfl ?_
  refine r_iconst (pc := 747) C (v := 1) dL_law_747 (by decide) ?_
  refine r_iadd (pc := 748) C dL_law_748 ?_
  obtain ⟨hi3, h⟩ := ifn h
  refine r_sld (pc := 749) C hX hbl hbA hi3 dL_law_749 ?_
  obtain ⟨q4, hq4, h⟩ := bnd h
  refine r_callV_CI (Cn := RX10) (pc := 750) C [.int (xs (x4 + (1 : Int32)).toNatClampNeg)] (c_X10_parked E l k b T (xs (x4 + (1 : Int32)).toNatClampNeg) hq4) [61, 62, 63, 64, 65, 66, 67, 68, 69, 70, 71, 72, 73] (hps_hi (List.append_assoc _ _ _).symm (hp_L_204_1 E a b c0 fa S T q2.2 V)) (by decide) 0 rfl rfl rfl g_L_135 hd_X10_parked ⟨Nat.le_of_ble_eq_true rfl, Nat.le_of_ble_eq_true rfl⟩ ⟨by have h1 : room_1.cells = 601024 := rfl; have h2 := hcN.1; simp only [Nat.le_refl, rm_L_parked, rm_X10_parked]; omega, by have h1 : room_1.slots = 7293034 := rfl; have h2 := hcN.2; simp only [Nat.le_refl, rm_L_parked, rm_X10_parked]; omega⟩ (Nat.le_of_ble_eq_true rfl) rfl dL_law_750 (fun r w1 hw1 => ?_)
  obtain ⟨hr1, hw1⟩ := hw1
  subst hr1 hw1
  refine ⟨(wSg E a S ++ wMd E b q4.2 ++ wLo E c0 q2.2 ++ wHi E a fa V), by exact putW_hi (List.append_assoc _ _ _).symm (List.append_assoc _ _ _).symm (hp_L_204_1 E a b c0 fa S T q2.2 V) rfl (pw_L_204_1 E a b c0 fa S T q2.2 V q4.2), ?_⟩
  refine r_istore (pc := 753) C (i := 6) dL_law_753 (by decide) rfl ?_
  refine r_aload_n (pc := 755) C (i := 2) dL_law_755 rfl rfl ?_
  obtain ⟨q5, hq5, h⟩ := bnd h
  refine r_callVp_CI (Cn := RX10) (pc := 756) C [] (c_X10_thrown E l k b q4.2 hq5) [61, 62, 63, 64, 65, 66, 67, 68, 69, 70, 71, 72, 73] (hps_hi (List.append_assoc _ _ _).symm (hp_L_204_1 E a b c0 fa S q4.2 q2.2 V)) (by decide) 0 rfl rfl rfl g_L_106 hd_X10_thrown ⟨Nat.le_of_ble_eq_true rfl, Nat.le_of_ble_eq_true rfl⟩ ⟨by have h1 : room_1.cells = 601024 := rfl; have h2 := hcN.1; simp only [Nat.le_refl, rm_L_parked, rm_X10_parked, rm_X10_thrown]; omega, by have h1 : room_1.slots = 7293034 := rfl; have h2 := hcN.2; simp only [Nat.le_refl, rm_L_parked, rm_X10_parked, rm_X10_thrown]; omega⟩ (Nat.le_of_ble_eq_true rfl) rfl dL_law_756 (fun r hr => ?_)
  have hr := hr.symm
  subst hr
  refine r_iload (pc := 759) C (i := 5) dL_law_759 rfl ?_
  refine r_icmp_eq (pc := 761) C (tgt := 766) dL_law_761 rfl (fun c6 => ?_) (fun c6 => ?_)
  · rw [if_pos c6] at h
    refine r_iload (pc := 766) C (i := 5) dL_law_766 rfl ?_
    refine r_if_ne (pc := 768) C (tgt := 783) dL_law_768 rfl (fun c7 => ?_) (fun c7 => ?_)
    · rw [if_neg c7] at h
      refine r_goto (pc := 783) C (tgt := 2036) dL_law_783 rfl ?_
      cases h
      refine r_widen (k1 := cN + 20) (n1 := sN + 1600) (by simp only [Nat.le_refl, rm_L_parked, rm_X10_parked, rm_X10_thrown]; omega) (by simp only [Nat.le_refl, rm_L_parked, rm_X10_parked, rm_X10_thrown]; omega) ?_
      refine r_weak (lSub_s (lSub_s (lSub_s (lSub_s (lSub_s (lSub_n (lSub_n (lSub_n (lSub_n lSub_e))))))))) ?_
      exact hq fa
    · rw [if_pos c7] at h
      refine r_aload_n (pc := 771) C (i := 3) dL_law_771 rfl rfl ?_
      refine r_iconst (pc := 772) C (v := 0) dL_law_772 (by decide) ?_
      obtain ⟨hi8, h⟩ := ifn h
      refine r_lald (pc := 773) C 74 rfl hi8 dL_law_773 ?_
      refine r_iload (pc := 774) C (i := 6) dL_law_774 rfl ?_
      refine r_i2l (pc := 776) C dL_law_776 ?_
      refine r_lcmp (pc := 777) C dL_law_777 ?_
      refine r_if_eq (pc := 778) C (tgt := 783) dL_law_778 rfl (fun c9 => ?_) (fun c9 => ?_)
      · rw [if_pos c9] at h
        refine r_goto (pc := 783) C (tgt := 2036) dL_law_783 rfl ?_
        cases h
        refine r_widen (k1 := cN + 20) (n1 := sN + 1600) (by simp only [Nat.le_refl, rm_L_parked, rm_X10_parked, rm_X10_thrown]; omega) (by simp only [Nat.le_refl, rm_L_parked, rm_X10_parked, rm_X10_thrown]; omega) ?_
        refine r_weak (lSub_s (lSub_s (lSub_s (lSub_s (lSub_s (lSub_n (lSub_n (lSub_n (lSub_n lSub_e))))))))) ?_
        exact hq fa
      · rw [if_neg c9] at h
        refine r_iconst (pc := 781) C (v := 0) dL_law_781 (by decide) ?_
        cases h
  · rw [if_neg c6] at h
    refine r_iconst (pc := 764) C (v := 0) dL_law_764 (by decide) ?_
    cases h
theorem hd_X10_killsOf : yX10_killsOf.cls = RX10 ∧ yX10_killsOf.cls ≠ "java/lang/invoke/MethodHandle" ∧ yX10_killsOf.cls ≠ "java/lang/invoke/VarHandle" ∧ (parseMethodDescriptor yX10_killsOf.desc).map (fun d => d.parameters.length) = some 2 := by decide +kernel
theorem g_L_138 : GoodIn GW (wsV RL 138 RX10 yX10_killsOf (wsG yX10_killsOf cX10_killsOf 3 (some .int))) := gw_V wm_6_202 wm_6_203 wm_6_204 wm_1_9 wm_6_205
theorem hd_L_killsOf : yL_killsOf.cls = RL ∧ yL_killsOf.cls ≠ "java/lang/invoke/MethodHandle" ∧ yL_killsOf.cls ≠ "java/lang/invoke/VarHandle" ∧ (parseMethodDescriptor yL_killsOf.desc).map (fun d => d.parameters.length) = some 4 := by decide +kernel
theorem gL_136 : GoodIn GW (va_wsS RL 136 yL_killsOf (Cond.codeWith yL_killsOf cL_killsOf 5 (some .int) [(0, 10, 13, 18)] :: GW)) := gw_SW wm_4_90 wm_4_91 wm_1_0 wm_4_92
-- the law from 786
theorem dL_law_786 : decode cL_law 786 = .ok (.aload_n 1, 1) := by decide +kernel
theorem dL_law_787 : decode cL_law 787 = .ok (.aload_n 0, 1) := by decide +kernel
theorem dL_law_788 : decode cL_law 788 = .ok (.iload 4, 2) := by decide +kernel
theorem dL_law_790 : decode cL_law 790 = .ok (.iconst 1, 1) := by decide +kernel
theorem dL_law_791 : decode cL_law 791 = .ok (.iadd, 1) := by decide +kernel
theorem dL_law_792 : decode cL_law 792 = .ok (.iaload, 1) := by decide +kernel
theorem dL_law_793 : decode cL_law 793 = .ok (.aload_n 0, 1) := by decide +kernel
theorem dL_law_794 : decode cL_law 794 = .ok (.iload 4, 2) := by decide +kernel
theorem dL_law_796 : decode cL_law 796 = .ok (.iconst 2, 1) := by decide +kernel
theorem dL_law_797 : decode cL_law 797 = .ok (.iadd, 1) := by decide +kernel
theorem dL_law_798 : decode cL_law 798 = .ok (.iaload, 1) := by decide +kernel
theorem dL_law_799 : decode cL_law 799 = .ok (.aload_n 3, 1) := by decide +kernel
theorem dL_law_800 : decode cL_law 800 = .ok (.invokestatic 136, 3) := by decide +kernel
theorem dL_law_803 : decode cL_law 803 = .ok (.istore 5, 2) := by decide +kernel
theorem dL_law_805 : decode cL_law 805 = .ok (.aload_n 2, 1) := by decide +kernel
theorem dL_law_806 : decode cL_law 806 = .ok (.aload_n 0, 1) := by decide +kernel
theorem dL_law_807 : decode cL_law 807 = .ok (.iload 4, 2) := by decide +kernel
theorem dL_law_809 : decode cL_law 809 = .ok (.iconst 1, 1) := by decide +kernel
theorem dL_law_810 : decode cL_law 810 = .ok (.iadd, 1) := by decide +kernel
theorem dL_law_811 : decode cL_law 811 = .ok (.iaload, 1) := by decide +kernel
theorem dL_law_812 : decode cL_law 812 = .ok (.aload_n 0, 1) := by decide +kernel
theorem dL_law_813 : decode cL_law 813 = .ok (.iload 4, 2) := by decide +kernel
theorem dL_law_815 : decode cL_law 815 = .ok (.iconst 2, 1) := by decide +kernel
theorem dL_law_816 : decode cL_law 816 = .ok (.iadd, 1) := by decide +kernel
theorem dL_law_817 : decode cL_law 817 = .ok (.iaload, 1) := by decide +kernel
theorem dL_law_818 : decode cL_law 818 = .ok (.invokevirtual 138, 3) := by decide +kernel
theorem dL_law_821 : decode cL_law 821 = .ok (.istore 6, 2) := by decide +kernel
theorem dL_law_823 : decode cL_law 823 = .ok (.aload_n 2, 1) := by decide +kernel
theorem dL_law_824 : decode cL_law 824 = .ok (.invokevirtual 106, 3) := by decide +kernel
theorem dL_law_827 : decode cL_law 827 = .ok (.iload 5, 2) := by decide +kernel
theorem dL_law_829 : decode cL_law 829 = .ok (.if_icmp .eq 5, 3) := by decide +kernel
theorem dL_law_832 : decode cL_law 832 = .ok (.iconst 0, 1) := by decide +kernel
theorem dL_law_833 : decode cL_law 833 = .ok (.ireturn, 1) := by decide +kernel
theorem dL_law_834 : decode cL_law 834 = .ok (.iload 5, 2) := by decide +kernel
theorem dL_law_836 : decode cL_law 836 = .ok (.ifCond .ne 15, 3) := by decide +kernel
theorem dL_law_839 : decode cL_law 839 = .ok (.aload_n 3, 1) := by decide +kernel
theorem dL_law_840 : decode cL_law 840 = .ok (.iconst 0, 1) := by decide +kernel
theorem dL_law_841 : decode cL_law 841 = .ok (.laload, 1) := by decide +kernel
theorem dL_law_842 : decode cL_law 842 = .ok (.iload 6, 2) := by decide +kernel
theorem dL_law_844 : decode cL_law 844 = .ok (.i2l, 1) := by decide +kernel
theorem dL_law_845 : decode cL_law 845 = .ok (.lcmp, 1) := by decide +kernel
theorem dL_law_846 : decode cL_law 846 = .ok (.ifCond .eq 5, 3) := by decide +kernel
theorem dL_law_849 : decode cL_law 849 = .ok (.iconst 0, 1) := by decide +kernel
theorem dL_law_850 : decode cL_law 850 = .ok (.ireturn, 1) := by decide +kernel
theorem dL_law_851 : decode cL_law 851 = .ok (.goto 1185, 3) := by decide +kernel
def M_L_786_786 (k Ls : Nat) (xs : Nat → Int32) (x4 : Int32) (S : VV × VV × VV × VV × VV × Int32) (T : Nat → Nat → Int32) (U : Nat → Int64) (V : Nat × Int32 × Int32 × (Nat → VV)) : Option ((VV × VV × VV × VV × VV × Int32) × (Nat → Nat → Int32) × (Nat → Int64) × (Nat × Int32 × Int32 × (Nat → VV))) := (if inb (x4 + (1 : Int32)) Ls = true then (if inb (x4 + (2 : Int32)) Ls = true then (M_L_killsOf k S U (xs (x4 + (1 : Int32)).toNatClampNeg) (xs (x4 + (2 : Int32)).toNatClampNeg)).bind fun q3 => (if inb (x4 + (1 : Int32)) Ls = true then (if inb (x4 + (2 : Int32)) Ls = true then (M_X10_killsOf k T (xs (x4 + (1 : Int32)).toNatClampNeg) (xs (x4 + (2 : Int32)).toNatClampNeg)).bind fun q6 => (M_X10_thrown k q6.2).bind fun q7 => if q7 = q3.1 then (if q3.1 = 0 then ((if inb (0 : Int32) 1 = true then if (lg_cmp (q3.2 (0 : Int32).toNatClampNeg) (q6.1.toInt64)) = 0 then (some (S, q6.2, q3.2, V)) else (none) else none)) else (some (S, q6.2, q3.2, V))) else (none) else none) else none) else none) else none)
set_option maxRecDepth 100000 in
set_option maxHeartbeats 4000000 in
theorem N_L_786_786 (C : CX E p l s m #[Value.ref bs] meth c cL_law 9 RL ret A) (a : Nat → Nat) (b : Nat → Nat) (c0 : Nat → Nat) (k Ls : Nat) (xs : Nat → Int32) (hX : va_X bs Ls xs s s.heap) (hbl : bs < s.heap.size) (hbA : ¬ A bs) (hlt : l.stackTraces = false) (hdc : DC s) (cN sN : Nat) (hcN : cN + 20 ≤ 601024 ∧ sN + 1600 ≤ 7293034) (fa : Nat → Nat → Nat) :
    ∀ (x4 : Int32) (S : VV × VV × VV × VV × VV × Int32) (T : Nat → Nat → Int32) (U : Nat → Int64) (V : Nat × Int32 × Int32 × (Nat → VV)) (q : (VV × VV × VV × VV × VV × Int32) × (Nat → Nat → Int32) × (Nat → Int64) × (Nat × Int32 × Int32 × (Nat → VV))), M_L_786_786 k Ls xs x4 S T U V = some q → (∀ fa' : Nat → Nat → Nat, WW E p l e room_1 s m #[Value.ref bs] below meth c A (cN + 20) (sN + 1600) (lw_Z below #[Value.ref bs] s) (wSg E a q.1 ++ wMd E b q.2.1 ++ wLo E c0 q.2.2.1 ++ wHi E a fa' q.2.2.2) 9 [some (.ref bs), some (.ref (a 0)), some (.ref (b 0)), some (.ref (c0 0)), some (.int x4), none, none, none, none] 2036 []) →
      WW E p l e room_1 s m #[Value.ref bs] below meth c A (cN + 0) (sN + 0) (lw_Z below #[Value.ref bs] s) (wSg E a S ++ wMd E b T ++ wLo E c0 U ++ wHi E a fa V) 9 [some (.ref bs), some (.ref (a 0)), some (.ref (b 0)), some (.ref (c0 0)), some (.int x4), none, none, none, none] 786 [] := by
  intro x4 S T U V q  h hq
  unfold M_L_786_786 at h
  refine r_aload_n (pc := 786) C (i := 1) dL_law_786 rfl rfl ?_
  refine r_aload_n (pc := 787) C (i := 0) dL_law_787 rfl rfl ?_
  refine r_iload (pc := 788) C (i := 4) dL_law_788 rfl ?_
  refine r_iconst (pc := 790) C (v := 1) dL_law_790 (by decide) ?_
  refine r_iadd (pc := 791) C dL_law_791 ?_
  obtain ⟨hi1, h⟩ := ifn h
  refine r_sld (pc := 792) C hX hbl hbA hi1 dL_law_792 ?_
  refine r_aload_n (pc := 793) C (i := 0) dL_law_793 rfl rfl ?_
  refine r_iload (pc := 794) C (i := 4) dL_law_794 rfl ?_
  refine r_iconst (pc := 796) C (v := 2) dL_law_796 (by decide) ?_
  refine r_iadd (pc := 797) C dL_law_797 ?_
  obtain ⟨hi2, h⟩ := ifn h
  refine r_sld (pc := 798) C hX hbl hbA hi2 dL_law_798 ?_
  refine r_aload_n (pc := 799) C (i := 3) dL_law_799 rfl rfl ?_
  obtain ⟨q3, hq3, h⟩ := bnd h
  refine r_callSH (pc := 800) C [.ref (a 0), .int (xs (x4 + (1 : Int32)).toNatClampNeg), .int (xs (x4 + (2 : Int32)).toNatClampNeg), .ref (c0 0)] hdc (c_L_killsOf E l k a (c0 0) S U (xs (x4 + (1 : Int32)).toNatClampNeg) (xs (x4 + (2 : Int32)).toNatClampNeg) hlt hq3) [0, 1, 2, 3, 4, 5, 6, 7, 8, 9, 10, 11, 12, 13, 14, 15, 16, 17, 18, 19, 20, 21, 22, 23, 24, 25, 26, 27, 28, 29, 30, 31, 32, 33, 34, 35, 36, 37, 38, 39, 40, 41, 42, 43, 44, 45, 46, 47, 48, 49, 50, 51, 52, 53, 54, 55, 56, 57, 58, 59, 60, 74] (hps_hi (List.append_assoc _ _ _).symm (hpL1 E a b c0 fa S T U V)) (by decide) gL_136 hd_L_killsOf.2 ⟨Nat.le_of_ble_eq_true rfl, Nat.le_of_ble_eq_true rfl⟩ ⟨by have h1 : room_1.cells = 601024 := rfl; have h2 := hcN.1; simp only [Nat.le_refl, rm_L_killsOf]; omega, by have h1 : room_1.slots = 7293034 := rfl; have h2 := hcN.2; simp only [Nat.le_refl, rm_L_killsOf]; omega⟩ (Nat.le_of_ble_eq_true rfl) rfl dL_law_800 (fun r w1 hw1 => ?_)
  obtain ⟨hr1, hw1⟩ := hw1
  subst hr1 hw1
  refine ⟨(wSg E a S ++ wMd E b T ++ wLo E c0 q3.2 ++ wHi E a fa V), putW_hi (List.append_assoc _ _ _).symm (List.append_assoc _ _ _).symm (hpL1 E a b c0 fa S T U V) rfl (pwL1 E a b c0 fa S T U V S q3.2), ?_⟩
  refine r_istore (pc := 803) C (i := 5) dL_law_803 (by decide) rfl ?_
  refine r_aload_n (pc := 805) C (i := 2) dL_law_805 rfl rfl ?_
  refine r_aload_n (pc := 806) C (i := 0) dL_law_806 rfl rfl ?_
  refine r_iload (pc := 807) C (i := 4) dL_law_807 rfl ?_
  refine r_iconst (pc := 809) C (v := 1) dL_law_809 (by decide) ?_
  refine r_iadd (pc := 810) C dL_law_810 ?_
  obtain ⟨hi4, h⟩ := ifn h
  refine r_sld (pc := 811) C hX hbl hbA hi4 dL_law_811 ?_
  refine r_aload_n (pc := 812) C (i := 0) dL_law_812 rfl rfl ?_
  refine r_iload (pc := 813) C (i := 4) dL_law_813 rfl ?_
  refine r_iconst (pc := 815) C (v := 2) dL_law_815 (by decide) ?_
  refine r_iadd (pc := 816) C dL_law_816 ?_
  obtain ⟨hi5, h⟩ := ifn h
  refine r_sld (pc := 817) C hX hbl hbA hi5 dL_law_817 ?_
  obtain ⟨q6, hq6, h⟩ := bnd h
  refine r_callV_CI (Cn := RX10) (pc := 818) C [.int (xs (x4 + (1 : Int32)).toNatClampNeg), .int (xs (x4 + (2 : Int32)).toNatClampNeg)] (c_X10_killsOf E l k b T (xs (x4 + (1 : Int32)).toNatClampNeg) (xs (x4 + (2 : Int32)).toNatClampNeg) hq6) [61, 62, 63, 64, 65, 66, 67, 68, 69, 70, 71, 72, 73] (hps_hi (List.append_assoc _ _ _).symm (hp_L_204_1 E a b c0 fa S T q3.2 V)) (by decide) 0 rfl rfl rfl g_L_138 hd_X10_killsOf ⟨Nat.le_of_ble_eq_true rfl, Nat.le_of_ble_eq_true rfl⟩ ⟨by have h1 : room_1.cells = 601024 := rfl; have h2 := hcN.1; simp only [Nat.le_refl, rm_L_killsOf, rm_X10_killsOf]; omega, by have h1 : room_1.slots = 7293034 := rfl; have h2 := hcN.2; simp only [Nat.le_refl, rm_L_killsOf, rm_X10_killsOf]; omega⟩ (Nat.le_of_ble_eq_true rfl) rfl dL_law_818 (fun r w1 hw1 => ?_)
  obtain ⟨hr1, hw1⟩ := hw1
  subst hr1 hw1
  refine ⟨(wSg E a S ++ wMd E b q6.2 ++ wLo E c0 q3.2 ++ wHi E a fa V), by exact putW_hi (List.append_assoc _ _ _).symm (List.append_assoc _ _ _).symm (hp_L_204_1 E a b c0 fa S T q3.2 V) rfl (pw_L_204_1 E a b c0 fa S T q3.2 V q6.2), ?_⟩
  refine r_istore (pc := 821) C (i := 6) dL_law_821 (by decide) rfl ?_
  refine r_aload_n (pc := 823) C (i := 2) dL_law_823 rfl rfl ?_
  obtain ⟨q7, hq7, h⟩ := bnd h
  refine r_callVp_CI (Cn := RX10) (pc := 824) C [] (c_X10_thrown E l k b q6.2 hq7) [61, 62, 63, 64, 65, 66, 67, 68, 69, 70, 71, 72, 73] (hps_hi (List.append_assoc _ _ _).symm (hp_L_204_1 E a b c0 fa S q6.2 q3.2 V)) (by decide) 0 rfl rfl rfl g_L_106 hd_X10_thrown ⟨Nat.le_of_ble_eq_true rfl, Nat.le_of_ble_eq_true rfl⟩ ⟨by have h1 : room_1.cells = 601024 := rfl; have h2 := hcN.1; simp only [Nat.le_refl, rm_L_killsOf, rm_X10_killsOf, rm_X10_thrown]; omega, by have h1 : room_1.slots = 7293034 := rfl; have h2 := hcN.2; simp only [Nat.le_refl, rm_L_killsOf, rm_X10_killsOf, rm_X10_thrown]; omega⟩ (Nat.le_of_ble_eq_true rfl) rfl dL_law_824 (fun r hr => ?_)
  have hr := hr.symm
  subst hr
  refine r_iload (pc := 827) C (i := 5) dL_law_827 rfl ?_
  refine r_icmp_eq (pc := 829) C (tgt := 834) dL_law_829 rfl (fun c8 => ?_) (fun c8 => ?_)
  · rw [if_pos c8] at h
    refine r_iload (pc := 834) C (i := 5) dL_law_834 rfl ?_
    refine r_if_ne (pc := 836) C (tgt := 851) dL_law_836 rfl (fun c9 => ?_) (fun c9 => ?_)
    · rw [if_neg c9] at h
      refine r_goto (pc := 851) C (tgt := 2036) dL_law_851 rfl ?_
      cases h
      refine r_widen (k1 := cN + 20) (n1 := sN + 1600) (by simp only [Nat.le_refl, rm_L_killsOf, rm_X10_killsOf, rm_X10_thrown]; omega) (by simp only [Nat.le_refl, rm_L_killsOf, rm_X10_killsOf, rm_X10_thrown]; omega) ?_
      refine r_weak (lSub_s (lSub_s (lSub_s (lSub_s (lSub_s (lSub_n (lSub_n (lSub_n (lSub_n lSub_e))))))))) ?_
      exact hq fa
    · rw [if_pos c9] at h
      refine r_aload_n (pc := 839) C (i := 3) dL_law_839 rfl rfl ?_
      refine r_iconst (pc := 840) C (v := 0) dL_law_840 (by decide) ?_
      obtain ⟨hi10, h⟩ := ifn h
      refine r_lald (pc := 841) C 74 rfl hi10 dL_law_841 ?_
      refine r_iload (pc := 842) C (i := 6) dL_law_842 rfl ?_
      refine r_i2l (pc := 844) C dL_law_844 ?_
      refine r_lcmp (pc := 845) C dL_law_845 ?_
      refine r_if_eq (pc := 846) C (tgt := 851) dL_law_846 rfl (fun c11 => ?_) (fun c11 => ?_)
      · rw [if_pos c11] at h
        refine r_goto (pc := 851) C (tgt := 2036) dL_law_851 rfl ?_
        cases h
        refine r_widen (k1 := cN + 20) (n1 := sN + 1600) (by simp only [Nat.le_refl, rm_L_killsOf, rm_X10_killsOf, rm_X10_thrown]; omega) (by simp only [Nat.le_refl, rm_L_killsOf, rm_X10_killsOf, rm_X10_thrown]; omega) ?_
        refine r_weak (lSub_s (lSub_s (lSub_s (lSub_s (lSub_s (lSub_n (lSub_n (lSub_n (lSub_n lSub_e))))))))) ?_
        exact hq fa
      · rw [if_neg c11] at h
        refine r_iconst (pc := 849) C (v := 0) dL_law_849 (by decide) ?_
        cases h
  · rw [if_neg c8] at h
    refine r_iconst (pc := 832) C (v := 0) dL_law_832 (by decide) ?_
    cases h
theorem hd_X9_killingPairs : yX9_killingPairs.cls = RX9 ∧ yX9_killingPairs.cls ≠ "java/lang/invoke/MethodHandle" ∧ yX9_killingPairs.cls ≠ "java/lang/invoke/VarHandle" ∧ (parseMethodDescriptor yX9_killingPairs.desc).map (fun d => d.parameters.length) = some 0 := by decide +kernel
theorem g_L_139 : GoodIn GW (wsV RL 139 RX9 yX9_killingPairs (wsG yX9_killingPairs cX9_killingPairs 1 (some .int))) := gw_V wm_2_50 wm_2_51 wm_2_52 wm_1_1 wm_2_53
theorem hd_X10_killingPairs : yX10_killingPairs.cls = RX10 ∧ yX10_killingPairs.cls ≠ "java/lang/invoke/MethodHandle" ∧ yX10_killingPairs.cls ≠ "java/lang/invoke/VarHandle" ∧ (parseMethodDescriptor yX10_killingPairs.desc).map (fun d => d.parameters.length) = some 0 := by decide +kernel
theorem g_L_142 : GoodIn GW (wsV RL 142 RX10 yX10_killingPairs (wsG yX10_killingPairs cX10_killingPairs 4 (some .int))) := gw_V wm_6_206 wm_6_207 wm_6_208 wm_1_9 wm_6_209
-- the law from 854
theorem dL_law_854 : decode cL_law 854 = .ok (.aload_n 1, 1) := by decide +kernel
theorem dL_law_855 : decode cL_law 855 = .ok (.invokevirtual 139, 3) := by decide +kernel
theorem dL_law_858 : decode cL_law 858 = .ok (.aload_n 2, 1) := by decide +kernel
theorem dL_law_859 : decode cL_law 859 = .ok (.invokevirtual 142, 3) := by decide +kernel
theorem dL_law_862 : decode cL_law 862 = .ok (.if_icmp .eq 1174, 3) := by decide +kernel
theorem dL_law_865 : decode cL_law 865 = .ok (.iconst 0, 1) := by decide +kernel
theorem dL_law_866 : decode cL_law 866 = .ok (.ireturn, 1) := by decide +kernel
def M_L_854_854 (k Ls : Nat) (xs : Nat → Int32) (x4 : Int32) (S : VV × VV × VV × VV × VV × Int32) (T : Nat → Nat → Int32) (U : Nat → Int64) (V : Nat × Int32 × Int32 × (Nat → VV)) : Option ((VV × VV × VV × VV × VV × Int32) × (Nat → Nat → Int32) × (Nat → Int64) × (Nat × Int32 × Int32 × (Nat → VV))) := (M_X9_killingPairs k S).bind fun q1 => (M_X10_killingPairs k T).bind fun q2 => if q1 = q2.1 then (some (S, q2.2, U, V)) else (none)
set_option maxRecDepth 100000 in
set_option maxHeartbeats 4000000 in
theorem N_L_854_854 (C : CX E p l s m #[Value.ref bs] meth c cL_law 9 RL ret A) (a : Nat → Nat) (b : Nat → Nat) (c0 : Nat → Nat) (k Ls : Nat) (xs : Nat → Int32) (hX : va_X bs Ls xs s s.heap) (hbl : bs < s.heap.size) (hbA : ¬ A bs) (hlt : l.stackTraces = false) (hdc : DC s) (cN sN : Nat) (hcN : cN + 20 ≤ 601024 ∧ sN + 1600 ≤ 7293034) (fa : Nat → Nat → Nat) :
    ∀ (x4 : Int32) (S : VV × VV × VV × VV × VV × Int32) (T : Nat → Nat → Int32) (U : Nat → Int64) (V : Nat × Int32 × Int32 × (Nat → VV)) (q : (VV × VV × VV × VV × VV × Int32) × (Nat → Nat → Int32) × (Nat → Int64) × (Nat × Int32 × Int32 × (Nat → VV))), M_L_854_854 k Ls xs x4 S T U V = some q → (∀ fa' : Nat → Nat → Nat, WW E p l e room_1 s m #[Value.ref bs] below meth c A (cN + 20) (sN + 1600) (lw_Z below #[Value.ref bs] s) (wSg E a q.1 ++ wMd E b q.2.1 ++ wLo E c0 q.2.2.1 ++ wHi E a fa' q.2.2.2) 9 [some (.ref bs), some (.ref (a 0)), some (.ref (b 0)), some (.ref (c0 0)), some (.int x4), none, none, none, none] 2036 []) →
      WW E p l e room_1 s m #[Value.ref bs] below meth c A (cN + 0) (sN + 0) (lw_Z below #[Value.ref bs] s) (wSg E a S ++ wMd E b T ++ wLo E c0 U ++ wHi E a fa V) 9 [some (.ref bs), some (.ref (a 0)), some (.ref (b 0)), some (.ref (c0 0)), some (.int x4), none, none, none, none] 854 [] := by
  intro x4 S T U V q  h hq
  unfold M_L_854_854 at h
  refine r_aload_n (pc := 854) C (i := 1) dL_law_854 rfl rfl ?_
  obtain ⟨q1, hq1, h⟩ := bnd h
  refine r_callVp_CI (Cn := RX9) (pc := 855) C [] (c_X9_killingPairs E l k a S hq1) [0, 1, 2, 3, 4, 5, 6, 7, 8, 9, 10, 11, 12, 13, 14, 15, 16, 17, 18, 19, 20, 21, 22, 23, 24, 25, 26, 27, 28, 29, 30, 31, 32, 33, 34, 35, 36, 37, 38, 39, 40, 41, 42, 43, 44, 45, 46, 47, 48, 49, 50, 51, 52, 53, 54, 55, 56, 57, 58, 59, 60] (hps_hi (List.append_assoc _ _ _).symm (hp_L_204_0 E a b c0 fa S T U V)) (by decide) 0 rfl rfl rfl g_L_139 hd_X9_killingPairs ⟨Nat.le_of_ble_eq_true rfl, Nat.le_of_ble_eq_true rfl⟩ ⟨by have h1 : room_1.cells = 601024 := rfl; have h2 := hcN.1; simp only [Nat.le_refl, rm_X9_killingPairs]; omega, by have h1 : room_1.slots = 7293034 := rfl; have h2 := hcN.2; simp only [Nat.le_refl, rm_X9_killingPairs]; omega⟩ (Nat.le_of_ble_eq_true rfl) rfl dL_law_855 (fun r hr => ?_)
  have hr := hr.symm
  subst hr
  refine r_aload_n (pc := 858) C (i := 2) dL_law_858 rfl rfl ?_
  obtain ⟨q2, hq2, h⟩ := bnd h
  refine r_callV_CI (Cn := RX10) (pc := 859) C [] (c_X10_killingPairs E l k b T hq2) [61, 62, 63, 64, 65, 66, 67, 68, 69, 70, 71, 72, 73] (hps_hi (List.append_assoc _ _ _).symm (hp_L_204_1 E a b c0 fa S T U V)) (by decide) 0 rfl rfl rfl g_L_142 hd_X10_killingPairs ⟨Nat.le_of_ble_eq_true rfl, Nat.le_of_ble_eq_true rfl⟩ ⟨by have h1 : room_1.cells = 601024 := rfl; have h2 := hcN.1; simp only [Nat.le_refl, rm_X9_killingPairs, rm_X10_killingPairs]; omega, by have h1 : room_1.slots = 7293034 := rfl; have h2 := hcN.2; simp only [Nat.le_refl, rm_X9_killingPairs, rm_X10_killingPairs]; omega⟩ (Nat.le_of_ble_eq_true rfl) rfl dL_law_859 (fun r w1 hw1 => ?_)
  obtain ⟨hr1, hw1⟩ := hw1
  subst hr1 hw1
  refine ⟨(wSg E a S ++ wMd E b q2.2 ++ wLo E c0 U ++ wHi E a fa V), by exact putW_hi (List.append_assoc _ _ _).symm (List.append_assoc _ _ _).symm (hp_L_204_1 E a b c0 fa S T U V) rfl (pw_L_204_1 E a b c0 fa S T U V q2.2), ?_⟩
  refine r_icmp_eq (pc := 862) C (tgt := 2036) dL_law_862 rfl (fun c3 => ?_) (fun c3 => ?_)
  · rw [if_pos c3] at h
    cases h
    refine r_widen (k1 := cN + 20) (n1 := sN + 1600) (by simp only [Nat.le_refl, rm_X9_killingPairs, rm_X10_killingPairs]; omega) (by simp only [Nat.le_refl, rm_X9_killingPairs, rm_X10_killingPairs]; omega) ?_
    refine r_weak (lSub_s (lSub_s (lSub_s (lSub_s (lSub_s (lSub_n (lSub_n (lSub_n (lSub_n lSub_e))))))))) ?_
    exact hq fa
  · rw [if_neg c3] at h
    refine r_iconst (pc := 865) C (v := 0) dL_law_865 (by decide) ?_
    cases h
theorem hd_X10_overlap : yX10_overlap.cls = RX10 ∧ yX10_overlap.cls ≠ "java/lang/invoke/MethodHandle" ∧ yX10_overlap.cls ≠ "java/lang/invoke/VarHandle" ∧ (parseMethodDescriptor yX10_overlap.desc).map (fun d => d.parameters.length) = some 2 := by decide +kernel
theorem g_L_145 : GoodIn GW (wsV RL 145 RX10 yX10_overlap (wsG yX10_overlap cX10_overlap 3 (some .int))) := gw_V wm_6_210 wm_6_211 wm_6_212 wm_1_9 wm_6_213
theorem hd_L_overlap : yL_overlap.cls = RL ∧ yL_overlap.cls ≠ "java/lang/invoke/MethodHandle" ∧ yL_overlap.cls ≠ "java/lang/invoke/VarHandle" ∧ (parseMethodDescriptor yL_overlap.desc).map (fun d => d.parameters.length) = some 4 := by decide +kernel
theorem gL_143 : GoodIn GW (va_wsS RL 143 yL_overlap (Cond.codeWith yL_overlap cL_overlap 5 (some .int) [(0, 10, 13, 18)] :: GW)) := gw_SW wm_4_97 wm_4_98 wm_1_0 wm_4_99
-- the law from 867
theorem dL_law_867 : decode cL_law 867 = .ok (.aload_n 1, 1) := by decide +kernel
theorem dL_law_868 : decode cL_law 868 = .ok (.aload_n 0, 1) := by decide +kernel
theorem dL_law_869 : decode cL_law 869 = .ok (.iload 4, 2) := by decide +kernel
theorem dL_law_871 : decode cL_law 871 = .ok (.iconst 1, 1) := by decide +kernel
theorem dL_law_872 : decode cL_law 872 = .ok (.iadd, 1) := by decide +kernel
theorem dL_law_873 : decode cL_law 873 = .ok (.iaload, 1) := by decide +kernel
theorem dL_law_874 : decode cL_law 874 = .ok (.aload_n 0, 1) := by decide +kernel
theorem dL_law_875 : decode cL_law 875 = .ok (.iload 4, 2) := by decide +kernel
theorem dL_law_877 : decode cL_law 877 = .ok (.iconst 2, 1) := by decide +kernel
theorem dL_law_878 : decode cL_law 878 = .ok (.iadd, 1) := by decide +kernel
theorem dL_law_879 : decode cL_law 879 = .ok (.iaload, 1) := by decide +kernel
theorem dL_law_880 : decode cL_law 880 = .ok (.aload_n 3, 1) := by decide +kernel
theorem dL_law_881 : decode cL_law 881 = .ok (.invokestatic 143, 3) := by decide +kernel
theorem dL_law_884 : decode cL_law 884 = .ok (.istore 5, 2) := by decide +kernel
theorem dL_law_886 : decode cL_law 886 = .ok (.aload_n 2, 1) := by decide +kernel
theorem dL_law_887 : decode cL_law 887 = .ok (.aload_n 0, 1) := by decide +kernel
theorem dL_law_888 : decode cL_law 888 = .ok (.iload 4, 2) := by decide +kernel
theorem dL_law_890 : decode cL_law 890 = .ok (.iconst 1, 1) := by decide +kernel
theorem dL_law_891 : decode cL_law 891 = .ok (.iadd, 1) := by decide +kernel
theorem dL_law_892 : decode cL_law 892 = .ok (.iaload, 1) := by decide +kernel
theorem dL_law_893 : decode cL_law 893 = .ok (.aload_n 0, 1) := by decide +kernel
theorem dL_law_894 : decode cL_law 894 = .ok (.iload 4, 2) := by decide +kernel
theorem dL_law_896 : decode cL_law 896 = .ok (.iconst 2, 1) := by decide +kernel
theorem dL_law_897 : decode cL_law 897 = .ok (.iadd, 1) := by decide +kernel
theorem dL_law_898 : decode cL_law 898 = .ok (.iaload, 1) := by decide +kernel
theorem dL_law_899 : decode cL_law 899 = .ok (.invokevirtual 145, 3) := by decide +kernel
theorem dL_law_902 : decode cL_law 902 = .ok (.istore 6, 2) := by decide +kernel
theorem dL_law_904 : decode cL_law 904 = .ok (.aload_n 2, 1) := by decide +kernel
theorem dL_law_905 : decode cL_law 905 = .ok (.invokevirtual 106, 3) := by decide +kernel
theorem dL_law_908 : decode cL_law 908 = .ok (.iload 5, 2) := by decide +kernel
theorem dL_law_910 : decode cL_law 910 = .ok (.if_icmp .eq 5, 3) := by decide +kernel
theorem dL_law_913 : decode cL_law 913 = .ok (.iconst 0, 1) := by decide +kernel
theorem dL_law_914 : decode cL_law 914 = .ok (.ireturn, 1) := by decide +kernel
theorem dL_law_915 : decode cL_law 915 = .ok (.iload 5, 2) := by decide +kernel
theorem dL_law_917 : decode cL_law 917 = .ok (.ifCond .ne 15, 3) := by decide +kernel
theorem dL_law_920 : decode cL_law 920 = .ok (.aload_n 3, 1) := by decide +kernel
theorem dL_law_921 : decode cL_law 921 = .ok (.iconst 0, 1) := by decide +kernel
theorem dL_law_922 : decode cL_law 922 = .ok (.laload, 1) := by decide +kernel
theorem dL_law_923 : decode cL_law 923 = .ok (.iload 6, 2) := by decide +kernel
theorem dL_law_925 : decode cL_law 925 = .ok (.i2l, 1) := by decide +kernel
theorem dL_law_926 : decode cL_law 926 = .ok (.lcmp, 1) := by decide +kernel
theorem dL_law_927 : decode cL_law 927 = .ok (.ifCond .eq 5, 3) := by decide +kernel
theorem dL_law_930 : decode cL_law 930 = .ok (.iconst 0, 1) := by decide +kernel
theorem dL_law_931 : decode cL_law 931 = .ok (.ireturn, 1) := by decide +kernel
theorem dL_law_932 : decode cL_law 932 = .ok (.goto 1104, 3) := by decide +kernel
def M_L_867_867 (k Ls : Nat) (xs : Nat → Int32) (x4 : Int32) (S : VV × VV × VV × VV × VV × Int32) (T : Nat → Nat → Int32) (U : Nat → Int64) (V : Nat × Int32 × Int32 × (Nat → VV)) : Option ((VV × VV × VV × VV × VV × Int32) × (Nat → Nat → Int32) × (Nat → Int64) × (Nat × Int32 × Int32 × (Nat → VV))) := (if inb (x4 + (1 : Int32)) Ls = true then (if inb (x4 + (2 : Int32)) Ls = true then (M_L_overlap k S U (xs (x4 + (1 : Int32)).toNatClampNeg) (xs (x4 + (2 : Int32)).toNatClampNeg)).bind fun q3 => (if inb (x4 + (1 : Int32)) Ls = true then (if inb (x4 + (2 : Int32)) Ls = true then (M_X10_overlap k T (xs (x4 + (1 : Int32)).toNatClampNeg) (xs (x4 + (2 : Int32)).toNatClampNeg)).bind fun q6 => (M_X10_thrown k q6.2).bind fun q7 => if q7 = q3.1 then (if q3.1 = 0 then ((if inb (0 : Int32) 1 = true then if (lg_cmp (q3.2 (0 : Int32).toNatClampNeg) (q6.1.toInt64)) = 0 then (some (S, q6.2, q3.2, V)) else (none) else none)) else (some (S, q6.2, q3.2, V))) else (none) else none) else none) else none) else none)
set_option maxRecDepth 100000 in
set_option maxHeartbeats 4000000 in
theorem N_L_867_867 (C : CX E p l s m #[Value.ref bs] meth c cL_law 9 RL ret A) (a : Nat → Nat) (b : Nat → Nat) (c0 : Nat → Nat) (k Ls : Nat) (xs : Nat → Int32) (hX : va_X bs Ls xs s s.heap) (hbl : bs < s.heap.size) (hbA : ¬ A bs) (hlt : l.stackTraces = false) (hdc : DC s) (cN sN : Nat) (hcN : cN + 20 ≤ 601024 ∧ sN + 1600 ≤ 7293034) (fa : Nat → Nat → Nat) :
    ∀ (x4 : Int32) (S : VV × VV × VV × VV × VV × Int32) (T : Nat → Nat → Int32) (U : Nat → Int64) (V : Nat × Int32 × Int32 × (Nat → VV)) (q : (VV × VV × VV × VV × VV × Int32) × (Nat → Nat → Int32) × (Nat → Int64) × (Nat × Int32 × Int32 × (Nat → VV))), M_L_867_867 k Ls xs x4 S T U V = some q → (∀ fa' : Nat → Nat → Nat, WW E p l e room_1 s m #[Value.ref bs] below meth c A (cN + 20) (sN + 1600) (lw_Z below #[Value.ref bs] s) (wSg E a q.1 ++ wMd E b q.2.1 ++ wLo E c0 q.2.2.1 ++ wHi E a fa' q.2.2.2) 9 [some (.ref bs), some (.ref (a 0)), some (.ref (b 0)), some (.ref (c0 0)), some (.int x4), none, none, none, none] 2036 []) →
      WW E p l e room_1 s m #[Value.ref bs] below meth c A (cN + 0) (sN + 0) (lw_Z below #[Value.ref bs] s) (wSg E a S ++ wMd E b T ++ wLo E c0 U ++ wHi E a fa V) 9 [some (.ref bs), some (.ref (a 0)), some (.ref (b 0)), some (.ref (c0 0)), some (.int x4), none, none, none, none] 867 [] := by
  intro x4 S T U V q  h hq
  unfold M_L_867_867 at h
  refine r_aload_n (pc := 867) C (i := 1) dL_law_867 rfl rfl ?_
  refine r_aload_n (pc := 868) C (i := 0) dL_law_868 rfl rfl ?_
  refine r_iload (pc := 869) C (i := 4) dL_law_869 rfl ?_
  refine r_iconst (pc := 871) C (v := 1) dL_law_871 (by decide) ?_
  refine r_iadd (pc := 872) C dL_law_872 ?_
  obtain ⟨hi1, h⟩ := ifn h
  refine r_sld (pc := 873) C hX hbl hbA hi1 dL_law_873 ?_
  refine r_aload_n (pc := 874) C (i := 0) dL_law_874 rfl rfl ?_
  refine r_iload (pc := 875) C (i := 4) dL_law_875 rfl ?_
  refine r_iconst (pc := 877) C (v := 2) dL_law_877 (by decide) ?_
  refine r_iadd (pc := 878) C dL_law_878 ?_
  obtain ⟨hi2, h⟩ := ifn h
  refine r_sld (pc := 879) C hX hbl hbA hi2 dL_law_879 ?_
  refine r_aload_n (pc := 880) C (i := 3) dL_law_880 rfl rfl ?_
  obtain ⟨q3, hq3, h⟩ := bnd h
  refine r_callSH (pc := 881) C [.ref (a 0), .int (xs (x4 + (1 : Int32)).toNatClampNeg), .int (xs (x4 + (2 : Int32)).toNatClampNeg), .ref (c0 0)] hdc (c_L_overlap E l k a (c0 0) S U (xs (x4 + (1 : Int32)).toNatClampNeg) (xs (x4 + (2 : Int32)).toNatClampNeg) hlt hq3) [0, 1, 2, 3, 4, 5, 6, 7, 8, 9, 10, 11, 12, 13, 14, 15, 16, 17, 18, 19, 20, 21, 22, 23, 24, 25, 26, 27, 28, 29, 30, 31, 32, 33, 34, 35, 36, 37, 38, 39, 40, 41, 42, 43, 44, 45, 46, 47, 48, 49, 50, 51, 52, 53, 54, 55, 56, 57, 58, 59, 60, 74] (hps_hi (List.append_assoc _ _ _).symm (hpL1 E a b c0 fa S T U V)) (by decide) gL_143 hd_L_overlap.2 ⟨Nat.le_of_ble_eq_true rfl, Nat.le_of_ble_eq_true rfl⟩ ⟨by have h1 : room_1.cells = 601024 := rfl; have h2 := hcN.1; simp only [Nat.le_refl, rm_L_overlap]; omega, by have h1 : room_1.slots = 7293034 := rfl; have h2 := hcN.2; simp only [Nat.le_refl, rm_L_overlap]; omega⟩ (Nat.le_of_ble_eq_true rfl) rfl dL_law_881 (fun r w1 hw1 => ?_)
  obtain ⟨hr1, hw1⟩ := hw1
  subst hr1 hw1
  refine ⟨(wSg E a S ++ wMd E b T ++ wLo E c0 q3.2 ++ wHi E a fa V), putW_hi (List.append_assoc _ _ _).symm (List.append_assoc _ _ _).symm (hpL1 E a b c0 fa S T U V) rfl (pwL1 E a b c0 fa S T U V S q3.2), ?_⟩
  refine r_istore (pc := 884) C (i := 5) dL_law_884 (by decide) rfl ?_
  refine r_aload_n (pc := 886) C (i := 2) dL_law_886 rfl rfl ?_
  refine r_aload_n (pc := 887) C (i := 0) dL_law_887 rfl rfl ?_
  refine r_iload (pc := 888) C (i := 4) dL_law_888 rfl ?_
  refine r_iconst (pc := 890) C (v := 1) dL_law_890 (by decide) ?_
  refine r_iadd (pc := 891) C dL_law_891 ?_
  obtain ⟨hi4, h⟩ := ifn h
  refine r_sld (pc := 892) C hX hbl hbA hi4 dL_law_892 ?_
  refine r_aload_n (pc := 893) C (i := 0) dL_law_893 rfl rfl ?_
  refine r_iload (pc := 894) C (i := 4) dL_law_894 rfl ?_
  refine r_iconst (pc := 896) C (v := 2) dL_law_896 (by decide) ?_
  refine r_iadd (pc := 897) C dL_law_897 ?_
  obtain ⟨hi5, h⟩ := ifn h
  refine r_sld (pc := 898) C hX hbl hbA hi5 dL_law_898 ?_
  obtain ⟨q6, hq6, h⟩ := bnd h
  refine r_callV_CI (Cn := RX10) (pc := 899) C [.int (xs (x4 + (1 : Int32)).toNatClampNeg), .int (xs (x4 + (2 : Int32)).toNatClampNeg)] (c_X10_overlap E l k b T (xs (x4 + (1 : Int32)).toNatClampNeg) (xs (x4 + (2 : Int32)).toNatClampNeg) hq6) [61, 62, 63, 64, 65, 66, 67, 68, 69, 70, 71, 72, 73] (hps_hi (List.append_assoc _ _ _).symm (hp_L_204_1 E a b c0 fa S T q3.2 V)) (by decide) 0 rfl rfl rfl g_L_145 hd_X10_overlap ⟨Nat.le_of_ble_eq_true rfl, Nat.le_of_ble_eq_true rfl⟩ ⟨by have h1 : room_1.cells = 601024 := rfl; have h2 := hcN.1; simp only [Nat.le_refl, rm_L_overlap, rm_X10_overlap]; omega, by have h1 : room_1.slots = 7293034 := rfl; have h2 := hcN.2; simp only [Nat.le_refl, rm_L_overlap, rm_X10_overlap]; omega⟩ (Nat.le_of_ble_eq_true rfl) rfl dL_law_899 (fun r w1 hw1 => ?_)
  obtain ⟨hr1, hw1⟩ := hw1
  subst hr1 hw1
  refine ⟨(wSg E a S ++ wMd E b q6.2 ++ wLo E c0 q3.2 ++ wHi E a fa V), by exact putW_hi (List.append_assoc _ _ _).symm (List.append_assoc _ _ _).symm (hp_L_204_1 E a b c0 fa S T q3.2 V) rfl (pw_L_204_1 E a b c0 fa S T q3.2 V q6.2), ?_⟩
  refine r_istore (pc := 902) C (i := 6) dL_law_902 (by decide) rfl ?_
  refine r_aload_n (pc := 904) C (i := 2) dL_law_904 rfl rfl ?_
  obtain ⟨q7, hq7, h⟩ := bnd h
  refine r_callVp_CI (Cn := RX10) (pc := 905) C [] (c_X10_thrown E l k b q6.2 hq7) [61, 62, 63, 64, 65, 66, 67, 68, 69, 70, 71, 72, 73] (hps_hi (List.append_assoc _ _ _).symm (hp_L_204_1 E a b c0 fa S q6.2 q3.2 V)) (by decide) 0 rfl rfl rfl g_L_106 hd_X10_thrown ⟨Nat.le_of_ble_eq_true rfl, Nat.le_of_ble_eq_true rfl⟩ ⟨by have h1 : room_1.cells = 601024 := rfl; have h2 := hcN.1; simp only [Nat.le_refl, rm_L_overlap, rm_X10_overlap, rm_X10_thrown]; omega, by have h1 : room_1.slots = 7293034 := rfl; have h2 := hcN.2; simp only [Nat.le_refl, rm_L_overlap, rm_X10_overlap, rm_X10_thrown]; omega⟩ (Nat.le_of_ble_eq_true rfl) rfl dL_law_905 (fun r hr => ?_)
  have hr := hr.symm
  subst hr
  refine r_iload (pc := 908) C (i := 5) dL_law_908 rfl ?_
  refine r_icmp_eq (pc := 910) C (tgt := 915) dL_law_910 rfl (fun c8 => ?_) (fun c8 => ?_)
  · rw [if_pos c8] at h
    refine r_iload (pc := 915) C (i := 5) dL_law_915 rfl ?_
    refine r_if_ne (pc := 917) C (tgt := 932) dL_law_917 rfl (fun c9 => ?_) (fun c9 => ?_)
    · rw [if_neg c9] at h
      refine r_goto (pc := 932) C (tgt := 2036) dL_law_932 rfl ?_
      cases h
      refine r_widen (k1 := cN + 20) (n1 := sN + 1600) (by simp only [Nat.le_refl, rm_L_overlap, rm_X10_overlap, rm_X10_thrown]; omega) (by simp only [Nat.le_refl, rm_L_overlap, rm_X10_overlap, rm_X10_thrown]; omega) ?_
      refine r_weak (lSub_s (lSub_s (lSub_s (lSub_s (lSub_s (lSub_n (lSub_n (lSub_n (lSub_n lSub_e))))))))) ?_
      exact hq fa
    · rw [if_pos c9] at h
      refine r_aload_n (pc := 920) C (i := 3) dL_law_920 rfl rfl ?_
      refine r_iconst (pc := 921) C (v := 0) dL_law_921 (by decide) ?_
      obtain ⟨hi10, h⟩ := ifn h
      refine r_lald (pc := 922) C 74 rfl hi10 dL_law_922 ?_
      refine r_iload (pc := 923) C (i := 6) dL_law_923 rfl ?_
      refine r_i2l (pc := 925) C dL_law_925 ?_
      refine r_lcmp (pc := 926) C dL_law_926 ?_
      refine r_if_eq (pc := 927) C (tgt := 932) dL_law_927 rfl (fun c11 => ?_) (fun c11 => ?_)
      · rw [if_pos c11] at h
        refine r_goto (pc := 932) C (tgt := 2036) dL_law_932 rfl ?_
        cases h
        refine r_widen (k1 := cN + 20) (n1 := sN + 1600) (by simp only [Nat.le_refl, rm_L_overlap, rm_X10_overlap, rm_X10_thrown]; omega) (by simp only [Nat.le_refl, rm_L_overlap, rm_X10_overlap, rm_X10_thrown]; omega) ?_
        refine r_weak (lSub_s (lSub_s (lSub_s (lSub_s (lSub_s (lSub_n (lSub_n (lSub_n (lSub_n lSub_e))))))))) ?_
        exact hq fa
      · rw [if_neg c11] at h
        refine r_iconst (pc := 930) C (v := 0) dL_law_930 (by decide) ?_
        cases h
  · rw [if_neg c8] at h
    refine r_iconst (pc := 913) C (v := 0) dL_law_913 (by decide) ?_
    cases h
end WALKS
