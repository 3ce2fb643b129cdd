section WALKS
variable {E : ENV} {p : Program} {l : Launch} {e : Env} {s : State} {m : MethodId} {args : Array Value} {below : List Frame} {meth : Method} {c : Code} {A : Nat → Prop} {bs : Nat}
theorem hd_X10_pass : yX10_pass.cls = RX10 ∧ yX10_pass.cls ≠ "java/lang/invoke/MethodHandle" ∧ yX10_pass.cls ≠ "java/lang/invoke/VarHandle" ∧ (parseMethodDescriptor yX10_pass.desc).map (fun d => d.parameters.length) = some 1 := by decide +kernel
theorem g_L_188 : GoodIn GW (wsV RL 188 RX10 yX10_pass (wsG yX10_pass cX10_pass 4 (some .int))) := gw_V wm_7_134 wm_7_135 wm_7_136 wm_1_9 wm_7_137
theorem hd_L_pass : yL_pass.cls = RL ∧ yL_pass.cls ≠ "java/lang/invoke/MethodHandle" ∧ yL_pass.cls ≠ "java/lang/invoke/VarHandle" ∧ (parseMethodDescriptor yL_pass.desc).map (fun d => d.parameters.length) = some 3 := by decide +kernel
theorem gL_186 : GoodIn GW (va_wsS RL 186 yL_pass (Cond.codeWith yL_pass cL_pass 4 (some .int) [(0, 9, 12, 13)] :: GW)) := gw_SW wm_5_10 wm_5_11 wm_1_0 wm_5_12
-- the law from 1489
theorem dL_law_1489 : decode cL_law 1489 = .ok (.aload_n 1, 1) := by decide +kernel
theorem dL_law_1490 : decode cL_law 1490 = .ok (.aload_n 0, 1) := by decide +kernel
theorem dL_law_1491 : decode cL_law 1491 = .ok (.iload 4, 2) := by decide +kernel
theorem dL_law_1493 : decode cL_law 1493 = .ok (.iconst 1, 1) := by decide +kernel
theorem dL_law_1494 : decode cL_law 1494 = .ok (.iadd, 1) := by decide +kernel
theorem dL_law_1495 : decode cL_law 1495 = .ok (.iaload, 1) := by decide +kernel
theorem dL_law_1496 : decode cL_law 1496 = .ok (.aload_n 3, 1) := by decide +kernel
theorem dL_law_1497 : decode cL_law 1497 = .ok (.invokestatic 186, 3) := by decide +kernel
theorem dL_law_1500 : decode cL_law 1500 = .ok (.istore 5, 2) := by decide +kernel
theorem dL_law_1502 : decode cL_law 1502 = .ok (.aload_n 2, 1) := by decide +kernel
theorem dL_law_1503 : decode cL_law 1503 = .ok (.aload_n 0, 1) := by decide +kernel
theorem dL_law_1504 : decode cL_law 1504 = .ok (.iload 4, 2) := by decide +kernel
theorem dL_law_1506 : decode cL_law 1506 = .ok (.iconst 1, 1) := by decide +kernel
theorem dL_law_1507 : decode cL_law 1507 = .ok (.iadd, 1) := by decide +kernel
theorem dL_law_1508 : decode cL_law 1508 = .ok (.iaload, 1) := by decide +kernel
theorem dL_law_1509 : decode cL_law 1509 = .ok (.invokevirtual 188, 3) := by decide +kernel
theorem dL_law_1512 : decode cL_law 1512 = .ok (.istore 6, 2) := by decide +kernel
theorem dL_law_1514 : decode cL_law 1514 = .ok (.aload_n 2, 1) := by decide +kernel
theorem dL_law_1515 : decode cL_law 1515 = .ok (.invokevirtual 106, 3) := by decide +kernel
theorem dL_law_1518 : decode cL_law 1518 = .ok (.iload 5, 2) := by decide +kernel
theorem dL_law_1520 : decode cL_law 1520 = .ok (.if_icmp .eq 5, 3) := by decide +kernel
theorem dL_law_1523 : decode cL_law 1523 = .ok (.iconst 0, 1) := by decide +kernel
theorem dL_law_1524 : decode cL_law 1524 = .ok (.ireturn, 1) := by decide +kernel
theorem dL_law_1525 : decode cL_law 1525 = .ok (.iload 5, 2) := by decide +kernel
theorem dL_law_1527 : decode cL_law 1527 = .ok (.ifCond .ne 15, 3) := by decide +kernel
theorem dL_law_1530 : decode cL_law 1530 = .ok (.aload_n 3, 1) := by decide +kernel
theorem dL_law_1531 : decode cL_law 1531 = .ok (.iconst 0, 1) := by decide +kernel
theorem dL_law_1532 : decode cL_law 1532 = .ok (.laload, 1) := by decide +kernel
theorem dL_law_1533 : decode cL_law 1533 = .ok (.iload 6, 2) := by decide +kernel
theorem dL_law_1535 : decode cL_law 1535 = .ok (.i2l, 1) := by decide +kernel
theorem dL_law_1536 : decode cL_law 1536 = .ok (.lcmp, 1) := by decide +kernel
theorem dL_law_1537 : decode cL_law 1537 = .ok (.ifCond .eq 5, 3) := by decide +kernel
theorem dL_law_1540 : decode cL_law 1540 = .ok (.iconst 0, 1) := by decide +kernel
theorem dL_law_1541 : decode cL_law 1541 = .ok (.ireturn, 1) := by decide +kernel
theorem dL_law_1542 : decode cL_law 1542 = .ok (.goto 494, 3) := by decide +kernel
def M_L_1489_1489 (k Ls : Nat) (xs : Nat → Int32) (x4 : Int32) (S : VV × VV × VV × VV × VV × Int32) (T : Nat → Nat → Int32) (U : Nat → Int64) (V : Nat × Int32 × Int32 × (Nat → VV)) : Option ((VV × VV × VV × VV × VV × Int32) × (Nat → Nat → Int32) × (Nat → Int64) × (Nat × Int32 × Int32 × (Nat → VV))) := (if inb (x4 + (1 : Int32)) Ls = true then (M_L_pass k S V U (xs (x4 + (1 : Int32)).toNatClampNeg)).bind fun q2 => (if inb (x4 + (1 : Int32)) Ls = true then (M_X10_pass k T (xs (x4 + (1 : Int32)).toNatClampNeg)).bind fun q5 => (M_X10_thrown k q5.2).bind fun q6 => if q6 = q2.1 then (if q2.1 = 0 then ((if inb (0 : Int32) 1 = true then if (lg_cmp ((q2.2.2.2 (0 : Int32).toNatClampNeg).toInt64) (q5.1.toInt64)) = 0 then (some (q2.2.1, q5.2, q2.2.2.2, q2.2.2.1)) else (none) else none)) else (some (q2.2.1, q5.2, q2.2.2.2, q2.2.2.1))) else (none) else none) else none)
set_option maxRecDepth 100000 in
set_option maxHeartbeats 4000000 in
theorem N_L_1489_1489 (C : CX E p l s m #[Value.ref bs] meth c cL_law 9 RL ret A) (a : Nat → Nat) (b : Nat → Nat) (c0 : Nat → Nat) (k Ls : Nat) (xs : Nat → Int32) (hX : va_X bs Ls xs s s.heap) (hbl : bs < s.heap.size) (hbA : ¬ A bs) (hlt : l.stackTraces = false) (hdc : DC s) (cN sN : Nat) (hcN : cN + 20 ≤ 601024 ∧ sN + 1600 ≤ 7293034) (fa : Nat → Nat → Nat) :
    ∀ (x4 : Int32) (S : VV × VV × VV × VV × VV × Int32) (T : Nat → Nat → Int32) (U : Nat → Int64) (V : Nat × Int32 × Int32 × (Nat → VV)) (q : (VV × VV × VV × VV × VV × Int32) × (Nat → Nat → Int32) × (Nat → Int64) × (Nat × Int32 × Int32 × (Nat → VV))), M_L_1489_1489 k Ls xs x4 S T U V = some q → (∀ fa' : Nat → Nat → Nat, WW E p l e room_1 s m #[Value.ref bs] below meth c A (cN + 20) (sN + 1600) (lw_Z below #[Value.ref bs] s) (wSg E a q.1 ++ wMd E b q.2.1 ++ wLo E c0 q.2.2.1 ++ wHi E a fa' q.2.2.2) 9 [some (.ref bs), some (.ref (a 0)), some (.ref (b 0)), some (.ref (c0 0)), some (.int x4), none, none, none, none] 2036 []) →
      WW E p l e room_1 s m #[Value.ref bs] below meth c A (cN + 0) (sN + 0) (lw_Z below #[Value.ref bs] s) (wSg E a S ++ wMd E b T ++ wLo E c0 U ++ wHi E a fa V) 9 [some (.ref bs), some (.ref (a 0)), some (.ref (b 0)), some (.ref (c0 0)), some (.int x4), none, none, none, none] 1489 [] := by
  intro x4 S T U V q  h hq
  unfold M_L_1489_1489 at h
  refine r_aload_n (pc := 1489) C (i := 1) dL_law_1489 rfl rfl ?_
  refine r_aload_n (pc := 1490) C (i := 0) dL_law_1490 rfl rfl ?_
  refine r_iload (pc := 1491) C (i := 4) dL_law_1491 rfl ?_
  refine r_iconst (pc := 1493) C (v := 1) dL_law_1493 (by decide) ?_
  refine r_iadd (pc := 1494) C dL_law_1494 ?_
  obtain ⟨hi1, h⟩ := ifn h
  refine r_sld (pc := 1495) C hX hbl hbA hi1 dL_law_1495 ?_
  refine r_aload_n (pc := 1496) C (i := 3) dL_law_1496 rfl rfl ?_
  obtain ⟨q2, hq2, h⟩ := bnd h
  refine r_callSHT (c0 := (wSg E a S ++ ([(c0 0, .inl (eC E 1, 1, .inr (.inl U)))] ++ hiC E a fa V))) (w0 := (wSg E a S ++ wMd E b T ++ wLo E c0 U ++ hiC E a fa V)) (t := hiT E fa V) (pc := 1497) C [.ref (a 0), .int (xs (x4 + (1 : Int32)).toNatClampNeg), .ref (c0 0)] hdc (c_L_pass E l k a (c0 0) fa S V U (xs (x4 + (1 : Int32)).toNatClampNeg) hlt hq2) [0, 1, 2, 3, 4, 5, 6, 7, 8, 9, 10, 11, 12, 13, 14, 15, 16, 17, 18, 19, 20, 21, 22, 23, 24, 25, 26, 27, 28, 29, 30, 31, 32, 33, 34, 35, 36, 37, 38, 39, 40, 41, 42, 43, 44, 45, 46, 47, 48, 49, 50, 51, 52, 53, 54, 55, 56, 57, 58, 59, 60, 74, 75, 76] (hpL2 E a b c0 fa S T U V) (by decide) gL_186 hd_L_pass.2 ⟨Nat.le_of_ble_eq_true rfl, Nat.le_of_ble_eq_true rfl⟩ ⟨by have h1 : room_1.cells = 601024 := rfl; have h2 := hcN.1; simp only [Nat.le_refl, rm_L_pass]; omega, by have h1 : room_1.slots = 7293034 := rfl; have h2 := hcN.2; simp only [Nat.le_refl, rm_L_pass]; omega⟩ (Nat.le_of_ble_eq_true rfl) rfl dL_law_1497 (List.append_assoc _ _ _).symm (fun r w1 hw1 => ?_)
  obtain ⟨hr1, fa3, hw1, hmo⟩ := hw1
  subst hr1 hw1
  refine ⟨(wSg E a q2.2.1 ++ ([(c0 0, .inl (eC E 1, 1, .inr (.inl q2.2.2.2)))] ++ hiC E a fa3 q2.2.2.1)), hiT E fa3 q2.2.2.1, _, rfl, rfl, hiT_le hmo, pwL2 E a b c0 fa3 S T U V q2.2.1 q2.2.2.2 q2.2.2.1, ?_⟩
  refine r_world (w' := (wSg E a q2.2.1 ++ wMd E b T ++ wLo E c0 q2.2.2.2 ++ wHi E a fa3 q2.2.2.1)) (List.append_assoc _ _ _) ?_
  refine r_istore (pc := 1500) C (i := 5) dL_law_1500 (by decide) rfl ?_
  refine r_aload_n (pc := 1502) C (i := 2) dL_law_1502 rfl rfl ?_
  refine r_aload_n (pc := 1503) C (i := 0) dL_law_1503 rfl rfl ?_
  refine r_iload (pc := 1504) C (i := 4) dL_law_1504 rfl ?_
  refine r_iconst (pc := 1506) C (v := 1) dL_law_1506 (by decide) ?_
  refine r_iadd (pc := 1507) C dL_law_1507 ?_
  obtain ⟨hi4, h⟩ := ifn h
  refine r_sld (pc := 1508) C hX hbl hbA hi4 dL_law_1508 ?_
  obtain ⟨q5, hq5, h⟩ := bnd h
  refine r_callV_CI (Cn := RX10) (pc := 1509) C [.int (xs (x4 + (1 : Int32)).toNatClampNeg)] (c_X10_pass E l k b T (xs (x4 + (1 : Int32)).toNatClampNeg) hq5) [61, 62, 63, 64, 65, 66, 67, 68, 69, 70, 71, 72, 73] (hps_hi (List.append_assoc _ _ _).symm (hp_L_204_1 E a b c0 fa3 q2.2.1 T q2.2.2.2 q2.2.2.1)) (by decide) 0 rfl rfl rfl g_L_188 hd_X10_pass ⟨Nat.le_of_ble_eq_true rfl, Nat.le_of_ble_eq_true rfl⟩ ⟨Nat.le_of_ble_eq_true rfl, Nat.le_of_ble_eq_true rfl⟩ (Nat.le_of_ble_eq_true rfl) rfl dL_law_1509 (fun r w1 hw1 => ?_)
  obtain ⟨hr1, hw1⟩ := hw1
  subst hr1 hw1
  refine ⟨(wSg E a q2.2.1 ++ wMd E b q5.2 ++ wLo E c0 q2.2.2.2 ++ wHi E a fa3 q2.2.2.1), by exact putW_hi (List.append_assoc _ _ _).symm (List.append_assoc _ _ _).symm (hp_L_204_1 E a b c0 fa3 q2.2.1 T q2.2.2.2 q2.2.2.1) rfl (pw_L_204_1 E a b c0 fa3 q2.2.1 T q2.2.2.2 q2.2.2.1 q5.2), ?_⟩
  refine r_istore (pc := 1512) C (i := 6) dL_law_1512 (by decide) rfl ?_
  refine r_aload_n (pc := 1514) C (i := 2) dL_law_1514 rfl rfl ?_
  obtain ⟨q6, hq6, h⟩ := bnd h
  refine r_callVp_CI (Cn := RX10) (pc := 1515) C [] (c_X10_thrown E l k b q5.2 hq6) [61, 62, 63, 64, 65, 66, 67, 68, 69, 70, 71, 72, 73] (hps_hi (List.append_assoc _ _ _).symm (hp_L_204_1 E a b c0 fa3 q2.2.1 q5.2 q2.2.2.2 q2.2.2.1)) (by decide) 0 rfl rfl rfl g_L_106 hd_X10_thrown ⟨Nat.le_of_ble_eq_true rfl, Nat.le_of_ble_eq_true rfl⟩ ⟨Nat.le_of_ble_eq_true rfl, Nat.le_of_ble_eq_true rfl⟩ (Nat.le_of_ble_eq_true rfl) rfl dL_law_1515 (fun r hr => ?_)
  have hr := hr.symm
  subst hr
  refine r_iload (pc := 1518) C (i := 5) dL_law_1518 rfl ?_
  refine r_icmp_eq (pc := 1520) C (tgt := 1525) dL_law_1520 rfl (fun c7 => ?_) (fun c7 => ?_)
  · rw [if_pos c7] at h
    refine r_iload (pc := 1525) C (i := 5) dL_law_1525 rfl ?_
    refine r_if_ne (pc := 1527) C (tgt := 1542) dL_law_1527 rfl (fun c8 => ?_) (fun c8 => ?_)
    · rw [if_neg c8] at h
      refine r_goto (pc := 1542) C (tgt := 2036) dL_law_1542 rfl ?_
      cases h
      refine r_widen (k1 := cN + 20) (n1 := sN + 1600) (by simp only [Nat.le_refl, rm_L_pass, rm_X10_pass, rm_X10_thrown]; omega) (by simp only [Nat.le_refl, rm_L_pass, rm_X10_pass, rm_X10_thrown]; omega) ?_
      refine r_weak (lSub_s (lSub_s (lSub_s (lSub_s (lSub_s (lSub_n (lSub_n (lSub_n (lSub_n lSub_e))))))))) ?_
      exact hq fa3
    · rw [if_pos c8] at h
      refine r_aload_n (pc := 1530) C (i := 3) dL_law_1530 rfl rfl ?_
      refine r_iconst (pc := 1531) C (v := 0) dL_law_1531 (by decide) ?_
      obtain ⟨hi9, h⟩ := ifn h
      refine r_lald (pc := 1532) C 74 rfl hi9 dL_law_1532 ?_
      refine r_iload (pc := 1533) C (i := 6) dL_law_1533 rfl ?_
      refine r_i2l (pc := 1535) C dL_law_1535 ?_
      refine r_lcmp (pc := 1536) C dL_law_1536 ?_
      refine r_if_eq (pc := 1537) C (tgt := 1542) dL_law_1537 rfl (fun c10 => ?_) (fun c10 => ?_)
      · rw [if_pos c10] at h
        refine r_goto (pc := 1542) C (tgt := 2036) dL_law_1542 rfl ?_
        cases h
        refine r_widen (k1 := cN + 20) (n1 := sN + 1600) (by simp only [Nat.le_refl, rm_L_pass, rm_X10_pass, rm_X10_thrown]; omega) (by simp only [Nat.le_refl, rm_L_pass, rm_X10_pass, rm_X10_thrown]; omega) ?_
        refine r_weak (lSub_s (lSub_s (lSub_s (lSub_s (lSub_s (lSub_n (lSub_n (lSub_n (lSub_n lSub_e))))))))) ?_
        exact hq fa3
      · rw [if_neg c10] at h
        refine r_iconst (pc := 1540) C (v := 0) dL_law_1540 (by decide) ?_
        cases h
  · rw [if_neg c7] at h
    refine r_iconst (pc := 1523) C (v := 0) dL_law_1523 (by decide) ?_
    cases h
theorem hd_X10_kill : yX10_kill.cls = RX10 ∧ yX10_kill.cls ≠ "java/lang/invoke/MethodHandle" ∧ yX10_kill.cls ≠ "java/lang/invoke/VarHandle" ∧ (parseMethodDescriptor yX10_kill.desc).map (fun d => d.parameters.length) = some 1 := by decide +kernel
theorem g_L_191 : GoodIn GW (wsV RL 191 RX10 yX10_kill (wsG yX10_kill cX10_kill 2 (some .int))) := gw_V wm_7_138 wm_7_139 wm_7_140 wm_1_9 wm_7_141
theorem hd_L_kill : yL_kill.cls = RL ∧ yL_kill.cls ≠ "java/lang/invoke/MethodHandle" ∧ yL_kill.cls ≠ "java/lang/invoke/VarHandle" ∧ (parseMethodDescriptor yL_kill.desc).map (fun d => d.parameters.length) = some 3 := by decide +kernel
theorem gL_189 : GoodIn GW (va_wsS RL 189 yL_kill (Cond.codeWith yL_kill cL_kill 4 (some .int) [(0, 9, 12, 18)] :: GW)) := gw_SW wm_5_18 wm_5_19 wm_1_0 wm_5_20
-- the law from 1545
theorem dL_law_1545 : decode cL_law 1545 = .ok (.aload_n 1, 1) := by decide +kernel
theorem dL_law_1546 : decode cL_law 1546 = .ok (.aload_n 0, 1) := by decide +kernel
theorem dL_law_1547 : decode cL_law 1547 = .ok (.iload 4, 2) := by decide +kernel
theorem dL_law_1549 : decode cL_law 1549 = .ok (.iconst 1, 1) := by decide +kernel
theorem dL_law_1550 : decode cL_law 1550 = .ok (.iadd, 1) := by decide +kernel
theorem dL_law_1551 : decode cL_law 1551 = .ok (.iaload, 1) := by decide +kernel
theorem dL_law_1552 : decode cL_law 1552 = .ok (.aload_n 3, 1) := by decide +kernel
theorem dL_law_1553 : decode cL_law 1553 = .ok (.invokestatic 189, 3) := by decide +kernel
theorem dL_law_1556 : decode cL_law 1556 = .ok (.istore 5, 2) := by decide +kernel
theorem dL_law_1558 : decode cL_law 1558 = .ok (.aload_n 2, 1) := by decide +kernel
theorem dL_law_1559 : decode cL_law 1559 = .ok (.aload_n 0, 1) := by decide +kernel
theorem dL_law_1560 : decode cL_law 1560 = .ok (.iload 4, 2) := by decide +kernel
theorem dL_law_1562 : decode cL_law 1562 = .ok (.iconst 1, 1) := by decide +kernel
theorem dL_law_1563 : decode cL_law 1563 = .ok (.iadd, 1) := by decide +kernel
theorem dL_law_1564 : decode cL_law 1564 = .ok (.iaload, 1) := by decide +kernel
theorem dL_law_1565 : decode cL_law 1565 = .ok (.invokevirtual 191, 3) := by decide +kernel
theorem dL_law_1568 : decode cL_law 1568 = .ok (.istore 6, 2) := by decide +kernel
theorem dL_law_1570 : decode cL_law 1570 = .ok (.aload_n 2, 1) := by decide +kernel
theorem dL_law_1571 : decode cL_law 1571 = .ok (.invokevirtual 106, 3) := by decide +kernel
theorem dL_law_1574 : decode cL_law 1574 = .ok (.iload 5, 2) := by decide +kernel
theorem dL_law_1576 : decode cL_law 1576 = .ok (.if_icmp .eq 5, 3) := by decide +kernel
theorem dL_law_1579 : decode cL_law 1579 = .ok (.iconst 0, 1) := by decide +kernel
theorem dL_law_1580 : decode cL_law 1580 = .ok (.ireturn, 1) := by decide +kernel
theorem dL_law_1581 : decode cL_law 1581 = .ok (.iload 5, 2) := by decide +kernel
theorem dL_law_1583 : decode cL_law 1583 = .ok (.ifCond .ne 15, 3) := by decide +kernel
theorem dL_law_1586 : decode cL_law 1586 = .ok (.aload_n 3, 1) := by decide +kernel
theorem dL_law_1587 : decode cL_law 1587 = .ok (.iconst 0, 1) := by decide +kernel
theorem dL_law_1588 : decode cL_law 1588 = .ok (.laload, 1) := by decide +kernel
theorem dL_law_1589 : decode cL_law 1589 = .ok (.iload 6, 2) := by decide +kernel
theorem dL_law_1591 : decode cL_law 1591 = .ok (.i2l, 1) := by decide +kernel
theorem dL_law_1592 : decode cL_law 1592 = .ok (.lcmp, 1) := by decide +kernel
theorem dL_law_1593 : decode cL_law 1593 = .ok (.ifCond .eq 5, 3) := by decide +kernel
theorem dL_law_1596 : decode cL_law 1596 = .ok (.iconst 0, 1) := by decide +kernel
theorem dL_law_1597 : decode cL_law 1597 = .ok (.ireturn, 1) := by decide +kernel
theorem dL_law_1598 : decode cL_law 1598 = .ok (.goto 438, 3) := by decide +kernel
def M_L_1545_1545 (k Ls : Nat) (xs : Nat → Int32) (x4 : Int32) (S : VV × VV × VV × VV × VV × Int32) (T : Nat → Nat → Int32) (U : Nat → Int64) (V : Nat × Int32 × Int32 × (Nat → VV)) : Option ((VV × VV × VV × VV × VV × Int32) × (Nat → Nat → Int32) × (Nat → Int64) × (Nat × Int32 × Int32 × (Nat → VV))) := (if inb (x4 + (1 : Int32)) Ls = true then (M_L_kill k S V U (xs (x4 + (1 : Int32)).toNatClampNeg)).bind fun q2 => (if inb (x4 + (1 : Int32)) Ls = true then (M_X10_kill k T (xs (x4 + (1 : Int32)).toNatClampNeg)).bind fun q5 => (M_X10_thrown k q5.2).bind fun q6 => if q6 = q2.1 then (if q2.1 = 0 then ((if inb (0 : Int32) 1 = true then if (lg_cmp ((q2.2.2.2 (0 : Int32).toNatClampNeg).toInt64) (q5.1.toInt64)) = 0 then (some (q2.2.1, q5.2, q2.2.2.2, q2.2.2.1)) else (none) else none)) else (some (q2.2.1, q5.2, q2.2.2.2, q2.2.2.1))) else (none) else none) else none)
set_option maxRecDepth 100000 in
set_option maxHeartbeats 4000000 in
theorem N_L_1545_1545 (C : CX E p l s m #[Value.ref bs] meth c cL_law 9 RL ret A) (a : Nat → Nat) (b : Nat → Nat) (c0 : Nat → Nat) (k Ls : Nat) (xs : Nat → Int32) (hX : va_X bs Ls xs s s.heap) (hbl : bs < s.heap.size) (hbA : ¬ A bs) (hlt : l.stackTraces = false) (hdc : DC s) (cN sN : Nat) (hcN : cN + 20 ≤ 601024 ∧ sN + 1600 ≤ 7293034) (fa : Nat → Nat → Nat) :
    ∀ (x4 : Int32) (S : VV × VV × VV × VV × VV × Int32) (T : Nat → Nat → Int32) (U : Nat → Int64) (V : Nat × Int32 × Int32 × (Nat → VV)) (q : (VV × VV × VV × VV × VV × Int32) × (Nat → Nat → Int32) × (Nat → Int64) × (Nat × Int32 × Int32 × (Nat → VV))), M_L_1545_1545 k Ls xs x4 S T U V = some q → (∀ fa' : Nat → Nat → Nat, WW E p l e room_1 s m #[Value.ref bs] below meth c A (cN + 20) (sN + 1600) (lw_Z below #[Value.ref bs] s) (wSg E a q.1 ++ wMd E b q.2.1 ++ wLo E c0 q.2.2.1 ++ wHi E a fa' q.2.2.2) 9 [some (.ref bs), some (.ref (a 0)), some (.ref (b 0)), some (.ref (c0 0)), some (.int x4), none, none, none, none] 2036 []) →
      WW E p l e room_1 s m #[Value.ref bs] below meth c A (cN + 0) (sN + 0) (lw_Z below #[Value.ref bs] s) (wSg E a S ++ wMd E b T ++ wLo E c0 U ++ wHi E a fa V) 9 [some (.ref bs), some (.ref (a 0)), some (.ref (b 0)), some (.ref (c0 0)), some (.int x4), none, none, none, none] 1545 [] := by
  intro x4 S T U V q  h hq
  unfold M_L_1545_1545 at h
  refine r_aload_n (pc := 1545) C (i := 1) dL_law_1545 rfl rfl ?_
  refine r_aload_n (pc := 1546) C (i := 0) dL_law_1546 rfl rfl ?_
  refine r_iload (pc := 1547) C (i := 4) dL_law_1547 rfl ?_
  refine r_iconst (pc := 1549) C (v := 1) dL_law_1549 (by decide) ?_
  refine r_iadd (pc := 1550) C dL_law_1550 ?_
  obtain ⟨hi1, h⟩ := ifn h
  refine r_sld (pc := 1551) C hX hbl hbA hi1 dL_law_1551 ?_
  refine r_aload_n (pc := 1552) C (i := 3) dL_law_1552 rfl rfl ?_
  obtain ⟨q2, hq2, h⟩ := bnd h
  refine r_callSHT (c0 := (wSg E a S ++ ([(c0 0, .inl (eC E 1, 1, .inr (.inl U)))] ++ hiC E a fa V))) (w0 := (wSg E a S ++ wMd E b T ++ wLo E c0 U ++ hiC E a fa V)) (t := hiT E fa V) (pc := 1553) C [.ref (a 0), .int (xs (x4 + (1 : Int32)).toNatClampNeg), .ref (c0 0)] hdc (c_L_kill E l k a (c0 0) fa S V U (xs (x4 + (1 : Int32)).toNatClampNeg) hlt hq2) [0, 1, 2, 3, 4, 5, 6, 7, 8, 9, 10, 11, 12, 13, 14, 15, 16, 17, 18, 19, 20, 21, 22, 23, 24, 25, 26, 27, 28, 29, 30, 31, 32, 33, 34, 35, 36, 37, 38, 39, 40, 41, 42, 43, 44, 45, 46, 47, 48, 49, 50, 51, 52, 53, 54, 55, 56, 57, 58, 59, 60, 74, 75, 76] (hpL2 E a b c0 fa S T U V) (by decide) gL_189 hd_L_kill.2 ⟨Nat.le_of_ble_eq_true rfl, Nat.le_of_ble_eq_true rfl⟩ ⟨by have h1 : room_1.cells = 601024 := rfl; have h2 := hcN.1; simp only [Nat.le_refl, rm_L_kill]; omega, by have h1 : room_1.slots = 7293034 := rfl; have h2 := hcN.2; simp only [Nat.le_refl, rm_L_kill]; omega⟩ (Nat.le_of_ble_eq_true rfl) rfl dL_law_1553 (List.append_assoc _ _ _).symm (fun r w1 hw1 => ?_)
  obtain ⟨hr1, fa3, hw1, hmo⟩ := hw1
  subst hr1 hw1
  refine ⟨(wSg E a q2.2.1 ++ ([(c0 0, .inl (eC E 1, 1, .inr (.inl q2.2.2.2)))] ++ hiC E a fa3 q2.2.2.1)), hiT E fa3 q2.2.2.1, _, rfl, rfl, hiT_le hmo, pwL2 E a b c0 fa3 S T U V q2.2.1 q2.2.2.2 q2.2.2.1, ?_⟩
  refine r_world (w' := (wSg E a q2.2.1 ++ wMd E b T ++ wLo E c0 q2.2.2.2 ++ wHi E a fa3 q2.2.2.1)) (List.append_assoc _ _ _) ?_
  refine r_istore (pc := 1556) C (i := 5) dL_law_1556 (by decide) rfl ?_
  refine r_aload_n (pc := 1558) C (i := 2) dL_law_1558 rfl rfl ?_
  refine r_aload_n (pc := 1559) C (i := 0) dL_law_1559 rfl rfl ?_
  refine r_iload (pc := 1560) C (i := 4) dL_law_1560 rfl ?_
  refine r_iconst (pc := 1562) C (v := 1) dL_law_1562 (by decide) ?_
  refine r_iadd (pc := 1563) C dL_law_1563 ?_
  obtain ⟨hi4, h⟩ := ifn h
  refine r_sld (pc := 1564) C hX hbl hbA hi4 dL_law_1564 ?_
  obtain ⟨q5, hq5, h⟩ := bnd h
  refine r_callV_CI (Cn := RX10) (pc := 1565) C [.int (xs (x4 + (1 : Int32)).toNatClampNeg)] (c_X10_kill E l k b T (xs (x4 + (1 : Int32)).toNatClampNeg) hq5) [61, 62, 63, 64, 65, 66, 67, 68, 69, 70, 71, 72, 73] (hps_hi (List.append_assoc _ _ _).symm (hp_L_204_1 E a b c0 fa3 q2.2.1 T q2.2.2.2 q2.2.2.1)) (by decide) 0 rfl rfl rfl g_L_191 hd_X10_kill ⟨Nat.le_of_ble_eq_true rfl, Nat.le_of_ble_eq_true rfl⟩ ⟨Nat.le_of_ble_eq_true rfl, Nat.le_of_ble_eq_true rfl⟩ (Nat.le_of_ble_eq_true rfl) rfl dL_law_1565 (fun r w1 hw1 => ?_)
  obtain ⟨hr1, hw1⟩ := hw1
  subst hr1 hw1
  refine ⟨(wSg E a q2.2.1 ++ wMd E b q5.2 ++ wLo E c0 q2.2.2.2 ++ wHi E a fa3 q2.2.2.1), by exact putW_hi (List.append_assoc _ _ _).symm (List.append_assoc _ _ _).symm (hp_L_204_1 E a b c0 fa3 q2.2.1 T q2.2.2.2 q2.2.2.1) rfl (pw_L_204_1 E a b c0 fa3 q2.2.1 T q2.2.2.2 q2.2.2.1 q5.2), ?_⟩
  refine r_istore (pc := 1568) C (i := 6) dL_law_1568 (by decide) rfl ?_
  refine r_aload_n (pc := 1570) C (i := 2) dL_law_1570 rfl rfl ?_
  obtain ⟨q6, hq6, h⟩ := bnd h
  refine r_callVp_CI (Cn := RX10) (pc := 1571) C [] (c_X10_thrown E l k b q5.2 hq6) [61, 62, 63, 64, 65, 66, 67, 68, 69, 70, 71, 72, 73] (hps_hi (List.append_assoc _ _ _).symm (hp_L_204_1 E a b c0 fa3 q2.2.1 q5.2 q2.2.2.2 q2.2.2.1)) (by decide) 0 rfl rfl rfl g_L_106 hd_X10_thrown ⟨Nat.le_of_ble_eq_true rfl, Nat.le_of_ble_eq_true rfl⟩ ⟨Nat.le_of_ble_eq_true rfl, Nat.le_of_ble_eq_true rfl⟩ (Nat.le_of_ble_eq_true rfl) rfl dL_law_1571 (fun r hr => ?_)
  have hr := hr.symm
  subst hr
  refine r_iload (pc := 1574) C (i := 5) dL_law_1574 rfl ?_
  refine r_icmp_eq (pc := 1576) C (tgt := 1581) dL_law_1576 rfl (fun c7 => ?_) (fun c7 => ?_)
  · rw [if_pos c7] at h
    refine r_iload (pc := 1581) C (i := 5) dL_law_1581 rfl ?_
    refine r_if_ne (pc := 1583) C (tgt := 1598) dL_law_1583 rfl (fun c8 => ?_) (fun c8 => ?_)
    · rw [if_neg c8] at h
      refine r_goto (pc := 1598) C (tgt := 2036) dL_law_1598 rfl ?_
      cases h
      refine r_widen (k1 := cN + 20) (n1 := sN + 1600) (by simp only [Nat.le_refl, rm_L_kill, rm_X10_kill, rm_X10_thrown]; omega) (by simp only [Nat.le_refl, rm_L_kill, rm_X10_kill, rm_X10_thrown]; omega) ?_
      refine r_weak (lSub_s (lSub_s (lSub_s (lSub_s (lSub_s (lSub_n (lSub_n (lSub_n (lSub_n lSub_e))))))))) ?_
      exact hq fa3
    · rw [if_pos c8] at h
      refine r_aload_n (pc := 1586) C (i := 3) dL_law_1586 rfl rfl ?_
      refine r_iconst (pc := 1587) C (v := 0) dL_law_1587 (by decide) ?_
      obtain ⟨hi9, h⟩ := ifn h
      refine r_lald (pc := 1588) C 74 rfl hi9 dL_law_1588 ?_
      refine r_iload (pc := 1589) C (i := 6) dL_law_1589 rfl ?_
      refine r_i2l (pc := 1591) C dL_law_1591 ?_
      refine r_lcmp (pc := 1592) C dL_law_1592 ?_
      refine r_if_eq (pc := 1593) C (tgt := 1598) dL_law_1593 rfl (fun c10 => ?_) (fun c10 => ?_)
      · rw [if_pos c10] at h
        refine r_goto (pc := 1598) C (tgt := 2036) dL_law_1598 rfl ?_
        cases h
        refine r_widen (k1 := cN + 20) (n1 := sN + 1600) (by simp only [Nat.le_refl, rm_L_kill, rm_X10_kill, rm_X10_thrown]; omega) (by simp only [Nat.le_refl, rm_L_kill, rm_X10_kill, rm_X10_thrown]; omega) ?_
        refine r_weak (lSub_s (lSub_s (lSub_s (lSub_s (lSub_s (lSub_n (lSub_n (lSub_n (lSub_n lSub_e))))))))) ?_
        exact hq fa3
      · rw [if_neg c10] at h
        refine r_iconst (pc := 1596) C (v := 0) dL_law_1596 (by decide) ?_
        cases h
  · rw [if_neg c7] at h
    refine r_iconst (pc := 1579) C (v := 0) dL_law_1579 (by decide) ?_
    cases h
theorem hd_X10_move : yX10_move.cls = RX10 ∧ yX10_move.cls ≠ "java/lang/invoke/MethodHandle" ∧ yX10_move.cls ≠ "java/lang/invoke/VarHandle" ∧ (parseMethodDescriptor yX10_move.desc).map (fun d => d.parameters.length) = some 2 := by decide +kernel
theorem g_L_194 : GoodIn GW (wsV RL 194 RX10 yX10_move (wsG yX10_move cX10_move 4 (some .int))) := gw_V wm_7_142 wm_7_143 wm_7_144 wm_1_9 wm_7_145
theorem hd_L_move : yL_move.cls = RL ∧ yL_move.cls ≠ "java/lang/invoke/MethodHandle" ∧ yL_move.cls ≠ "java/lang/invoke/VarHandle" ∧ (parseMethodDescriptor yL_move.desc).map (fun d => d.parameters.length) = some 4 := by decide +kernel
theorem gL_192 : GoodIn GW (va_wsS RL 192 yL_move (Cond.codeWith yL_move cL_move 5 (some .int) [(0, 10, 13, 18), (0, 10, 17, 13)] :: GW)) := gw_SW wm_5_27 wm_5_28 wm_1_0 wm_5_29
-- the law from 1601
theorem dL_law_1601 : decode cL_law 1601 = .ok (.aload_n 1, 1) := by decide +kernel
theorem dL_law_1602 : decode cL_law 1602 = .ok (.aload_n 0, 1) := by decide +kernel
theorem dL_law_1603 : decode cL_law 1603 = .ok (.iload 4, 2) := by decide +kernel
theorem dL_law_1605 : decode cL_law 1605 = .ok (.iconst 1, 1) := by decide +kernel
theorem dL_law_1606 : decode cL_law 1606 = .ok (.iadd, 1) := by decide +kernel
theorem dL_law_1607 : decode cL_law 1607 = .ok (.iaload, 1) := by decide +kernel
theorem dL_law_1608 : decode cL_law 1608 = .ok (.aload_n 0, 1) := by decide +kernel
theorem dL_law_1609 : decode cL_law 1609 = .ok (.iload 4, 2) := by decide +kernel
theorem dL_law_1611 : decode cL_law 1611 = .ok (.iconst 2, 1) := by decide +kernel
theorem dL_law_1612 : decode cL_law 1612 = .ok (.iadd, 1) := by decide +kernel
theorem dL_law_1613 : decode cL_law 1613 = .ok (.iaload, 1) := by decide +kernel
theorem dL_law_1614 : decode cL_law 1614 = .ok (.aload_n 3, 1) := by decide +kernel
theorem dL_law_1615 : decode cL_law 1615 = .ok (.invokestatic 192, 3) := by decide +kernel
theorem dL_law_1618 : decode cL_law 1618 = .ok (.istore 5, 2) := by decide +kernel
theorem dL_law_1620 : decode cL_law 1620 = .ok (.aload_n 2, 1) := by decide +kernel
theorem dL_law_1621 : decode cL_law 1621 = .ok (.aload_n 0, 1) := by decide +kernel
theorem dL_law_1622 : decode cL_law 1622 = .ok (.iload 4, 2) := by decide +kernel
theorem dL_law_1624 : decode cL_law 1624 = .ok (.iconst 1, 1) := by decide +kernel
theorem dL_law_1625 : decode cL_law 1625 = .ok (.iadd, 1) := by decide +kernel
theorem dL_law_1626 : decode cL_law 1626 = .ok (.iaload, 1) := by decide +kernel
theorem dL_law_1627 : decode cL_law 1627 = .ok (.aload_n 0, 1) := by decide +kernel
theorem dL_law_1628 : decode cL_law 1628 = .ok (.iload 4, 2) := by decide +kernel
theorem dL_law_1630 : decode cL_law 1630 = .ok (.iconst 2, 1) := by decide +kernel
theorem dL_law_1631 : decode cL_law 1631 = .ok (.iadd, 1) := by decide +kernel
theorem dL_law_1632 : decode cL_law 1632 = .ok (.iaload, 1) := by decide +kernel
theorem dL_law_1633 : decode cL_law 1633 = .ok (.invokevirtual 194, 3) := by decide +kernel
theorem dL_law_1636 : decode cL_law 1636 = .ok (.istore 6, 2) := by decide +kernel
theorem dL_law_1638 : decode cL_law 1638 = .ok (.aload_n 2, 1) := by decide +kernel
theorem dL_law_1639 : decode cL_law 1639 = .ok (.invokevirtual 106, 3) := by decide +kernel
theorem dL_law_1642 : decode cL_law 1642 = .ok (.iload 5, 2) := by decide +kernel
theorem dL_law_1644 : decode cL_law 1644 = .ok (.if_icmp .eq 5, 3) := by decide +kernel
theorem dL_law_1647 : decode cL_law 1647 = .ok (.iconst 0, 1) := by decide +kernel
theorem dL_law_1648 : decode cL_law 1648 = .ok (.ireturn, 1) := by decide +kernel
theorem dL_law_1649 : decode cL_law 1649 = .ok (.iload 5, 2) := by decide +kernel
theorem dL_law_1651 : decode cL_law 1651 = .ok (.ifCond .ne 15, 3) := by decide +kernel
theorem dL_law_1654 : decode cL_law 1654 = .ok (.aload_n 3, 1) := by decide +kernel
theorem dL_law_1655 : decode cL_law 1655 = .ok (.iconst 0, 1) := by decide +kernel
theorem dL_law_1656 : decode cL_law 1656 = .ok (.laload, 1) := by decide +kernel
theorem dL_law_1657 : decode cL_law 1657 = .ok (.iload 6, 2) := by decide +kernel
theorem dL_law_1659 : decode cL_law 1659 = .ok (.i2l, 1) := by decide +kernel
theorem dL_law_1660 : decode cL_law 1660 = .ok (.lcmp, 1) := by decide +kernel
theorem dL_law_1661 : decode cL_law 1661 = .ok (.ifCond .eq 5, 3) := by decide +kernel
theorem dL_law_1664 : decode cL_law 1664 = .ok (.iconst 0, 1) := by decide +kernel
theorem dL_law_1665 : decode cL_law 1665 = .ok (.ireturn, 1) := by decide +kernel
theorem dL_law_1666 : decode cL_law 1666 = .ok (.goto 370, 3) := by decide +kernel
def M_L_1601_1601 (k Ls : Nat) (xs : Nat → Int32) (x4 : Int32) (S : VV × VV × VV × VV × VV × Int32) (T : Nat → Nat → Int32) (U : Nat → Int64) (V : Nat × Int32 × Int32 × (Nat → VV)) : Option ((VV × VV × VV × VV × VV × Int32) × (Nat → Nat → Int32) × (Nat → Int64) × (Nat × Int32 × Int32 × (Nat → VV))) := (if inb (x4 + (1 : Int32)) Ls = true then (if inb (x4 + (2 : Int32)) Ls = true then (M_L_move k S V U (xs (x4 + (1 : Int32)).toNatClampNeg) (xs (x4 + (2 : Int32)).toNatClampNeg)).bind fun q3 => (if inb (x4 + (1 : Int32)) Ls = true then (if inb (x4 + (2 : Int32)) Ls = true then (M_X10_move k T (xs (x4 + (1 : Int32)).toNatClampNeg) (xs (x4 + (2 : Int32)).toNatClampNeg)).bind fun q7 => (M_X10_thrown k q7.2).bind fun q8 => if q8 = q3.1 then (if q3.1 = 0 then ((if inb (0 : Int32) 1 = true then if (lg_cmp ((q3.2.2.2 (0 : Int32).toNatClampNeg).toInt64) (q7.1.toInt64)) = 0 then (some (q3.2.1, q7.2, q3.2.2.2, q3.2.2.1)) else (none) else none)) else (some (q3.2.1, q7.2, q3.2.2.2, q3.2.2.1))) else (none) else none) else none) else none) else none)
set_option maxRecDepth 100000 in
set_option maxHeartbeats 4000000 in
theorem N_L_1601_1601 (C : CX E p l s m #[Value.ref bs] meth c cL_law 9 RL ret A) (a : Nat → Nat) (b : Nat → Nat) (c0 : Nat → Nat) (k Ls : Nat) (xs : Nat → Int32) (hX : va_X bs Ls xs s s.heap) (hbl : bs < s.heap.size) (hbA : ¬ A bs) (hlt : l.stackTraces = false) (hdc : DC s) (cN sN : Nat) (hcN : cN + 20 ≤ 601024 ∧ sN + 1600 ≤ 7293034) (fa : Nat → Nat → Nat) :
    ∀ (x4 : Int32) (S : VV × VV × VV × VV × VV × Int32) (T : Nat → Nat → Int32) (U : Nat → Int64) (V : Nat × Int32 × Int32 × (Nat → VV)) (q : (VV × VV × VV × VV × VV × Int32) × (Nat → Nat → Int32) × (Nat → Int64) × (Nat × Int32 × Int32 × (Nat → VV))), M_L_1601_1601 k Ls xs x4 S T U V = some q → (∀ fa' : Nat → Nat → Nat, WW E p l e room_1 s m #[Value.ref bs] below meth c A (cN + 20) (sN + 1600) (lw_Z below #[Value.ref bs] s) (wSg E a q.1 ++ wMd E b q.2.1 ++ wLo E c0 q.2.2.1 ++ wHi E a fa' q.2.2.2) 9 [some (.ref bs), some (.ref (a 0)), some (.ref (b 0)), some (.ref (c0 0)), some (.int x4), none, none, none, none] 2036 []) →
      WW E p l e room_1 s m #[Value.ref bs] below meth c A (cN + 0) (sN + 0) (lw_Z below #[Value.ref bs] s) (wSg E a S ++ wMd E b T ++ wLo E c0 U ++ wHi E a fa V) 9 [some (.ref bs), some (.ref (a 0)), some (.ref (b 0)), some (.ref (c0 0)), some (.int x4), none, none, none, none] 1601 [] := by
  intro x4 S T U V q  h hq
  unfold M_L_1601_1601 at h
  refine r_aload_n (pc := 1601) C (i := 1) dL_law_1601 rfl rfl ?_
  refine r_aload_n (pc := 1602) C (i := 0) dL_law_1602 rfl rfl ?_
  refine r_iload (pc := 1603) C (i := 4) dL_law_1603 rfl ?_
  refine r_iconst (pc := 1605) C (v := 1) dL_law_1605 (by decide) ?_
  refine r_iadd (pc := 1606) C dL_law_1606 ?_
  obtain ⟨hi1, h⟩ := ifn h
  refine r_sld (pc := 1607) C hX hbl hbA hi1 dL_law_1607 ?_
  refine r_aload_n (pc := 1608) C (i := 0) dL_law_1608 rfl rfl ?_
  refine r_iload (pc := 1609) C (i := 4) dL_law_1609 rfl ?_
  refine r_iconst (pc := 1611) C (v := 2) dL_law_1611 (by decide) ?_
  refine r_iadd (pc := 1612) C dL_law_1612 ?_
  obtain ⟨hi2, h⟩ := ifn h
  refine r_sld (pc := 1613) C hX hbl hbA hi2 dL_law_1613 ?_
  refine r_aload_n (pc := 1614) C (i := 3) dL_law_1614 rfl rfl ?_
  obtain ⟨q3, hq3, h⟩ := bnd h
  refine r_callSHT (c0 := (wSg E a S ++ ([(c0 0, .inl (eC E 1, 1, .inr (.inl U)))] ++ hiC E a fa V))) (w0 := (wSg E a S ++ wMd E b T ++ wLo E c0 U ++ hiC E a fa V)) (t := hiT E fa V) (pc := 1615) C [.ref (a 0), .int (xs (x4 + (1 : Int32)).toNatClampNeg), .int (xs (x4 + (2 : Int32)).toNatClampNeg), .ref (c0 0)] hdc (c_L_move E l k a (c0 0) fa S V U (xs (x4 + (1 : Int32)).toNatClampNeg) (xs (x4 + (2 : Int32)).toNatClampNeg) hlt hq3) [0, 1, 2, 3, 4, 5, 6, 7, 8, 9, 10, 11, 12, 13, 14, 15, 16, 17, 18, 19, 20, 21, 22, 23, 24, 25, 26, 27, 28, 29, 30, 31, 32, 33, 34, 35, 36, 37, 38, 39, 40, 41, 42, 43, 44, 45, 46, 47, 48, 49, 50, 51, 52, 53, 54, 55, 56, 57, 58, 59, 60, 74, 75, 76] (hpL2 E a b c0 fa S T U V) (by decide) gL_192 hd_L_move.2 ⟨Nat.le_of_ble_eq_true rfl, Nat.le_of_ble_eq_true rfl⟩ ⟨by have h1 : room_1.cells = 601024 := rfl; have h2 := hcN.1; simp only [Nat.le_refl, rm_L_move]; omega, by have h1 : room_1.slots = 7293034 := rfl; have h2 := hcN.2; simp only [Nat.le_refl, rm_L_move]; omega⟩ (Nat.le_of_ble_eq_true rfl) rfl dL_law_1615 (List.append_assoc _ _ _).symm (fun r w1 hw1 => ?_)
  obtain ⟨hr1, fa4, hw1, hmo⟩ := hw1
  subst hr1 hw1
  refine ⟨(wSg E a q3.2.1 ++ ([(c0 0, .inl (eC E 1, 1, .inr (.inl q3.2.2.2)))] ++ hiC E a fa4 q3.2.2.1)), hiT E fa4 q3.2.2.1, _, rfl, rfl, hiT_le hmo, pwL2 E a b c0 fa4 S T U V q3.2.1 q3.2.2.2 q3.2.2.1, ?_⟩
  refine r_world (w' := (wSg E a q3.2.1 ++ wMd E b T ++ wLo E c0 q3.2.2.2 ++ wHi E a fa4 q3.2.2.1)) (List.append_assoc _ _ _) ?_
  refine r_istore (pc := 1618) C (i := 5) dL_law_1618 (by decide) rfl ?_
  refine r_aload_n (pc := 1620) C (i := 2) dL_law_1620 rfl rfl ?_
  refine r_aload_n (pc := 1621) C (i := 0) dL_law_1621 rfl rfl ?_
  refine r_iload (pc := 1622) C (i := 4) dL_law_1622 rfl ?_
  refine r_iconst (pc := 1624) C (v := 1) dL_law_1624 (by decide) ?_
  refine r_iadd (pc := 1625) C dL_law_1625 ?_
  obtain ⟨hi5, h⟩ := ifn h
  refine r_sld (pc := 1626) C hX hbl hbA hi5 dL_law_1626 ?_
  refine r_aload_n (pc := 1627) C (i := 0) dL_law_1627 rfl rfl ?_
  refine r_iload (pc := 1628) C (i := 4) dL_law_1628 rfl ?_
  refine r_iconst (pc := 1630) C (v := 2) dL_law_1630 (by decide) ?_
  refine r_iadd (pc := 1631) C dL_law_1631 ?_
  obtain ⟨hi6, h⟩ := ifn h
  refine r_sld (pc := 1632) C hX hbl hbA hi6 dL_law_1632 ?_
  obtain ⟨q7, hq7, h⟩ := bnd h
  refine r_callV_CI (Cn := RX10) (pc := 1633) C [.int (xs (x4 + (1 : Int32)).toNatClampNeg), .int (xs (x4 + (2 : Int32)).toNatClampNeg)] (c_X10_move E l k b T (xs (x4 + (1 : Int32)).toNatClampNeg) (xs (x4 + (2 : Int32)).toNatClampNeg) hq7) [61, 62, 63, 64, 65, 66, 67, 68, 69, 70, 71, 72, 73] (hps_hi (List.append_assoc _ _ _).symm (hp_L_204_1 E a b c0 fa4 q3.2.1 T q3.2.2.2 q3.2.2.1)) (by decide) 0 rfl rfl rfl g_L_194 hd_X10_move ⟨Nat.le_of_ble_eq_true rfl, Nat.le_of_ble_eq_true rfl⟩ ⟨Nat.le_of_ble_eq_true rfl, Nat.le_of_ble_eq_true rfl⟩ (Nat.le_of_ble_eq_true rfl) rfl dL_law_1633 (fun r w1 hw1 => ?_)
  obtain ⟨hr1, hw1⟩ := hw1
  subst hr1 hw1
  refine ⟨(wSg E a q3.2.1 ++ wMd E b q7.2 ++ wLo E c0 q3.2.2.2 ++ wHi E a fa4 q3.2.2.1), by exact putW_hi (List.append_assoc _ _ _).symm (List.append_assoc _ _ _).symm (hp_L_204_1 E a b c0 fa4 q3.2.1 T q3.2.2.2 q3.2.2.1) rfl (pw_L_204_1 E a b c0 fa4 q3.2.1 T q3.2.2.2 q3.2.2.1 q7.2), ?_⟩
  refine r_istore (pc := 1636) C (i := 6) dL_law_1636 (by decide) rfl ?_
  refine r_aload_n (pc := 1638) C (i := 2) dL_law_1638 rfl rfl ?_
  obtain ⟨q8, hq8, h⟩ := bnd h
  refine r_callVp_CI (Cn := RX10) (pc := 1639) C [] (c_X10_thrown E l k b q7.2 hq8) [61, 62, 63, 64, 65, 66, 67, 68, 69, 70, 71, 72, 73] (hps_hi (List.append_assoc _ _ _).symm (hp_L_204_1 E a b c0 fa4 q3.2.1 q7.2 q3.2.2.2 q3.2.2.1)) (by decide) 0 rfl rfl rfl g_L_106 hd_X10_thrown ⟨Nat.le_of_ble_eq_true rfl, Nat.le_of_ble_eq_true rfl⟩ ⟨Nat.le_of_ble_eq_true rfl, Nat.le_of_ble_eq_true rfl⟩ (Nat.le_of_ble_eq_true rfl) rfl dL_law_1639 (fun r hr => ?_)
  have hr := hr.symm
  subst hr
  refine r_iload (pc := 1642) C (i := 5) dL_law_1642 rfl ?_
  refine r_icmp_eq (pc := 1644) C (tgt := 1649) dL_law_1644 rfl (fun c9 => ?_) (fun c9 => ?_)
  · rw [if_pos c9] at h
    refine r_iload (pc := 1649) C (i := 5) dL_law_1649 rfl ?_
    refine r_if_ne (pc := 1651) C (tgt := 1666) dL_law_1651 rfl (fun c10 => ?_) (fun c10 => ?_)
    · rw [if_neg c10] at h
      refine r_goto (pc := 1666) C (tgt := 2036) dL_law_1666 rfl ?_
      cases h
      refine r_widen (k1 := cN + 20) (n1 := sN + 1600) (by simp only [Nat.le_refl, rm_L_move, rm_X10_move, rm_X10_thrown]; omega) (by simp only [Nat.le_refl, rm_L_move, rm_X10_move, rm_X10_thrown]; omega) ?_
      refine r_weak (lSub_s (lSub_s (lSub_s (lSub_s (lSub_s (lSub_n (lSub_n (lSub_n (lSub_n lSub_e))))))))) ?_
      exact hq fa4
    · rw [if_pos c10] at h
      refine r_aload_n (pc := 1654) C (i := 3) dL_law_1654 rfl rfl ?_
      refine r_iconst (pc := 1655) C (v := 0) dL_law_1655 (by decide) ?_
      obtain ⟨hi11, h⟩ := ifn h
      refine r_lald (pc := 1656) C 74 rfl hi11 dL_law_1656 ?_
      refine r_iload (pc := 1657) C (i := 6) dL_law_1657 rfl ?_
      refine r_i2l (pc := 1659) C dL_law_1659 ?_
      refine r_lcmp (pc := 1660) C dL_law_1660 ?_
      refine r_if_eq (pc := 1661) C (tgt := 1666) dL_law_1661 rfl (fun c12 => ?_) (fun c12 => ?_)
      · rw [if_pos c12] at h
        refine r_goto (pc := 1666) C (tgt := 2036) dL_law_1666 rfl ?_
        cases h
        refine r_widen (k1 := cN + 20) (n1 := sN + 1600) (by simp only [Nat.le_refl, rm_L_move, rm_X10_move, rm_X10_thrown]; omega) (by simp only [Nat.le_refl, rm_L_move, rm_X10_move, rm_X10_thrown]; omega) ?_
        refine r_weak (lSub_s (lSub_s (lSub_s (lSub_s (lSub_s (lSub_n (lSub_n (lSub_n (lSub_n lSub_e))))))))) ?_
        exact hq fa4
      · rw [if_neg c12] at h
        refine r_iconst (pc := 1664) C (v := 0) dL_law_1664 (by decide) ?_
        cases h
  · rw [if_neg c9] at h
    refine r_iconst (pc := 1647) C (v := 0) dL_law_1647 (by decide) ?_
    cases h
theorem hd_X10_draw : yX10_draw.cls = RX10 ∧ yX10_draw.cls ≠ "java/lang/invoke/MethodHandle" ∧ yX10_draw.cls ≠ "java/lang/invoke/VarHandle" ∧ (parseMethodDescriptor yX10_draw.desc).map (fun d => d.parameters.length) = some 1 := by decide +kernel
theorem g_L_197 : GoodIn GW (wsV RL 197 RX10 yX10_draw (wsG yX10_draw cX10_draw 2 (some .int))) := gw_V wm_7_146 wm_7_147 wm_7_148 wm_1_9 wm_7_149
theorem hd_L_draw : yL_draw.cls = RL ∧ yL_draw.cls ≠ "java/lang/invoke/MethodHandle" ∧ yL_draw.cls ≠ "java/lang/invoke/VarHandle" ∧ (parseMethodDescriptor yL_draw.desc).map (fun d => d.parameters.length) = some 3 := by decide +kernel
theorem gL_195 : GoodIn GW (va_wsS RL 195 yL_draw (Cond.codeWith yL_draw cL_draw 4 (some .int) [(0, 9, 12, 13)] :: GW)) := gw_SW wm_5_37 wm_5_38 wm_1_0 wm_5_39
-- the law from 1669
theorem dL_law_1669 : decode cL_law 1669 = .ok (.aload_n 1, 1) := by decide +kernel
theorem dL_law_1670 : decode cL_law 1670 = .ok (.aload_n 0, 1) := by decide +kernel
theorem dL_law_1671 : decode cL_law 1671 = .ok (.iload 4, 2) := by decide +kernel
theorem dL_law_1673 : decode cL_law 1673 = .ok (.iconst 1, 1) := by decide +kernel
theorem dL_law_1674 : decode cL_law 1674 = .ok (.iadd, 1) := by decide +kernel
theorem dL_law_1675 : decode cL_law 1675 = .ok (.iaload, 1) := by decide +kernel
theorem dL_law_1676 : decode cL_law 1676 = .ok (.aload_n 3, 1) := by decide +kernel
theorem dL_law_1677 : decode cL_law 1677 = .ok (.invokestatic 195, 3) := by decide +kernel
theorem dL_law_1680 : decode cL_law 1680 = .ok (.istore 5, 2) := by decide +kernel
theorem dL_law_1682 : decode cL_law 1682 = .ok (.aload_n 2, 1) := by decide +kernel
theorem dL_law_1683 : decode cL_law 1683 = .ok (.aload_n 0, 1) := by decide +kernel
theorem dL_law_1684 : decode cL_law 1684 = .ok (.iload 4, 2) := by decide +kernel
theorem dL_law_1686 : decode cL_law 1686 = .ok (.iconst 1, 1) := by decide +kernel
theorem dL_law_1687 : decode cL_law 1687 = .ok (.iadd, 1) := by decide +kernel
theorem dL_law_1688 : decode cL_law 1688 = .ok (.iaload, 1) := by decide +kernel
theorem dL_law_1689 : decode cL_law 1689 = .ok (.invokevirtual 197, 3) := by decide +kernel
theorem dL_law_1692 : decode cL_law 1692 = .ok (.istore 6, 2) := by decide +kernel
theorem dL_law_1694 : decode cL_law 1694 = .ok (.aload_n 2, 1) := by decide +kernel
theorem dL_law_1695 : decode cL_law 1695 = .ok (.invokevirtual 106, 3) := by decide +kernel
theorem dL_law_1698 : decode cL_law 1698 = .ok (.iload 5, 2) := by decide +kernel
theorem dL_law_1700 : decode cL_law 1700 = .ok (.if_icmp .eq 5, 3) := by decide +kernel
theorem dL_law_1703 : decode cL_law 1703 = .ok (.iconst 0, 1) := by decide +kernel
theorem dL_law_1704 : decode cL_law 1704 = .ok (.ireturn, 1) := by decide +kernel
theorem dL_law_1705 : decode cL_law 1705 = .ok (.iload 5, 2) := by decide +kernel
theorem dL_law_1707 : decode cL_law 1707 = .ok (.ifCond .ne 15, 3) := by decide +kernel
theorem dL_law_1710 : decode cL_law 1710 = .ok (.aload_n 3, 1) := by decide +kernel
theorem dL_law_1711 : decode cL_law 1711 = .ok (.iconst 0, 1) := by decide +kernel
theorem dL_law_1712 : decode cL_law 1712 = .ok (.laload, 1) := by decide +kernel
theorem dL_law_1713 : decode cL_law 1713 = .ok (.iload 6, 2) := by decide +kernel
theorem dL_law_1715 : decode cL_law 1715 = .ok (.i2l, 1) := by decide +kernel
theorem dL_law_1716 : decode cL_law 1716 = .ok (.lcmp, 1) := by decide +kernel
theorem dL_law_1717 : decode cL_law 1717 = .ok (.ifCond .eq 5, 3) := by decide +kernel
theorem dL_law_1720 : decode cL_law 1720 = .ok (.iconst 0, 1) := by decide +kernel
theorem dL_law_1721 : decode cL_law 1721 = .ok (.ireturn, 1) := by decide +kernel
theorem dL_law_1722 : decode cL_law 1722 = .ok (.goto 314, 3) := by decide +kernel
def M_L_1669_1669 (k Ls : Nat) (xs : Nat → Int32) (x4 : Int32) (S : VV × VV × VV × VV × VV × Int32) (T : Nat → Nat → Int32) (U : Nat → Int64) (V : Nat × Int32 × Int32 × (Nat → VV)) : Option ((VV × VV × VV × VV × VV × Int32) × (Nat → Nat → Int32) × (Nat → Int64) × (Nat × Int32 × Int32 × (Nat → VV))) := (if inb (x4 + (1 : Int32)) Ls = true then (M_L_draw k S V U (xs (x4 + (1 : Int32)).toNatClampNeg)).bind fun q2 => (if inb (x4 + (1 : Int32)) Ls = true then (M_X10_draw k T (xs (x4 + (1 : Int32)).toNatClampNeg)).bind fun q5 => (M_X10_thrown k q5.2).bind fun q6 => if q6 = q2.1 then (if q2.1 = 0 then ((if inb (0 : Int32) 1 = true then if (lg_cmp ((q2.2.2.2 (0 : Int32).toNatClampNeg).toInt64) (q5.1.toInt64)) = 0 then (some (q2.2.1, q5.2, q2.2.2.2, q2.2.2.1)) else (none) else none)) else (some (q2.2.1, q5.2, q2.2.2.2, q2.2.2.1))) else (none) else none) else none)
set_option maxRecDepth 100000 in
set_option maxHeartbeats 4000000 in
theorem N_L_1669_1669 (C : CX E p l s m #[Value.ref bs] meth c cL_law 9 RL ret A) (a : Nat → Nat) (b : Nat → Nat) (c0 : Nat → Nat) (k Ls : Nat) (xs : Nat → Int32) (hX : va_X bs Ls xs s s.heap) (hbl : bs < s.heap.size) (hbA : ¬ A bs) (hlt : l.stackTraces = false) (hdc : DC s) (cN sN : Nat) (hcN : cN + 20 ≤ 601024 ∧ sN + 1600 ≤ 7293034) (fa : Nat → Nat → Nat) :
    ∀ (x4 : Int32) (S : VV × VV × VV × VV × VV × Int32) (T : Nat → Nat → Int32) (U : Nat → Int64) (V : Nat × Int32 × Int32 × (Nat → VV)) (q : (VV × VV × VV × VV × VV × Int32) × (Nat → Nat → Int32) × (Nat → Int64) × (Nat × Int32 × Int32 × (Nat → VV))), M_L_1669_1669 k Ls xs x4 S T U V = some q → (∀ fa' : Nat → Nat → Nat, WW E p l e room_1 s m #[Value.ref bs] below meth c A (cN + 20) (sN + 1600) (lw_Z below #[Value.ref bs] s) (wSg E a q.1 ++ wMd E b q.2.1 ++ wLo E c0 q.2.2.1 ++ wHi E a fa' q.2.2.2) 9 [some (.ref bs), some (.ref (a 0)), some (.ref (b 0)), some (.ref (c0 0)), some (.int x4), none, none, none, none] 2036 []) →
      WW E p l e room_1 s m #[Value.ref bs] below meth c A (cN + 0) (sN + 0) (lw_Z below #[Value.ref bs] s) (wSg E a S ++ wMd E b T ++ wLo E c0 U ++ wHi E a fa V) 9 [some (.ref bs), some (.ref (a 0)), some (.ref (b 0)), some (.ref (c0 0)), some (.int x4), none, none, none, none] 1669 [] := by
  intro x4 S T U V q  h hq
  unfold M_L_1669_1669 at h
  refine r_aload_n (pc := 1669) C (i := 1) dL_law_1669 rfl rfl ?_
  refine r_aload_n (pc := 1670) C (i := 0) dL_law_1670 rfl rfl ?_
  refine r_iload (pc := 1671) C (i := 4) dL_law_1671 rfl ?_
  refine r_iconst (pc := 1673) C (v := 1) dL_law_1673 (by decide) ?_
  refine r_iadd (pc := 1674) C dL_law_1674 ?_
  obtain ⟨hi1, h⟩ := ifn h
  refine r_sld (pc := 1675) C hX hbl hbA hi1 dL_law_1675 ?_
  refine r_aload_n (pc := 1676) C (i := 3) dL_law_1676 rfl rfl ?_
  obtain ⟨q2, hq2, h⟩ := bnd h
  refine r_callSHT (c0 := (wSg E a S ++ ([(c0 0, .inl (eC E 1, 1, .inr (.inl U)))] ++ hiC E a fa V))) (w0 := (wSg E a S ++ wMd E b T ++ wLo E c0 U ++ hiC E a fa V)) (t := hiT E fa V) (pc := 1677) C [.ref (a 0), .int (xs (x4 + (1 : Int32)).toNatClampNeg), .ref (c0 0)] hdc (c_L_draw E l k a (c0 0) fa S V U (xs (x4 + (1 : Int32)).toNatClampNeg) hlt hq2) [0, 1, 2, 3, 4, 5, 6, 7, 8, 9, 10, 11, 12, 13, 14, 15, 16, 17, 18, 19, 20, 21, 22, 23, 24, 25, 26, 27, 28, 29, 30, 31, 32, 33, 34, 35, 36, 37, 38, 39, 40, 41, 42, 43, 44, 45, 46, 47, 48, 49, 50, 51, 52, 53, 54, 55, 56, 57, 58, 59, 60, 74, 75, 76] (hpL2 E a b c0 fa S T U V) (by decide) gL_195 hd_L_draw.2 ⟨Nat.le_of_ble_eq_true rfl, Nat.le_of_ble_eq_true rfl⟩ ⟨by have h1 : room_1.cells = 601024 := rfl; have h2 := hcN.1; simp only [Nat.le_refl, rm_L_draw]; omega, by have h1 : room_1.slots = 7293034 := rfl; have h2 := hcN.2; simp only [Nat.le_refl, rm_L_draw]; omega⟩ (Nat.le_of_ble_eq_true rfl) rfl dL_law_1677 (List.append_assoc _ _ _).symm (fun r w1 hw1 => ?_)
  obtain ⟨hr1, fa3, hw1, hmo⟩ := hw1
  subst hr1 hw1
  refine ⟨(wSg E a q2.2.1 ++ ([(c0 0, .inl (eC E 1, 1, .inr (.inl q2.2.2.2)))] ++ hiC E a fa3 q2.2.2.1)), hiT E fa3 q2.2.2.1, _, rfl, rfl, hiT_le hmo, pwL2 E a b c0 fa3 S T U V q2.2.1 q2.2.2.2 q2.2.2.1, ?_⟩
  refine r_world (w' := (wSg E a q2.2.1 ++ wMd E b T ++ wLo E c0 q2.2.2.2 ++ wHi E a fa3 q2.2.2.1)) (List.append_assoc _ _ _) ?_
  refine r_istore (pc := 1680) C (i := 5) dL_law_1680 (by decide) rfl ?_
  refine r_aload_n (pc := 1682) C (i := 2) dL_law_1682 rfl rfl ?_
  refine r_aload_n (pc := 1683) C (i := 0) dL_law_1683 rfl rfl ?_
  refine r_iload (pc := 1684) C (i := 4) dL_law_1684 rfl ?_
  refine r_iconst (pc := 1686) C (v := 1) dL_law_1686 (by decide) ?_
  refine r_iadd (pc := 1687) C dL_law_1687 ?_
  obtain ⟨hi4, h⟩ := ifn h
  refine r_sld (pc := 1688) C hX hbl hbA hi4 dL_law_1688 ?_
  obtain ⟨q5, hq5, h⟩ := bnd h
  refine r_callV_CI (Cn := RX10) (pc := 1689) C [.int (xs (x4 + (1 : Int32)).toNatClampNeg)] (c_X10_draw E l k b T (xs (x4 + (1 : Int32)).toNatClampNeg) hq5) [61, 62, 63, 64, 65, 66, 67, 68, 69, 70, 71, 72, 73] (hps_hi (List.append_assoc _ _ _).symm (hp_L_204_1 E a b c0 fa3 q2.2.1 T q2.2.2.2 q2.2.2.1)) (by decide) 0 rfl rfl rfl g_L_197 hd_X10_draw ⟨Nat.le_of_ble_eq_true rfl, Nat.le_of_ble_eq_true rfl⟩ ⟨Nat.le_of_ble_eq_true rfl, Nat.le_of_ble_eq_true rfl⟩ (Nat.le_of_ble_eq_true rfl) rfl dL_law_1689 (fun r w1 hw1 => ?_)
  obtain ⟨hr1, hw1⟩ := hw1
  subst hr1 hw1
  refine ⟨(wSg E a q2.2.1 ++ wMd E b q5.2 ++ wLo E c0 q2.2.2.2 ++ wHi E a fa3 q2.2.2.1), by exact putW_hi (List.append_assoc _ _ _).symm (List.append_assoc _ _ _).symm (hp_L_204_1 E a b c0 fa3 q2.2.1 T q2.2.2.2 q2.2.2.1) rfl (pw_L_204_1 E a b c0 fa3 q2.2.1 T q2.2.2.2 q2.2.2.1 q5.2), ?_⟩
  refine r_istore (pc := 1692) C (i := 6) dL_law_1692 (by decide) rfl ?_
  refine r_aload_n (pc := 1694) C (i := 2) dL_law_1694 rfl rfl ?_
  obtain ⟨q6, hq6, h⟩ := bnd h
  refine r_callVp_CI (Cn := RX10) (pc := 1695) C [] (c_X10_thrown E l k b q5.2 hq6) [61, 62, 63, 64, 65, 66, 67, 68, 69, 70, 71, 72, 73] (hps_hi (List.append_assoc _ _ _).symm (hp_L_204_1 E a b c0 fa3 q2.2.1 q5.2 q2.2.2.2 q2.2.2.1)) (by decide) 0 rfl rfl rfl g_L_106 hd_X10_thrown ⟨Nat.le_of_ble_eq_true rfl, Nat.le_of_ble_eq_true rfl⟩ ⟨Nat.le_of_ble_eq_true rfl, Nat.le_of_ble_eq_true rfl⟩ (Nat.le_of_ble_eq_true rfl) rfl dL_law_1695 (fun r hr => ?_)
  have hr := hr.symm
  subst hr
  refine r_iload (pc := 1698) C (i := 5) dL_law_1698 rfl ?_
  refine r_icmp_eq (pc := 1700) C (tgt := 1705) dL_law_1700 rfl (fun c7 => ?_) (fun c7 => ?_)
  · rw [if_pos c7] at h
    refine r_iload (pc := 1705) C (i := 5) dL_law_1705 rfl ?_
    refine r_if_ne (pc := 1707) C (tgt := 1722) dL_law_1707 rfl (fun c8 => ?_) (fun c8 => ?_)
    · rw [if_neg c8] at h
      refine r_goto (pc := 1722) C (tgt := 2036) dL_law_1722 rfl ?_
      cases h
      refine r_widen (k1 := cN + 20) (n1 := sN + 1600) (by simp only [Nat.le_refl, rm_L_draw, rm_X10_draw, rm_X10_thrown]; omega) (by simp only [Nat.le_refl, rm_L_draw, rm_X10_draw, rm_X10_thrown]; omega) ?_
      refine r_weak (lSub_s (lSub_s (lSub_s (lSub_s (lSub_s (lSub_n (lSub_n (lSub_n (lSub_n lSub_e))))))))) ?_
      exact hq fa3
    · rw [if_pos c8] at h
      refine r_aload_n (pc := 1710) C (i := 3) dL_law_1710 rfl rfl ?_
      refine r_iconst (pc := 1711) C (v := 0) dL_law_1711 (by decide) ?_
      obtain ⟨hi9, h⟩ := ifn h
      refine r_lald (pc := 1712) C 74 rfl hi9 dL_law_1712 ?_
      refine r_iload (pc := 1713) C (i := 6) dL_law_1713 rfl ?_
      refine r_i2l (pc := 1715) C dL_law_1715 ?_
      refine r_lcmp (pc := 1716) C dL_law_1716 ?_
      refine r_if_eq (pc := 1717) C (tgt := 1722) dL_law_1717 rfl (fun c10 => ?_) (fun c10 => ?_)
      · rw [if_pos c10] at h
        refine r_goto (pc := 1722) C (tgt := 2036) dL_law_1722 rfl ?_
        cases h
        refine r_widen (k1 := cN + 20) (n1 := sN + 1600) (by simp only [Nat.le_refl, rm_L_draw, rm_X10_draw, rm_X10_thrown]; omega) (by simp only [Nat.le_refl, rm_L_draw, rm_X10_draw, rm_X10_thrown]; omega) ?_
        refine r_weak (lSub_s (lSub_s (lSub_s (lSub_s (lSub_s (lSub_n (lSub_n (lSub_n (lSub_n lSub_e))))))))) ?_
        exact hq fa3
      · rw [if_neg c10] at h
        refine r_iconst (pc := 1720) C (v := 0) dL_law_1720 (by decide) ?_
        cases h
  · rw [if_neg c7] at h
    refine r_iconst (pc := 1703) C (v := 0) dL_law_1703 (by decide) ?_
    cases h
end WALKS
