section WALKS
variable {E : ENV} {p : Program} {l : Launch} {e : Env} {s : State} {m : MethodId} {args : Array Value} {below : List Frame} {meth : Method} {c : Code} {A : Nat → Prop} {bs : Nat}
theorem hd_X10_submit : yX10_submit.cls = RX10 ∧ yX10_submit.cls ≠ "java/lang/invoke/MethodHandle" ∧ yX10_submit.cls ≠ "java/lang/invoke/VarHandle" ∧ (parseMethodDescriptor yX10_submit.desc).map (fun d => d.parameters.length) = some 3 := by decide +kernel
theorem g_L_185 : GoodIn GW (wsV RL 185 RX10 yX10_submit (wsG yX10_submit cX10_submit 5 (some .int))) := gw_V wm_7_123 wm_7_124 wm_7_125 wm_1_9 wm_7_126
theorem hd_L_submit : yL_submit.cls = RL ∧ yL_submit.cls ≠ "java/lang/invoke/MethodHandle" ∧ yL_submit.cls ≠ "java/lang/invoke/VarHandle" ∧ (parseMethodDescriptor yL_submit.desc).map (fun d => d.parameters.length) = some 5 := by decide +kernel
theorem gL_182 : GoodIn GW (va_wsS RL 182 yL_submit (Cond.codeWith yL_submit cL_submit 6 (some .int) [(0, 12, 15, 18), (0, 12, 19, 13)] :: GW)) := gw_SW wm_4_236 wm_4_237 wm_1_0 wm_4_238
-- the law from 1393
theorem dL_law_1393 : decode cL_law 1393 = .ok (.aload_n 1, 1) := by decide +kernel
theorem dL_law_1394 : decode cL_law 1394 = .ok (.aload_n 0, 1) := by decide +kernel
theorem dL_law_1395 : decode cL_law 1395 = .ok (.iload 4, 2) := by decide +kernel
theorem dL_law_1397 : decode cL_law 1397 = .ok (.iconst 1, 1) := by decide +kernel
theorem dL_law_1398 : decode cL_law 1398 = .ok (.iadd, 1) := by decide +kernel
theorem dL_law_1399 : decode cL_law 1399 = .ok (.iaload, 1) := by decide +kernel
theorem dL_law_1400 : decode cL_law 1400 = .ok (.aload_n 0, 1) := by decide +kernel
theorem dL_law_1401 : decode cL_law 1401 = .ok (.iload 4, 2) := by decide +kernel
theorem dL_law_1403 : decode cL_law 1403 = .ok (.iconst 2, 1) := by decide +kernel
theorem dL_law_1404 : decode cL_law 1404 = .ok (.iadd, 1) := by decide +kernel
theorem dL_law_1405 : decode cL_law 1405 = .ok (.iaload, 1) := by decide +kernel
theorem dL_law_1406 : decode cL_law 1406 = .ok (.aload_n 0, 1) := by decide +kernel
theorem dL_law_1407 : decode cL_law 1407 = .ok (.iload 4, 2) := by decide +kernel
theorem dL_law_1409 : decode cL_law 1409 = .ok (.iconst 3, 1) := by decide +kernel
theorem dL_law_1410 : decode cL_law 1410 = .ok (.iadd, 1) := by decide +kernel
theorem dL_law_1411 : decode cL_law 1411 = .ok (.iaload, 1) := by decide +kernel
theorem dL_law_1412 : decode cL_law 1412 = .ok (.ifCond .eq 7, 3) := by decide +kernel
theorem dL_law_1415 : decode cL_law 1415 = .ok (.iconst 1, 1) := by decide +kernel
theorem dL_law_1416 : decode cL_law 1416 = .ok (.goto 4, 3) := by decide +kernel
theorem dL_law_1419 : decode cL_law 1419 = .ok (.iconst 0, 1) := by decide +kernel
theorem dL_law_1420 : decode cL_law 1420 = .ok (.aload_n 3, 1) := by decide +kernel
theorem dL_law_1421 : decode cL_law 1421 = .ok (.invokestatic 182, 3) := by decide +kernel
theorem dL_law_1424 : decode cL_law 1424 = .ok (.istore 5, 2) := by decide +kernel
theorem dL_law_1426 : decode cL_law 1426 = .ok (.aload_n 2, 1) := by decide +kernel
theorem dL_law_1427 : decode cL_law 1427 = .ok (.aload_n 0, 1) := by decide +kernel
theorem dL_law_1428 : decode cL_law 1428 = .ok (.iload 4, 2) := by decide +kernel
theorem dL_law_1430 : decode cL_law 1430 = .ok (.iconst 1, 1) := by decide +kernel
theorem dL_law_1431 : decode cL_law 1431 = .ok (.iadd, 1) := by decide +kernel
theorem dL_law_1432 : decode cL_law 1432 = .ok (.iaload, 1) := by decide +kernel
theorem dL_law_1433 : decode cL_law 1433 = .ok (.aload_n 0, 1) := by decide +kernel
theorem dL_law_1434 : decode cL_law 1434 = .ok (.iload 4, 2) := by decide +kernel
theorem dL_law_1436 : decode cL_law 1436 = .ok (.iconst 2, 1) := by decide +kernel
theorem dL_law_1437 : decode cL_law 1437 = .ok (.iadd, 1) := by decide +kernel
theorem dL_law_1438 : decode cL_law 1438 = .ok (.iaload, 1) := by decide +kernel
theorem dL_law_1439 : decode cL_law 1439 = .ok (.aload_n 0, 1) := by decide +kernel
theorem dL_law_1440 : decode cL_law 1440 = .ok (.iload 4, 2) := by decide +kernel
theorem dL_law_1442 : decode cL_law 1442 = .ok (.iconst 3, 1) := by decide +kernel
theorem dL_law_1443 : decode cL_law 1443 = .ok (.iadd, 1) := by decide +kernel
theorem dL_law_1444 : decode cL_law 1444 = .ok (.iaload, 1) := by decide +kernel
theorem dL_law_1445 : decode cL_law 1445 = .ok (.ifCond .eq 7, 3) := by decide +kernel
theorem dL_law_1448 : decode cL_law 1448 = .ok (.iconst 1, 1) := by decide +kernel
theorem dL_law_1449 : decode cL_law 1449 = .ok (.goto 4, 3) := by decide +kernel
theorem dL_law_1452 : decode cL_law 1452 = .ok (.iconst 0, 1) := by decide +kernel
theorem dL_law_1453 : decode cL_law 1453 = .ok (.invokevirtual 185, 3) := by decide +kernel
theorem dL_law_1456 : decode cL_law 1456 = .ok (.istore 6, 2) := by decide +kernel
theorem dL_law_1458 : decode cL_law 1458 = .ok (.aload_n 2, 1) := by decide +kernel
theorem dL_law_1459 : decode cL_law 1459 = .ok (.invokevirtual 106, 3) := by decide +kernel
theorem dL_law_1462 : decode cL_law 1462 = .ok (.iload 5, 2) := by decide +kernel
theorem dL_law_1464 : decode cL_law 1464 = .ok (.if_icmp .eq 5, 3) := by decide +kernel
theorem dL_law_1467 : decode cL_law 1467 = .ok (.iconst 0, 1) := by decide +kernel
theorem dL_law_1468 : decode cL_law 1468 = .ok (.ireturn, 1) := by decide +kernel
theorem dL_law_1469 : decode cL_law 1469 = .ok (.iload 5, 2) := by decide +kernel
theorem dL_law_1471 : decode cL_law 1471 = .ok (.ifCond .ne 15, 3) := by decide +kernel
theorem dL_law_1474 : decode cL_law 1474 = .ok (.aload_n 3, 1) := by decide +kernel
theorem dL_law_1475 : decode cL_law 1475 = .ok (.iconst 0, 1) := by decide +kernel
theorem dL_law_1476 : decode cL_law 1476 = .ok (.laload, 1) := by decide +kernel
theorem dL_law_1477 : decode cL_law 1477 = .ok (.iload 6, 2) := by decide +kernel
theorem dL_law_1479 : decode cL_law 1479 = .ok (.i2l, 1) := by decide +kernel
theorem dL_law_1480 : decode cL_law 1480 = .ok (.lcmp, 1) := by decide +kernel
theorem dL_law_1481 : decode cL_law 1481 = .ok (.ifCond .eq 5, 3) := by decide +kernel
theorem dL_law_1484 : decode cL_law 1484 = .ok (.iconst 0, 1) := by decide +kernel
theorem dL_law_1485 : decode cL_law 1485 = .ok (.ireturn, 1) := by decide +kernel
theorem dL_law_1486 : decode cL_law 1486 = .ok (.goto 550, 3) := by decide +kernel
def M_L_1393_1453 (k Ls : Nat) (xs : Nat → Int32) (x4 : Int32) (x5 : Int32) (y1 : Int32) (y2 : Int32) (y3 : Int32) (S : VV × VV × VV × VV × VV × Int32) (T : Nat → Nat → Int32) (U : Nat → Int64) (V : Nat × Int32 × Int32 × (Nat → VV)) : Option ((VV × VV × VV × VV × VV × Int32) × (Nat → Nat → Int32) × (Nat → Int64) × (Nat × Int32 × Int32 × (Nat → VV))) := (M_X10_submit k T y1 y2 y3).bind fun q1 => (M_X10_thrown k q1.2).bind fun q2 => if q2 = x5 then (if x5 = 0 then ((if inb (0 : Int32) 1 = true then if (lg_cmp (U (0 : Int32).toNatClampNeg) (q1.1.toInt64)) = 0 then (some (S, q1.2, U, V)) else (none) else none)) else (some (S, q1.2, U, V))) else (none)
set_option maxRecDepth 100000 in
set_option maxHeartbeats 4000000 in
theorem N_L_1393_1453 (C : CX E p l s m #[Value.ref bs] meth c cL_law 9 RL ret A) (a : Nat → Nat) (b : Nat → Nat) (c0 : Nat → Nat) (k Ls : Nat) (xs : Nat → Int32) (hX : va_X bs Ls xs s s.heap) (hbl : bs < s.heap.size) (hbA : ¬ A bs) (hlt : l.stackTraces = false) (hdc : DC s) (cN sN : Nat) (hcN : cN + 20 ≤ 601024 ∧ sN + 1600 ≤ 7293034) (fa : Nat → Nat → Nat) :
    ∀ (x4 : Int32) (x5 : Int32) (y1 : Int32) (y2 : Int32) (y3 : Int32) (S : VV × VV × VV × VV × VV × Int32) (T : Nat → Nat → Int32) (U : Nat → Int64) (V : Nat × Int32 × Int32 × (Nat → VV)) (q : (VV × VV × VV × VV × VV × Int32) × (Nat → Nat → Int32) × (Nat → Int64) × (Nat × Int32 × Int32 × (Nat → VV))), M_L_1393_1453 k Ls xs x4 x5 y1 y2 y3 S T U V = some q → (∀ fa' : Nat → Nat → Nat, WW E p l e room_1 s m #[Value.ref bs] below meth c A (cN + 20) (sN + 1600) (lw_Z below #[Value.ref bs] s) (wSg E a q.1 ++ wMd E b q.2.1 ++ wLo E c0 q.2.2.1 ++ wHi E a fa' q.2.2.2) 9 [some (.ref bs), some (.ref (a 0)), some (.ref (b 0)), some (.ref (c0 0)), some (.int x4), none, none, none, none] 2036 []) →
      WW E p l e room_1 s m #[Value.ref bs] below meth c A (cN + 19) (sN + 1494) (lw_Z below #[Value.ref bs] s) (wSg E a S ++ wMd E b T ++ wLo E c0 U ++ wHi E a fa V) 9 [some (.ref bs), some (.ref (a 0)), some (.ref (b 0)), some (.ref (c0 0)), some (.int x4), some (.int x5), none, none, none] 1453 [.int y3, .int y2, .int y1, .ref (b 0)] := by
  intro x4 x5 y1 y2 y3 S T U V q  h hq
  unfold M_L_1393_1453 at h
  obtain ⟨q1, hq1, h⟩ := bnd h
  refine r_callV_CI (Cn := RX10) (pc := 1453) C [.int y1, .int y2, .int y3] (c_X10_submit E l k b T y1 y2 y3 hq1) [61, 62, 63, 64, 65, 66, 67, 68, 69, 70, 71, 72, 73] (hps_hi (List.append_assoc _ _ _).symm (hp_L_204_1 E a b c0 fa S T U V)) (by decide) 0 rfl rfl rfl g_L_185 hd_X10_submit ⟨Nat.le_of_ble_eq_true rfl, Nat.le_of_ble_eq_true rfl⟩ ⟨by have h1 : room_1.cells = 601024 := rfl; have h2 := hcN.1; simp only [Nat.le_refl, rm_X10_submit]; omega, by have h1 : room_1.slots = 7293034 := rfl; have h2 := hcN.2; simp only [Nat.le_refl, rm_X10_submit]; omega⟩ (Nat.le_of_ble_eq_true rfl) rfl dL_law_1453 (fun r w1 hw1 => ?_)
  obtain ⟨hr1, hw1⟩ := hw1
  subst hr1 hw1
  refine ⟨(wSg E a S ++ wMd E b q1.2 ++ wLo E c0 U ++ wHi E a fa V), by exact putW_hi (List.append_assoc _ _ _).symm (List.append_assoc _ _ _).symm (hp_L_204_1 E a b c0 fa S T U V) rfl (pw_L_204_1 E a b c0 fa S T U V q1.2), ?_⟩
  refine r_istore (pc := 1456) C (i := 6) dL_law_1456 (by decide) rfl ?_
  refine r_aload_n (pc := 1458) C (i := 2) dL_law_1458 rfl rfl ?_
  obtain ⟨q2, hq2, h⟩ := bnd h
  refine r_callVp_CI (Cn := RX10) (pc := 1459) C [] (c_X10_thrown E l k b q1.2 hq2) [61, 62, 63, 64, 65, 66, 67, 68, 69, 70, 71, 72, 73] (hps_hi (List.append_assoc _ _ _).symm (hp_L_204_1 E a b c0 fa S q1.2 U V)) (by decide) 0 rfl rfl rfl g_L_106 hd_X10_thrown ⟨Nat.le_of_ble_eq_true rfl, Nat.le_of_ble_eq_true rfl⟩ ⟨by have h1 : room_1.cells = 601024 := rfl; have h2 := hcN.1; simp only [Nat.le_refl, rm_X10_submit, rm_X10_thrown]; omega, by have h1 : room_1.slots = 7293034 := rfl; have h2 := hcN.2; simp only [Nat.le_refl, rm_X10_submit, rm_X10_thrown]; omega⟩ (Nat.le_of_ble_eq_true rfl) rfl dL_law_1459 (fun r hr => ?_)
  have hr := hr.symm
  subst hr
  refine r_iload (pc := 1462) C (i := 5) dL_law_1462 rfl ?_
  refine r_icmp_eq (pc := 1464) C (tgt := 1469) dL_law_1464 rfl (fun c3 => ?_) (fun c3 => ?_)
  · rw [if_pos c3] at h
    refine r_iload (pc := 1469) C (i := 5) dL_law_1469 rfl ?_
    refine r_if_ne (pc := 1471) C (tgt := 1486) dL_law_1471 rfl (fun c4 => ?_) (fun c4 => ?_)
    · rw [if_neg c4] at h
      refine r_goto (pc := 1486) C (tgt := 2036) dL_law_1486 rfl ?_
      cases h
      refine r_widen (k1 := cN + 20) (n1 := sN + 1600) (by simp only [Nat.le_refl, rm_X10_submit, rm_X10_thrown]; omega) (by simp only [Nat.le_refl, rm_X10_submit, rm_X10_thrown]; omega) ?_
      refine r_weak (lSub_s (lSub_s (lSub_s (lSub_s (lSub_s (lSub_n (lSub_n (lSub_n (lSub_n lSub_e))))))))) ?_
      exact hq fa
    · rw [if_pos c4] at h
      refine r_aload_n (pc := 1474) C (i := 3) dL_law_1474 rfl rfl ?_
      refine r_iconst (pc := 1475) C (v := 0) dL_law_1475 (by decide) ?_
      obtain ⟨hi5, h⟩ := ifn h
      refine r_lald (pc := 1476) C 74 rfl hi5 dL_law_1476 ?_
      refine r_iload (pc := 1477) C (i := 6) dL_law_1477 rfl ?_
      refine r_i2l (pc := 1479) C dL_law_1479 ?_
      refine r_lcmp (pc := 1480) C dL_law_1480 ?_
      refine r_if_eq (pc := 1481) C (tgt := 1486) dL_law_1481 rfl (fun c6 => ?_) (fun c6 => ?_)
      · rw [if_pos c6] at h
        refine r_goto (pc := 1486) C (tgt := 2036) dL_law_1486 rfl ?_
        cases h
        refine r_widen (k1 := cN + 20) (n1 := sN + 1600) (by simp only [Nat.le_refl, rm_X10_submit, rm_X10_thrown]; omega) (by simp only [Nat.le_refl, rm_X10_submit, rm_X10_thrown]; omega) ?_
        refine r_weak (lSub_s (lSub_s (lSub_s (lSub_s (lSub_s (lSub_n (lSub_n (lSub_n (lSub_n lSub_e))))))))) ?_
        exact hq fa
      · rw [if_neg c6] at h
        refine r_iconst (pc := 1484) C (v := 0) dL_law_1484 (by decide) ?_
        cases h
  · rw [if_neg c3] at h
    refine r_iconst (pc := 1467) C (v := 0) dL_law_1467 (by decide) ?_
    cases h
def M_L_1393_1420 (k Ls : Nat) (xs : Nat → Int32) (x4 : Int32) (y1 : Int32) (y2 : Int32) (y3 : Int32) (S : VV × VV × VV × VV × VV × Int32) (T : Nat → Nat → Int32) (U : Nat → Int64) (V : Nat × Int32 × Int32 × (Nat → VV)) : Option ((VV × VV × VV × VV × VV × Int32) × (Nat → Nat → Int32) × (Nat → Int64) × (Nat × Int32 × Int32 × (Nat → VV))) := (M_L_submit k S V U y1 y2 y3).bind fun q7 => (if inb (x4 + (1 : Int32)) Ls = true then (if inb (x4 + (2 : Int32)) Ls = true then (if inb (x4 + (3 : Int32)) Ls = true then if (xs (x4 + (3 : Int32)).toNatClampNeg) = 0 then (M_L_1393_1453 k Ls xs x4 q7.1 (xs (x4 + (1 : Int32)).toNatClampNeg) (xs (x4 + (2 : Int32)).toNatClampNeg) (0 : Int32) q7.2.1 T q7.2.2.2 q7.2.2.1) else (M_L_1393_1453 k Ls xs x4 q7.1 (xs (x4 + (1 : Int32)).toNatClampNeg) (xs (x4 + (2 : Int32)).toNatClampNeg) (1 : Int32) q7.2.1 T q7.2.2.2 q7.2.2.1) else none) else none) else none)
set_option maxRecDepth 100000 in
set_option maxHeartbeats 4000000 in
theorem N_L_1393_1420 (C : CX E p l s m #[Value.ref bs] meth c cL_law 9 RL ret A) (a : Nat → Nat) (b : Nat → Nat) (c0 : Nat → Nat) (k Ls : Nat) (xs : Nat → Int32) (hX : va_X bs Ls xs s s.heap) (hbl : bs < s.heap.size) (hbA : ¬ A bs) (hlt : l.stackTraces = false) (hdc : DC s) (cN sN : Nat) (hcN : cN + 20 ≤ 601024 ∧ sN + 1600 ≤ 7293034) (fa : Nat → Nat → Nat) :
    ∀ (x4 : Int32) (y1 : Int32) (y2 : Int32) (y3 : Int32) (S : VV × VV × VV × VV × VV × Int32) (T : Nat → Nat → Int32) (U : Nat → Int64) (V : Nat × Int32 × Int32 × (Nat → VV)) (q : (VV × VV × VV × VV × VV × Int32) × (Nat → Nat → Int32) × (Nat → Int64) × (Nat × Int32 × Int32 × (Nat → VV))), M_L_1393_1420 k Ls xs x4 y1 y2 y3 S T U V = some q → (∀ fa' : Nat → Nat → Nat, WW E p l e room_1 s m #[Value.ref bs] below meth c A (cN + 20) (sN + 1600) (lw_Z below #[Value.ref bs] s) (wSg E a q.1 ++ wMd E b q.2.1 ++ wLo E c0 q.2.2.1 ++ wHi E a fa' q.2.2.2) 9 [some (.ref bs), some (.ref (a 0)), some (.ref (b 0)), some (.ref (c0 0)), some (.int x4), none, none, none, none] 2036 []) →
      WW E p l e room_1 s m #[Value.ref bs] below meth c A (cN + 0) (sN + 0) (lw_Z below #[Value.ref bs] s) (wSg E a S ++ wMd E b T ++ wLo E c0 U ++ wHi E a fa V) 9 [some (.ref bs), some (.ref (a 0)), some (.ref (b 0)), some (.ref (c0 0)), some (.int x4), none, none, none, none] 1420 [.int y3, .int y2, .int y1, .ref (a 0)] := by
  intro x4 y1 y2 y3 S T U V q  h hq
  unfold M_L_1393_1420 at h
  refine r_aload_n (pc := 1420) C (i := 3) dL_law_1420 rfl rfl ?_
  obtain ⟨q7, hq7, h⟩ := bnd h
  refine r_callSHT (c0 := (wSg E a S ++ ([(c0 0, .inl (eC E 1, 1, .inr (.inl U)))] ++ hiC E a fa V))) (w0 := (wSg E a S ++ wMd E b T ++ wLo E c0 U ++ hiC E a fa V)) (t := hiT E fa V) (pc := 1421) C [.ref (a 0), .int y1, .int y2, .int y3, .ref (c0 0)] hdc (c_L_submit E l k a (c0 0) fa S V U y1 y2 y3 hlt hq7) [0, 1, 2, 3, 4, 5, 6, 7, 8, 9, 10, 11, 12, 13, 14, 15, 16, 17, 18, 19, 20, 21, 22, 23, 24, 25, 26, 27, 28, 29, 30, 31, 32, 33, 34, 35, 36, 37, 38, 39, 40, 41, 42, 43, 44, 45, 46, 47, 48, 49, 50, 51, 52, 53, 54, 55, 56, 57, 58, 59, 60, 74, 75, 76] (hpL2 E a b c0 fa S T U V) (by decide) gL_182 hd_L_submit.2 ⟨Nat.le_of_ble_eq_true rfl, Nat.le_of_ble_eq_true rfl⟩ ⟨by have h1 : room_1.cells = 601024 := rfl; have h2 := hcN.1; simp only [Nat.le_refl, rm_L_submit]; omega, by have h1 : room_1.slots = 7293034 := rfl; have h2 := hcN.2; simp only [Nat.le_refl, rm_L_submit]; omega⟩ (Nat.le_of_ble_eq_true rfl) rfl dL_law_1421 (List.append_assoc _ _ _).symm (fun r w1 hw1 => ?_)
  obtain ⟨hr1, fa8, hw1, hmo⟩ := hw1
  subst hr1 hw1
  refine ⟨(wSg E a q7.2.1 ++ ([(c0 0, .inl (eC E 1, 1, .inr (.inl q7.2.2.2)))] ++ hiC E a fa8 q7.2.2.1)), hiT E fa8 q7.2.2.1, (wSg E a q7.2.1 ++ wMd E b T ++ wLo E c0 q7.2.2.2 ++ hiC E a fa8 q7.2.2.1), rfl, ?_, ?_, ?_, ?_⟩
  · exact len_L2 E a (c0 0) fa fa8 S q7.2.1 U q7.2.2.2 V q7.2.2.1
  · exact hiT_le hmo
  · exact pwL2 E a b c0 fa fa8 S T U V q7.2.1 q7.2.2.2 q7.2.2.1
  refine r_world (w' := (wSg E a q7.2.1 ++ wMd E b T ++ wLo E c0 q7.2.2.2 ++ wHi E a fa8 q7.2.2.1)) (List.append_assoc _ _ _) ?_
  refine r_istore (pc := 1424) C (i := 5) dL_law_1424 (by decide) rfl ?_
  refine r_aload_n (pc := 1426) C (i := 2) dL_law_1426 rfl rfl ?_
  refine r_aload_n (pc := 1427) C (i := 0) dL_law_1427 rfl rfl ?_
  refine r_iload (pc := 1428) C (i := 4) dL_law_1428 rfl ?_
  refine r_iconst (pc := 1430) C (v := 1) dL_law_1430 (by decide) ?_
  refine r_iadd (pc := 1431) C dL_law_1431 ?_
  obtain ⟨hi9, h⟩ := ifn h
  refine r_sld (pc := 1432) C hX hbl hbA hi9 dL_law_1432 ?_
  refine r_aload_n (pc := 1433) C (i := 0) dL_law_1433 rfl rfl ?_
  refine r_iload (pc := 1434) C (i := 4) dL_law_1434 rfl ?_
  refine r_iconst (pc := 1436) C (v := 2) dL_law_1436 (by decide) ?_
  refine r_iadd (pc := 1437) C dL_law_1437 ?_
  obtain ⟨hi10, h⟩ := ifn h
  refine r_sld (pc := 1438) C hX hbl hbA hi10 dL_law_1438 ?_
  refine r_aload_n (pc := 1439) C (i := 0) dL_law_1439 rfl rfl ?_
  refine r_iload (pc := 1440) C (i := 4) dL_law_1440 rfl ?_
  refine r_iconst (pc := 1442) C (v := 3) dL_law_1442 (by decide) ?_
  refine r_iadd (pc := 1443) C dL_law_1443 ?_
  obtain ⟨hi11, h⟩ := ifn h
  refine r_sld (pc := 1444) C hX hbl hbA hi11 dL_law_1444 ?_
  refine r_if_eq (pc := 1445) C (tgt := 1452) dL_law_1445 rfl (fun c12 => ?_) (fun c12 => ?_)
  · rw [if_pos c12] at h
    refine r_iconst (pc := 1452) C (v := 0) dL_law_1452 (by decide) ?_
    refine r_weak (lSub_s (lSub_s (lSub_s (lSub_s (lSub_s (lSub_s (lSub_n (lSub_n (lSub_n lSub_e))))))))) ?_
    exact N_L_1393_1453 C a b c0 k Ls xs hX hbl hbA hlt hdc cN sN hcN fa8 x4 q7.1 (xs (x4 + (1 : Int32)).toNatClampNeg) (xs (x4 + (2 : Int32)).toNatClampNeg) (0 : Int32) q7.2.1 T q7.2.2.2 q7.2.2.1 q  h hq
  · rw [if_neg c12] at h
    refine r_iconst (pc := 1448) C (v := 1) dL_law_1448 (by decide) ?_
    refine r_goto (pc := 1449) C (tgt := 1453) dL_law_1449 rfl ?_
    refine r_weak (lSub_s (lSub_s (lSub_s (lSub_s (lSub_s (lSub_s (lSub_n (lSub_n (lSub_n lSub_e))))))))) ?_
    exact N_L_1393_1453 C a b c0 k Ls xs hX hbl hbA hlt hdc cN sN hcN fa8 x4 q7.1 (xs (x4 + (1 : Int32)).toNatClampNeg) (xs (x4 + (2 : Int32)).toNatClampNeg) (1 : Int32) q7.2.1 T q7.2.2.2 q7.2.2.1 q  h hq
def M_L_1393_1393 (k Ls : Nat) (xs : Nat → Int32) (x4 : Int32) (S : VV × VV × VV × VV × VV × Int32) (T : Nat → Nat → Int32) (U : Nat → Int64) (V : Nat × Int32 × Int32 × (Nat → VV)) : Option ((VV × VV × VV × VV × VV × Int32) × (Nat → Nat → Int32) × (Nat → Int64) × (Nat × Int32 × Int32 × (Nat → VV))) := (if inb (x4 + (1 : Int32)) Ls = true then (if inb (x4 + (2 : Int32)) Ls = true then (if inb (x4 + (3 : Int32)) Ls = true then if (xs (x4 + (3 : Int32)).toNatClampNeg) = 0 then (M_L_1393_1420 k Ls xs x4 (xs (x4 + (1 : Int32)).toNatClampNeg) (xs (x4 + (2 : Int32)).toNatClampNeg) (0 : Int32) S T U V) else (M_L_1393_1420 k Ls xs x4 (xs (x4 + (1 : Int32)).toNatClampNeg) (xs (x4 + (2 : Int32)).toNatClampNeg) (1 : Int32) S T U V) else none) else none) else none)
set_option maxRecDepth 100000 in
set_option maxHeartbeats 4000000 in
theorem N_L_1393_1393 (C : CX E p l s m #[Value.ref bs] meth c cL_law 9 RL ret A) (a : Nat → Nat) (b : Nat → Nat) (c0 : Nat → Nat) (k Ls : Nat) (xs : Nat → Int32) (hX : va_X bs Ls xs s s.heap) (hbl : bs < s.heap.size) (hbA : ¬ A bs) (hlt : l.stackTraces = false) (hdc : DC s) (cN sN : Nat) (hcN : cN + 20 ≤ 601024 ∧ sN + 1600 ≤ 7293034) (fa : Nat → Nat → Nat) :
    ∀ (x4 : Int32) (S : VV × VV × VV × VV × VV × Int32) (T : Nat → Nat → Int32) (U : Nat → Int64) (V : Nat × Int32 × Int32 × (Nat → VV)) (q : (VV × VV × VV × VV × VV × Int32) × (Nat → Nat → Int32) × (Nat → Int64) × (Nat × Int32 × Int32 × (Nat → VV))), M_L_1393_1393 k Ls xs x4 S T U V = some q → (∀ fa' : Nat → Nat → Nat, WW E p l e room_1 s m #[Value.ref bs] below meth c A (cN + 20) (sN + 1600) (lw_Z below #[Value.ref bs] s) (wSg E a q.1 ++ wMd E b q.2.1 ++ wLo E c0 q.2.2.1 ++ wHi E a fa' q.2.2.2) 9 [some (.ref bs), some (.ref (a 0)), some (.ref (b 0)), some (.ref (c0 0)), some (.int x4), none, none, none, none] 2036 []) →
      WW E p l e room_1 s m #[Value.ref bs] below meth c A (cN + 0) (sN + 0) (lw_Z below #[Value.ref bs] s) (wSg E a S ++ wMd E b T ++ wLo E c0 U ++ wHi E a fa V) 9 [some (.ref bs), some (.ref (a 0)), some (.ref (b 0)), some (.ref (c0 0)), some (.int x4), none, none, none, none] 1393 [] := by
  intro x4 S T U V q  h hq
  unfold M_L_1393_1393 at h
  refine r_aload_n (pc := 1393) C (i := 1) dL_law_1393 rfl rfl ?_
  refine r_aload_n (pc := 1394) C (i := 0) dL_law_1394 rfl rfl ?_
  refine r_iload (pc := 1395) C (i := 4) dL_law_1395 rfl ?_
  refine r_iconst (pc := 1397) C (v := 1) dL_law_1397 (by decide) ?_
  refine r_iadd (pc := 1398) C dL_law_1398 ?_
  obtain ⟨hi13, h⟩ := ifn h
  refine r_sld (pc := 1399) C hX hbl hbA hi13 dL_law_1399 ?_
  refine r_aload_n (pc := 1400) C (i := 0) dL_law_1400 rfl rfl ?_
  refine r_iload (pc := 1401) C (i := 4) dL_law_1401 rfl ?_
  refine r_iconst (pc := 1403) C (v := 2) dL_law_1403 (by decide) ?_
  refine r_iadd (pc := 1404) C dL_law_1404 ?_
  obtain ⟨hi14, h⟩ := ifn h
  refine r_sld (pc := 1405) C hX hbl hbA hi14 dL_law_1405 ?_
  refine r_aload_n (pc := 1406) C (i := 0) dL_law_1406 rfl rfl ?_
  refine r_iload (pc := 1407) C (i := 4) dL_law_1407 rfl ?_
  refine r_iconst (pc := 1409) C (v := 3) dL_law_1409 (by decide) ?_
  refine r_iadd (pc := 1410) C dL_law_1410 ?_
  obtain ⟨hi15, h⟩ := ifn h
  refine r_sld (pc := 1411) C hX hbl hbA hi15 dL_law_1411 ?_
  refine r_if_eq (pc := 1412) C (tgt := 1419) dL_law_1412 rfl (fun c16 => ?_) (fun c16 => ?_)
  · rw [if_pos c16] at h
    refine r_iconst (pc := 1419) C (v := 0) dL_law_1419 (by decide) ?_
    refine r_weak (lSub_s (lSub_s (lSub_s (lSub_s (lSub_s (lSub_n (lSub_n (lSub_n (lSub_n lSub_e))))))))) ?_
    exact N_L_1393_1420 C a b c0 k Ls xs hX hbl hbA hlt hdc cN sN hcN fa x4 (xs (x4 + (1 : Int32)).toNatClampNeg) (xs (x4 + (2 : Int32)).toNatClampNeg) (0 : Int32) S T U V q  h hq
  · rw [if_neg c16] at h
    refine r_iconst (pc := 1415) C (v := 1) dL_law_1415 (by decide) ?_
    refine r_goto (pc := 1416) C (tgt := 1420) dL_law_1416 rfl ?_
    refine r_weak (lSub_s (lSub_s (lSub_s (lSub_s (lSub_s (lSub_n (lSub_n (lSub_n (lSub_n lSub_e))))))))) ?_
    exact N_L_1393_1420 C a b c0 k Ls xs hX hbl hbA hlt hdc cN sN hcN fa x4 (xs (x4 + (1 : Int32)).toNatClampNeg) (xs (x4 + (2 : Int32)).toNatClampNeg) (1 : Int32) S T U V q  h hq
theorem hd_X10_pass : yX10_pass.cls = RX10 ∧ yX10_pass.cls ≠ "java/lang/invoke/MethodHandle" ∧ yX10_pass.cls ≠ "java/lang/invoke/VarHandle" ∧ (parseMethodDescriptor yX10_pass.desc).map (fun d => d.parameters.length) = some 1 := by decide +kernel
theorem g_L_188 : GoodIn GW (wsV RL 188 RX10 yX10_pass (wsG yX10_pass cX10_pass 4 (some .int))) := gw_V wm_7_131 wm_7_132 wm_7_133 wm_1_9 wm_7_134
theorem hd_L_pass : yL_pass.cls = RL ∧ yL_pass.cls ≠ "java/lang/invoke/MethodHandle" ∧ yL_pass.cls ≠ "java/lang/invoke/VarHandle" ∧ (parseMethodDescriptor yL_pass.desc).map (fun d => d.parameters.length) = some 3 := by decide +kernel
theorem gL_186 : GoodIn GW (va_wsS RL 186 yL_pass (Cond.codeWith yL_pass cL_pass 4 (some .int) [(0, 9, 12, 13)] :: GW)) := gw_SW wm_5_10 wm_5_11 wm_1_0 wm_5_12
-- the law from 1489
theorem dL_law_1489 : decode cL_law 1489 = .ok (.aload_n 1, 1) := by decide +kernel
theorem dL_law_1490 : decode cL_law 1490 = .ok (.aload_n 0, 1) := by decide +kernel
theorem dL_law_1491 : decode cL_law 1491 = .ok (.iload 4, 2) := by decide +kernel
theorem dL_law_1493 : decode cL_law 1493 = .ok (.iconst 1, 1) := by decide +kernel
theorem dL_law_1494 : decode cL_law 1494 = .ok (.iadd, 1) := by decide +kernel
theorem dL_law_1495 : decode cL_law 1495 = .ok (.iaload, 1) := by decide +kernel
theorem dL_law_1496 : decode cL_law 1496 = .ok (.aload_n 3, 1) := by decide +kernel
theorem dL_law_1497 : decode cL_law 1497 = .ok (.invokestatic 186, 3) := by decide +kernel
theorem dL_law_1500 : decode cL_law 1500 = .ok (.istore 5, 2) := by decide +kernel
theorem dL_law_1502 : decode cL_law 1502 = .ok (.aload_n 2, 1) := by decide +kernel
theorem dL_law_1503 : decode cL_law 1503 = .ok (.aload_n 0, 1) := by decide +kernel
theorem dL_law_1504 : decode cL_law 1504 = .ok (.iload 4, 2) := by decide +kernel
theorem dL_law_1506 : decode cL_law 1506 = .ok (.iconst 1, 1) := by decide +kernel
theorem dL_law_1507 : decode cL_law 1507 = .ok (.iadd, 1) := by decide +kernel
theorem dL_law_1508 : decode cL_law 1508 = .ok (.iaload, 1) := by decide +kernel
theorem dL_law_1509 : decode cL_law 1509 = .ok (.invokevirtual 188, 3) := by decide +kernel
theorem dL_law_1512 : decode cL_law 1512 = .ok (.istore 6, 2) := by decide +kernel
theorem dL_law_1514 : decode cL_law 1514 = .ok (.aload_n 2, 1) := by decide +kernel
theorem dL_law_1515 : decode cL_law 1515 = .ok (.invokevirtual 106, 3) := by decide +kernel
theorem dL_law_1518 : decode cL_law 1518 = .ok (.iload 5, 2) := by decide +kernel
theorem dL_law_1520 : decode cL_law 1520 = .ok (.if_icmp .eq 5, 3) := by decide +kernel
theorem dL_law_1523 : decode cL_law 1523 = .ok (.iconst 0, 1) := by decide +kernel
theorem dL_law_1524 : decode cL_law 1524 = .ok (.ireturn, 1) := by decide +kernel
theorem dL_law_1525 : decode cL_law 1525 = .ok (.iload 5, 2) := by decide +kernel
theorem dL_law_1527 : decode cL_law 1527 = .ok (.ifCond .ne 15, 3) := by decide +kernel
theorem dL_law_1530 : decode cL_law 1530 = .ok (.aload_n 3, 1) := by decide +kernel
theorem dL_law_1531 : decode cL_law 1531 = .ok (.iconst 0, 1) := by decide +kernel
theorem dL_law_1532 : decode cL_law 1532 = .ok (.laload, 1) := by decide +kernel
theorem dL_law_1533 : decode cL_law 1533 = .ok (.iload 6, 2) := by decide +kernel
theorem dL_law_1535 : decode cL_law 1535 = .ok (.i2l, 1) := by decide +kernel
theorem dL_law_1536 : decode cL_law 1536 = .ok (.lcmp, 1) := by decide +kernel
theorem dL_law_1537 : decode cL_law 1537 = .ok (.ifCond .eq 5, 3) := by decide +kernel
theorem dL_law_1540 : decode cL_law 1540 = .ok (.iconst 0, 1) := by decide +kernel
theorem dL_law_1541 : decode cL_law 1541 = .ok (.ireturn, 1) := by decide +kernel
theorem dL_law_1542 : decode cL_law 1542 = .ok (.goto 494, 3) := by decide +kernel
def M_L_1489_1489 (k Ls : Nat) (xs : Nat → Int32) (x4 : Int32) (S : VV × VV × VV × VV × VV × Int32) (T : Nat → Nat → Int32) (U : Nat → Int64) (V : Nat × Int32 × Int32 × (Nat → VV)) : Option ((VV × VV × VV × VV × VV × Int32) × (Nat → Nat → Int32) × (Nat → Int64) × (Nat × Int32 × Int32 × (Nat → VV))) := (if inb (x4 + (1 : Int32)) Ls = true then (M_L_pass k S V U (xs (x4 + (1 : Int32)).toNatClampNeg)).bind fun q2 => (if inb (x4 + (1 : Int32)) Ls = true then (M_X10_pass k T (xs (x4 + (1 : Int32)).toNatClampNeg)).bind fun q5 => (M_X10_thrown k q5.2).bind fun q6 => if q6 = q2.1 then (if q2.1 = 0 then ((if inb (0 : Int32) 1 = true then if (lg_cmp (q2.2.2.2 (0 : Int32).toNatClampNeg) (q5.1.toInt64)) = 0 then (some (q2.2.1, q5.2, q2.2.2.2, q2.2.2.1)) else (none) else none)) else (some (q2.2.1, q5.2, q2.2.2.2, q2.2.2.1))) else (none) else none) else none)
set_option maxRecDepth 100000 in
set_option maxHeartbeats 4000000 in
theorem N_L_1489_1489 (C : CX E p l s m #[Value.ref bs] meth c cL_law 9 RL ret A) (a : Nat → Nat) (b : Nat → Nat) (c0 : Nat → Nat) (k Ls : Nat) (xs : Nat → Int32) (hX : va_X bs Ls xs s s.heap) (hbl : bs < s.heap.size) (hbA : ¬ A bs) (hlt : l.stackTraces = false) (hdc : DC s) (cN sN : Nat) (hcN : cN + 20 ≤ 601024 ∧ sN + 1600 ≤ 7293034) (fa : Nat → Nat → Nat) :
    ∀ (x4 : Int32) (S : VV × VV × VV × VV × VV × Int32) (T : Nat → Nat → Int32) (U : Nat → Int64) (V : Nat × Int32 × Int32 × (Nat → VV)) (q : (VV × VV × VV × VV × VV × Int32) × (Nat → Nat → Int32) × (Nat → Int64) × (Nat × Int32 × Int32 × (Nat → VV))), M_L_1489_1489 k Ls xs x4 S T U V = some q → (∀ fa' : Nat → Nat → Nat, WW E p l e room_1 s m #[Value.ref bs] below meth c A (cN + 20) (sN + 1600) (lw_Z below #[Value.ref bs] s) (wSg E a q.1 ++ wMd E b q.2.1 ++ wLo E c0 q.2.2.1 ++ wHi E a fa' q.2.2.2) 9 [some (.ref bs), some (.ref (a 0)), some (.ref (b 0)), some (.ref (c0 0)), some (.int x4), none, none, none, none] 2036 []) →
      WW E p l e room_1 s m #[Value.ref bs] below meth c A (cN + 0) (sN + 0) (lw_Z below #[Value.ref bs] s) (wSg E a S ++ wMd E b T ++ wLo E c0 U ++ wHi E a fa V) 9 [some (.ref bs), some (.ref (a 0)), some (.ref (b 0)), some (.ref (c0 0)), some (.int x4), none, none, none, none] 1489 [] := by
  intro x4 S T U V q  h hq
  unfold M_L_1489_1489 at h
  refine r_aload_n (pc := 1489) C (i := 1) dL_law_1489 rfl rfl ?_
  refine r_aload_n (pc := 1490) C (i := 0) dL_law_1490 rfl rfl ?_
  refine r_iload (pc := 1491) C (i := 4) dL_law_1491 rfl ?_
  refine r_iconst (pc := 1493) C (v := 1) dL_law_1493 (by decide) ?_
  refine r_iadd (pc := 1494) C dL_law_1494 ?_
  obtain ⟨hi1, h⟩ := ifn h
  refine r_sld (pc := 1495) C hX hbl hbA hi1 dL_law_1495 ?_
  refine r_aload_n (pc := 1496) C (i := 3) dL_law_1496 rfl rfl ?_
  obtain ⟨q2, hq2, h⟩ := bnd h
  refine r_callSHT (c0 := (wSg E a S ++ ([(c0 0, .inl (eC E 1, 1, .inr (.inl U)))] ++ hiC E a fa V))) (w0 := (wSg E a S ++ wMd E b T ++ wLo E c0 U ++ hiC E a fa V)) (t := hiT E fa V) (pc := 1497) C [.ref (a 0), .int (xs (x4 + (1 : Int32)).toNatClampNeg), .ref (c0 0)] hdc (c_L_pass E l k a (c0 0) fa S V U (xs (x4 + (1 : Int32)).toNatClampNeg) hlt hq2) [0, 1, 2, 3, 4, 5, 6, 7, 8, 9, 10, 11, 12, 13, 14, 15, 16, 17, 18, 19, 20, 21, 22, 23, 24, 25, 26, 27, 28, 29, 30, 31, 32, 33, 34, 35, 36, 37, 38, 39, 40, 41, 42, 43, 44, 45, 46, 47, 48, 49, 50, 51, 52, 53, 54, 55, 56, 57, 58, 59, 60, 74, 75, 76] (hpL2 E a b c0 fa S T U V) (by decide) gL_186 hd_L_pass.2 ⟨Nat.le_of_ble_eq_true rfl, Nat.le_of_ble_eq_true rfl⟩ ⟨by have h1 : room_1.cells = 601024 := rfl; have h2 := hcN.1; simp only [Nat.le_refl, rm_L_pass]; omega, by have h1 : room_1.slots = 7293034 := rfl; have h2 := hcN.2; simp only [Nat.le_refl, rm_L_pass]; omega⟩ (Nat.le_of_ble_eq_true rfl) rfl dL_law_1497 (List.append_assoc _ _ _).symm (fun r w1 hw1 => ?_)
  obtain ⟨hr1, fa3, hw1, hmo⟩ := hw1
  subst hr1 hw1
  refine ⟨(wSg E a q2.2.1 ++ ([(c0 0, .inl (eC E 1, 1, .inr (.inl q2.2.2.2)))] ++ hiC E a fa3 q2.2.2.1)), hiT E fa3 q2.2.2.1, (wSg E a q2.2.1 ++ wMd E b T ++ wLo E c0 q2.2.2.2 ++ hiC E a fa3 q2.2.2.1), rfl, ?_, ?_, ?_, ?_⟩
  · exact len_L2 E a (c0 0) fa fa3 S q2.2.1 U q2.2.2.2 V q2.2.2.1
  · exact hiT_le hmo
  · exact pwL2 E a b c0 fa fa3 S T U V q2.2.1 q2.2.2.2 q2.2.2.1
  refine r_world (w' := (wSg E a q2.2.1 ++ wMd E b T ++ wLo E c0 q2.2.2.2 ++ wHi E a fa3 q2.2.2.1)) (List.append_assoc _ _ _) ?_
  refine r_istore (pc := 1500) C (i := 5) dL_law_1500 (by decide) rfl ?_
  refine r_aload_n (pc := 1502) C (i := 2) dL_law_1502 rfl rfl ?_
  refine r_aload_n (pc := 1503) C (i := 0) dL_law_1503 rfl rfl ?_
  refine r_iload (pc := 1504) C (i := 4) dL_law_1504 rfl ?_
  refine r_iconst (pc := 1506) C (v := 1) dL_law_1506 (by decide) ?_
  refine r_iadd (pc := 1507) C dL_law_1507 ?_
  obtain ⟨hi4, h⟩ := ifn h
  refine r_sld (pc := 1508) C hX hbl hbA hi4 dL_law_1508 ?_
  obtain ⟨q5, hq5, h⟩ := bnd h
  refine r_callV_CI (Cn := RX10) (pc := 1509) C [.int (xs (x4 + (1 : Int32)).toNatClampNeg)] (c_X10_pass E l k b T (xs (x4 + (1 : Int32)).toNatClampNeg) hq5) [61, 62, 63, 64, 65, 66, 67, 68, 69, 70, 71, 72, 73] (hps_hi (List.append_assoc _ _ _).symm (hp_L_204_1 E a b c0 fa3 q2.2.1 T q2.2.2.2 q2.2.2.1)) (by decide) 0 rfl rfl rfl g_L_188 hd_X10_pass ⟨Nat.le_of_ble_eq_true rfl, Nat.le_of_ble_eq_true rfl⟩ ⟨by have h1 : room_1.cells = 601024 := rfl; have h2 := hcN.1; simp only [Nat.le_refl, rm_L_pass, rm_X10_pass]; omega, by have h1 : room_1.slots = 7293034 := rfl; have h2 := hcN.2; simp only [Nat.le_refl, rm_L_pass, rm_X10_pass]; omega⟩ (Nat.le_of_ble_eq_true rfl) rfl dL_law_1509 (fun r w1 hw1 => ?_)
  obtain ⟨hr1, hw1⟩ := hw1
  subst hr1 hw1
  refine ⟨(wSg E a q2.2.1 ++ wMd E b q5.2 ++ wLo E c0 q2.2.2.2 ++ wHi E a fa3 q2.2.2.1), by exact putW_hi (List.append_assoc _ _ _).symm (List.append_assoc _ _ _).symm (hp_L_204_1 E a b c0 fa3 q2.2.1 T q2.2.2.2 q2.2.2.1) rfl (pw_L_204_1 E a b c0 fa3 q2.2.1 T q2.2.2.2 q2.2.2.1 q5.2), ?_⟩
  refine r_istore (pc := 1512) C (i := 6) dL_law_1512 (by decide) rfl ?_
  refine r_aload_n (pc := 1514) C (i := 2) dL_law_1514 rfl rfl ?_
  obtain ⟨q6, hq6, h⟩ := bnd h
  refine r_callVp_CI (Cn := RX10) (pc := 1515) C [] (c_X10_thrown E l k b q5.2 hq6) [61, 62, 63, 64, 65, 66, 67, 68, 69, 70, 71, 72, 73] (hps_hi (List.append_assoc _ _ _).symm (hp_L_204_1 E a b c0 fa3 q2.2.1 q5.2 q2.2.2.2 q2.2.2.1)) (by decide) 0 rfl rfl rfl g_L_106 hd_X10_thrown ⟨Nat.le_of_ble_eq_true rfl, Nat.le_of_ble_eq_true rfl⟩ ⟨by have h1 : room_1.cells = 601024 := rfl; have h2 := hcN.1; simp only [Nat.le_refl, rm_L_pass, rm_X10_pass, rm_X10_thrown]; omega, by have h1 : room_1.slots = 7293034 := rfl; have h2 := hcN.2; simp only [Nat.le_refl, rm_L_pass, rm_X10_pass, rm_X10_thrown]; omega⟩ (Nat.le_of_ble_eq_true rfl) rfl dL_law_1515 (fun r hr => ?_)
  have hr := hr.symm
  subst hr
  refine r_iload (pc := 1518) C (i := 5) dL_law_1518 rfl ?_
  refine r_icmp_eq (pc := 1520) C (tgt := 1525) dL_law_1520 rfl (fun c7 => ?_) (fun c7 => ?_)
  · rw [if_pos c7] at h
    refine r_iload (pc := 1525) C (i := 5) dL_law_1525 rfl ?_
    refine r_if_ne (pc := 1527) C (tgt := 1542) dL_law_1527 rfl (fun c8 => ?_) (fun c8 => ?_)
    · rw [if_neg c8] at h
      refine r_goto (pc := 1542) C (tgt := 2036) dL_law_1542 rfl ?_
      cases h
      refine r_widen (k1 := cN + 20) (n1 := sN + 1600) (by simp only [Nat.le_refl, rm_L_pass, rm_X10_pass, rm_X10_thrown]; omega) (by simp only [Nat.le_refl, rm_L_pass, rm_X10_pass, rm_X10_thrown]; omega) ?_
      refine r_weak (lSub_s (lSub_s (lSub_s (lSub_s (lSub_s (lSub_n (lSub_n (lSub_n (lSub_n lSub_e))))))))) ?_
      exact hq fa3
    · rw [if_pos c8] at h
      refine r_aload_n (pc := 1530) C (i := 3) dL_law_1530 rfl rfl ?_
      refine r_iconst (pc := 1531) C (v := 0) dL_law_1531 (by decide) ?_
      obtain ⟨hi9, h⟩ := ifn h
      refine r_lald (pc := 1532) C 74 rfl hi9 dL_law_1532 ?_
      refine r_iload (pc := 1533) C (i := 6) dL_law_1533 rfl ?_
      refine r_i2l (pc := 1535) C dL_law_1535 ?_
      refine r_lcmp (pc := 1536) C dL_law_1536 ?_
      refine r_if_eq (pc := 1537) C (tgt := 1542) dL_law_1537 rfl (fun c10 => ?_) (fun c10 => ?_)
      · rw [if_pos c10] at h
        refine r_goto (pc := 1542) C (tgt := 2036) dL_law_1542 rfl ?_
        cases h
        refine r_widen (k1 := cN + 20) (n1 := sN + 1600) (by simp only [Nat.le_refl, rm_L_pass, rm_X10_pass, rm_X10_thrown]; omega) (by simp only [Nat.le_refl, rm_L_pass, rm_X10_pass, rm_X10_thrown]; omega) ?_
        refine r_weak (lSub_s (lSub_s (lSub_s (lSub_s (lSub_s (lSub_n (lSub_n (lSub_n (lSub_n lSub_e))))))))) ?_
        exact hq fa3
      · rw [if_neg c10] at h
        refine r_iconst (pc := 1540) C (v := 0) dL_law_1540 (by decide) ?_
        cases h
  · rw [if_neg c7] at h
    refine r_iconst (pc := 1523) C (v := 0) dL_law_1523 (by decide) ?_
    cases h
theorem hd_X10_kill : yX10_kill.cls = RX10 ∧ yX10_kill.cls ≠ "java/lang/invoke/MethodHandle" ∧ yX10_kill.cls ≠ "java/lang/invoke/VarHandle" ∧ (parseMethodDescriptor yX10_kill.desc).map (fun d => d.parameters.length) = some 1 := by decide +kernel
theorem g_L_191 : GoodIn GW (wsV RL 191 RX10 yX10_kill (wsG yX10_kill cX10_kill 2 (some .int))) := gw_V wm_7_135 wm_7_136 wm_7_137 wm_1_9 wm_7_138
theorem hd_L_kill : yL_kill.cls = RL ∧ yL_kill.cls ≠ "java/lang/invoke/MethodHandle" ∧ yL_kill.cls ≠ "java/lang/invoke/VarHandle" ∧ (parseMethodDescriptor yL_kill.desc).map (fun d => d.parameters.length) = some 3 := by decide +kernel
theorem gL_189 : GoodIn GW (va_wsS RL 189 yL_kill (Cond.codeWith yL_kill cL_kill 4 (some .int) [(0, 9, 12, 18)] :: GW)) := gw_SW wm_5_18 wm_5_19 wm_1_0 wm_5_20
-- the law from 1545
theorem dL_law_1545 : decode cL_law 1545 = .ok (.aload_n 1, 1) := by decide +kernel
theorem dL_law_1546 : decode cL_law 1546 = .ok (.aload_n 0, 1) := by decide +kernel
theorem dL_law_1547 : decode cL_law 1547 = .ok (.iload 4, 2) := by decide +kernel
theorem dL_law_1549 : decode cL_law 1549 = .ok (.iconst 1, 1) := by decide +kernel
theorem dL_law_1550 : decode cL_law 1550 = .ok (.iadd, 1) := by decide +kernel
theorem dL_law_1551 : decode cL_law 1551 = .ok (.iaload, 1) := by decide +kernel
theorem dL_law_1552 : decode cL_law 1552 = .ok (.aload_n 3, 1) := by decide +kernel
theorem dL_law_1553 : decode cL_law 1553 = .ok (.invokestatic 189, 3) := by decide +kernel
theorem dL_law_1556 : decode cL_law 1556 = .ok (.istore 5, 2) := by decide +kernel
theorem dL_law_1558 : decode cL_law 1558 = .ok (.aload_n 2, 1) := by decide +kernel
theorem dL_law_1559 : decode cL_law 1559 = .ok (.aload_n 0, 1) := by decide +kernel
theorem dL_law_1560 : decode cL_law 1560 = .ok (.iload 4, 2) := by decide +kernel
theorem dL_law_1562 : decode cL_law 1562 = .ok (.iconst 1, 1) := by decide +kernel
theorem dL_law_1563 : decode cL_law 1563 = .ok (.iadd, 1) := by decide +kernel
theorem dL_law_1564 : decode cL_law 1564 = .ok (.iaload, 1) := by decide +kernel
theorem dL_law_1565 : decode cL_law 1565 = .ok (.invokevirtual 191, 3) := by decide +kernel
theorem dL_law_1568 : decode cL_law 1568 = .ok (.istore 6, 2) := by decide +kernel
theorem dL_law_1570 : decode cL_law 1570 = .ok (.aload_n 2, 1) := by decide +kernel
theorem dL_law_1571 : decode cL_law 1571 = .ok (.invokevirtual 106, 3) := by decide +kernel
theorem dL_law_1574 : decode cL_law 1574 = .ok (.iload 5, 2) := by decide +kernel
theorem dL_law_1576 : decode cL_law 1576 = .ok (.if_icmp .eq 5, 3) := by decide +kernel
theorem dL_law_1579 : decode cL_law 1579 = .ok (.iconst 0, 1) := by decide +kernel
theorem dL_law_1580 : decode cL_law 1580 = .ok (.ireturn, 1) := by decide +kernel
theorem dL_law_1581 : decode cL_law 1581 = .ok (.iload 5, 2) := by decide +kernel
theorem dL_law_1583 : decode cL_law 1583 = .ok (.ifCond .ne 15, 3) := by decide +kernel
theorem dL_law_1586 : decode cL_law 1586 = .ok (.aload_n 3, 1) := by decide +kernel
theorem dL_law_1587 : decode cL_law 1587 = .ok (.iconst 0, 1) := by decide +kernel
theorem dL_law_1588 : decode cL_law 1588 = .ok (.laload, 1) := by decide +kernel
theorem dL_law_1589 : decode cL_law 1589 = .ok (.iload 6, 2) := by decide +kernel
theorem dL_law_1591 : decode cL_law 1591 = .ok (.i2l, 1) := by decide +kernel
theorem dL_law_1592 : decode cL_law 1592 = .ok (.lcmp, 1) := by decide +kernel
theorem dL_law_1593 : decode cL_law 1593 = .ok (.ifCond .eq 5, 3) := by decide +kernel
theorem dL_law_1596 : decode cL_law 1596 = .ok (.iconst 0, 1) := by decide +kernel
theorem dL_law_1597 : decode cL_law 1597 = .ok (.ireturn, 1) := by decide +kernel
theorem dL_law_1598 : decode cL_law 1598 = .ok (.goto 438, 3) := by decide +kernel
def M_L_1545_1545 (k Ls : Nat) (xs : Nat → Int32) (x4 : Int32) (S : VV × VV × VV × VV × VV × Int32) (T : Nat → Nat → Int32) (U : Nat → Int64) (V : Nat × Int32 × Int32 × (Nat → VV)) : Option ((VV × VV × VV × VV × VV × Int32) × (Nat → Nat → Int32) × (Nat → Int64) × (Nat × Int32 × Int32 × (Nat → VV))) := (if inb (x4 + (1 : Int32)) Ls = true then (M_L_kill k S V U (xs (x4 + (1 : Int32)).toNatClampNeg)).bind fun q2 => (if inb (x4 + (1 : Int32)) Ls = true then (M_X10_kill k T (xs (x4 + (1 : Int32)).toNatClampNeg)).bind fun q5 => (M_X10_thrown k q5.2).bind fun q6 => if q6 = q2.1 then (if q2.1 = 0 then ((if inb (0 : Int32) 1 = true then if (lg_cmp (q2.2.2.2 (0 : Int32).toNatClampNeg) (q5.1.toInt64)) = 0 then (some (q2.2.1, q5.2, q2.2.2.2, q2.2.2.1)) else (none) else none)) else (some (q2.2.1, q5.2, q2.2.2.2, q2.2.2.1))) else (none) else none) else none)
set_option maxRecDepth 100000 in
set_option maxHeartbeats 4000000 in
theorem N_L_1545_1545 (C : CX E p l s m #[Value.ref bs] meth c cL_law 9 RL ret A) (a : Nat → Nat) (b : Nat → Nat) (c0 : Nat → Nat) (k Ls : Nat) (xs : Nat → Int32) (hX : va_X bs Ls xs s s.heap) (hbl : bs < s.heap.size) (hbA : ¬ A bs) (hlt : l.stackTraces = false) (hdc : DC s) (cN sN : Nat) (hcN : cN + 20 ≤ 601024 ∧ sN + 1600 ≤ 7293034) (fa : Nat → Nat → Nat) :
    ∀ (x4 : Int32) (S : VV × VV × VV × VV × VV × Int32) (T : Nat → Nat → Int32) (U : Nat → Int64) (V : Nat × Int32 × Int32 × (Nat → VV)) (q : (VV × VV × VV × VV × VV × Int32) × (Nat → Nat → Int32) × (Nat → Int64) × (Nat × Int32 × Int32 × (Nat → VV))), M_L_1545_1545 k Ls xs x4 S T U V = some q → (∀ fa' : Nat → Nat → Nat, WW E p l e room_1 s m #[Value.ref bs] below meth c A (cN + 20) (sN + 1600) (lw_Z below #[Value.ref bs] s) (wSg E a q.1 ++ wMd E b q.2.1 ++ wLo E c0 q.2.2.1 ++ wHi E a fa' q.2.2.2) 9 [some (.ref bs), some (.ref (a 0)), some (.ref (b 0)), some (.ref (c0 0)), some (.int x4), none, none, none, none] 2036 []) →
      WW E p l e room_1 s m #[Value.ref bs] below meth c A (cN + 0) (sN + 0) (lw_Z below #[Value.ref bs] s) (wSg E a S ++ wMd E b T ++ wLo E c0 U ++ wHi E a fa V) 9 [some (.ref bs), some (.ref (a 0)), some (.ref (b 0)), some (.ref (c0 0)), some (.int x4), none, none, none, none] 1545 [] := by
  intro x4 S T U V q  h hq
  unfold M_L_1545_1545 at h
  refine r_aload_n (pc := 1545) C (i := 1) dL_law_1545 rfl rfl ?_
  refine r_aload_n (pc := 1546) C (i := 0) dL_law_1546 rfl rfl ?_
  refine r_iload (pc := 1547) C (i := 4) dL_law_1547 rfl ?_
  refine r_iconst (pc := 1549) C (v := 1) dL_law_1549 (by decide) ?_
  refine r_iadd (pc := 1550) C dL_law_1550 ?_
  obtain ⟨hi1, h⟩ := ifn h
  refine r_sld (pc := 1551) C hX hbl hbA hi1 dL_law_1551 ?_
  refine r_aload_n (pc := 1552) C (i := 3) dL_law_1552 rfl rfl ?_
  obtain ⟨q2, hq2, h⟩ := bnd h
  refine r_callSHT (c0 := (wSg E a S ++ ([(c0 0, .inl (eC E 1, 1, .inr (.inl U)))] ++ hiC E a fa V))) (w0 := (wSg E a S ++ wMd E b T ++ wLo E c0 U ++ hiC E a fa V)) (t := hiT E fa V) (pc := 1553) C [.ref (a 0), .int (xs (x4 + (1 : Int32)).toNatClampNeg), .ref (c0 0)] hdc (c_L_kill E l k a (c0 0) fa S V U (xs (x4 + (1 : Int32)).toNatClampNeg) hlt hq2) [0, 1, 2, 3, 4, 5, 6, 7, 8, 9, 10, 11, 12, 13, 14, 15, 16, 17, 18, 19, 20, 21, 22, 23, 24, 25, 26, 27, 28, 29, 30, 31, 32, 33, 34, 35, 36, 37, 38, 39, 40, 41, 42, 43, 44, 45, 46, 47, 48, 49, 50, 51, 52, 53, 54, 55, 56, 57, 58, 59, 60, 74, 75, 76] (hpL2 E a b c0 fa S T U V) (by decide) gL_189 hd_L_kill.2 ⟨Nat.le_of_ble_eq_true rfl, Nat.le_of_ble_eq_true rfl⟩ ⟨by have h1 : room_1.cells = 601024 := rfl; have h2 := hcN.1; simp only [Nat.le_refl, rm_L_kill]; omega, by have h1 : room_1.slots = 7293034 := rfl; have h2 := hcN.2; simp only [Nat.le_refl, rm_L_kill]; omega⟩ (Nat.le_of_ble_eq_true rfl) rfl dL_law_1553 (List.append_assoc _ _ _).symm (fun r w1 hw1 => ?_)
  obtain ⟨hr1, fa3, hw1, hmo⟩ := hw1
  subst hr1 hw1
  refine ⟨(wSg E a q2.2.1 ++ ([(c0 0, .inl (eC E 1, 1, .inr (.inl q2.2.2.2)))] ++ hiC E a fa3 q2.2.2.1)), hiT E fa3 q2.2.2.1, (wSg E a q2.2.1 ++ wMd E b T ++ wLo E c0 q2.2.2.2 ++ hiC E a fa3 q2.2.2.1), rfl, ?_, ?_, ?_, ?_⟩
  · exact len_L2 E a (c0 0) fa fa3 S q2.2.1 U q2.2.2.2 V q2.2.2.1
  · exact hiT_le hmo
  · exact pwL2 E a b c0 fa fa3 S T U V q2.2.1 q2.2.2.2 q2.2.2.1
  refine r_world (w' := (wSg E a q2.2.1 ++ wMd E b T ++ wLo E c0 q2.2.2.2 ++ wHi E a fa3 q2.2.2.1)) (List.append_assoc _ _ _) ?_
  refine r_istore (pc := 1556) C (i := 5) dL_law_1556 (by decide) rfl ?_
  refine r_aload_n (pc := 1558) C (i := 2) dL_law_1558 rfl rfl ?_
  refine r_aload_n (pc := 1559) C (i := 0) dL_law_1559 rfl rfl ?_
  refine r_iload (pc := 1560) C (i := 4) dL_law_1560 rfl ?_
  refine r_iconst (pc := 1562) C (v := 1) dL_law_1562 (by decide) ?_
  refine r_iadd (pc := 1563) C dL_law_1563 ?_
  obtain ⟨hi4, h⟩ := ifn h
  refine r_sld (pc := 1564) C hX hbl hbA hi4 dL_law_1564 ?_
  obtain ⟨q5, hq5, h⟩ := bnd h
  refine r_callV_CI (Cn := RX10) (pc := 1565) C [.int (xs (x4 + (1 : Int32)).toNatClampNeg)] (c_X10_kill E l k b T (xs (x4 + (1 : Int32)).toNatClampNeg) hq5) [61, 62, 63, 64, 65, 66, 67, 68, 69, 70, 71, 72, 73] (hps_hi (List.append_assoc _ _ _).symm (hp_L_204_1 E a b c0 fa3 q2.2.1 T q2.2.2.2 q2.2.2.1)) (by decide) 0 rfl rfl rfl g_L_191 hd_X10_kill ⟨Nat.le_of_ble_eq_true rfl, Nat.le_of_ble_eq_true rfl⟩ ⟨by have h1 : room_1.cells = 601024 := rfl; have h2 := hcN.1; simp only [Nat.le_refl, rm_L_kill, rm_X10_kill]; omega, by have h1 : room_1.slots = 7293034 := rfl; have h2 := hcN.2; simp only [Nat.le_refl, rm_L_kill, rm_X10_kill]; omega⟩ (Nat.le_of_ble_eq_true rfl) rfl dL_law_1565 (fun r w1 hw1 => ?_)
  obtain ⟨hr1, hw1⟩ := hw1
  subst hr1 hw1
  refine ⟨(wSg E a q2.2.1 ++ wMd E b q5.2 ++ wLo E c0 q2.2.2.2 ++ wHi E a fa3 q2.2.2.1), by exact putW_hi (List.append_assoc _ _ _).symm (List.append_assoc _ _ _).symm (hp_L_204_1 E a b c0 fa3 q2.2.1 T q2.2.2.2 q2.2.2.1) rfl (pw_L_204_1 E a b c0 fa3 q2.2.1 T q2.2.2.2 q2.2.2.1 q5.2), ?_⟩
  refine r_istore (pc := 1568) C (i := 6) dL_law_1568 (by decide) rfl ?_
  refine r_aload_n (pc := 1570) C (i := 2) dL_law_1570 rfl rfl ?_
  obtain ⟨q6, hq6, h⟩ := bnd h
  refine r_callVp_CI (Cn := RX10) (pc := 1571) C [] (c_X10_thrown E l k b q5.2 hq6) [61, 62, 63, 64, 65, 66, 67, 68, 69, 70, 71, 72, 73] (hps_hi (List.append_assoc _ _ _).symm (hp_L_204_1 E a b c0 fa3 q2.2.1 q5.2 q2.2.2.2 q2.2.2.1)) (by decide) 0 rfl rfl rfl g_L_106 hd_X10_thrown ⟨Nat.le_of_ble_eq_true rfl, Nat.le_of_ble_eq_true rfl⟩ ⟨by have h1 : room_1.cells = 601024 := rfl; have h2 := hcN.1; simp only [Nat.le_refl, rm_L_kill, rm_X10_kill, rm_X10_thrown]; omega, by have h1 : room_1.slots = 7293034 := rfl; have h2 := hcN.2; simp only [Nat.le_refl, rm_L_kill, rm_X10_kill, rm_X10_thrown]; omega⟩ (Nat.le_of_ble_eq_true rfl) rfl dL_law_1571 (fun r hr => ?_)
  have hr := hr.symm
  subst hr
  refine r_iload (pc := 1574) C (i := 5) dL_law_1574 rfl ?_
  refine r_icmp_eq (pc := 1576) C (tgt := 1581) dL_law_1576 rfl (fun c7 => ?_) (fun c7 => ?_)
  · rw [if_pos c7] at h
    refine r_iload (pc := 1581) C (i := 5) dL_law_1581 rfl ?_
    refine r_if_ne (pc := 1583) C (tgt := 1598) dL_law_1583 rfl (fun c8 => ?_) (fun c8 => ?_)
    · rw [if_neg c8] at h
      refine r_goto (pc := 1598) C (tgt := 2036) dL_law_1598 rfl ?_
      cases h
      refine r_widen (k1 := cN + 20) (n1 := sN + 1600) (by simp only [Nat.le_refl, rm_L_kill, rm_X10_kill, rm_X10_thrown]; omega) (by simp only [Nat.le_refl, rm_L_kill, rm_X10_kill, rm_X10_thrown]; omega) ?_
      refine r_weak (lSub_s (lSub_s (lSub_s (lSub_s (lSub_s (lSub_n (lSub_n (lSub_n (lSub_n lSub_e))))))))) ?_
      exact hq fa3
    · rw [if_pos c8] at h
      refine r_aload_n (pc := 1586) C (i := 3) dL_law_1586 rfl rfl ?_
      refine r_iconst (pc := 1587) C (v := 0) dL_law_1587 (by decide) ?_
      obtain ⟨hi9, h⟩ := ifn h
      refine r_lald (pc := 1588) C 74 rfl hi9 dL_law_1588 ?_
      refine r_iload (pc := 1589) C (i := 6) dL_law_1589 rfl ?_
      refine r_i2l (pc := 1591) C dL_law_1591 ?_
      refine r_lcmp (pc := 1592) C dL_law_1592 ?_
      refine r_if_eq (pc := 1593) C (tgt := 1598) dL_law_1593 rfl (fun c10 => ?_) (fun c10 => ?_)
      · rw [if_pos c10] at h
        refine r_goto (pc := 1598) C (tgt := 2036) dL_law_1598 rfl ?_
        cases h
        refine r_widen (k1 := cN + 20) (n1 := sN + 1600) (by simp only [Nat.le_refl, rm_L_kill, rm_X10_kill, rm_X10_thrown]; omega) (by simp only [Nat.le_refl, rm_L_kill, rm_X10_kill, rm_X10_thrown]; omega) ?_
        refine r_weak (lSub_s (lSub_s (lSub_s (lSub_s (lSub_s (lSub_n (lSub_n (lSub_n (lSub_n lSub_e))))))))) ?_
        exact hq fa3
      · rw [if_neg c10] at h
        refine r_iconst (pc := 1596) C (v := 0) dL_law_1596 (by decide) ?_
        cases h
  · rw [if_neg c7] at h
    refine r_iconst (pc := 1579) C (v := 0) dL_law_1579 (by decide) ?_
    cases h
end WALKS
