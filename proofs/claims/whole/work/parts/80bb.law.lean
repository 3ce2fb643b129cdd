section WALKS
variable {E : ENV} {p : Program} {l : Launch} {e : Env} {s : State} {m : MethodId} {args : Array Value} {below : List Frame} {meth : Method} {c : Code} {A : Nat → Prop} {bs : Nat}
theorem hd_X10_setting : yX10_setting.cls = RX10 ∧ yX10_setting.cls ≠ "java/lang/invoke/MethodHandle" ∧ yX10_setting.cls ≠ "java/lang/invoke/VarHandle" ∧ (parseMethodDescriptor yX10_setting.desc).map (fun d => d.parameters.length) = some 1 := by decide +kernel
theorem g_L_119 : GoodIn GW (wsV RL 119 RX10 yX10_setting (wsG yX10_setting cX10_setting 2 (some .int))) := gw_V wm_6_116 wm_6_117 wm_6_118 wm_1_9 wm_6_119
theorem hd_L_setting : yL_setting.cls = RL ∧ yL_setting.cls ≠ "java/lang/invoke/MethodHandle" ∧ yL_setting.cls ≠ "java/lang/invoke/VarHandle" ∧ (parseMethodDescriptor yL_setting.desc).map (fun d => d.parameters.length) = some 3 := by decide +kernel
theorem gL_117 : GoodIn GW (va_wsS RL 117 yL_setting (Cond.codeWith yL_setting cL_setting 4 (some .int) [(0, 9, 12, 18)] :: GW)) := gw_SW wm_3_226 wm_3_227 wm_1_0 wm_3_228
-- the law from 402
theorem dL_law_402 : decode cL_law 402 = .ok (.aload_n 1, 1) := by decide +kernel
theorem dL_law_403 : decode cL_law 403 = .ok (.aload_n 0, 1) := by decide +kernel
theorem dL_law_404 : decode cL_law 404 = .ok (.iload 4, 2) := by decide +kernel
theorem dL_law_406 : decode cL_law 406 = .ok (.iconst 1, 1) := by decide +kernel
theorem dL_law_407 : decode cL_law 407 = .ok (.iadd, 1) := by decide +kernel
theorem dL_law_408 : decode cL_law 408 = .ok (.iaload, 1) := by decide +kernel
theorem dL_law_409 : decode cL_law 409 = .ok (.aload_n 3, 1) := by decide +kernel
theorem dL_law_410 : decode cL_law 410 = .ok (.invokestatic 117, 3) := by decide +kernel
theorem dL_law_413 : decode cL_law 413 = .ok (.istore 5, 2) := by decide +kernel
theorem dL_law_415 : decode cL_law 415 = .ok (.aload_n 2, 1) := by decide +kernel
theorem dL_law_416 : decode cL_law 416 = .ok (.aload_n 0, 1) := by decide +kernel
theorem dL_law_417 : decode cL_law 417 = .ok (.iload 4, 2) := by decide +kernel
theorem dL_law_419 : decode cL_law 419 = .ok (.iconst 1, 1) := by decide +kernel
theorem dL_law_420 : decode cL_law 420 = .ok (.iadd, 1) := by decide +kernel
theorem dL_law_421 : decode cL_law 421 = .ok (.iaload, 1) := by decide +kernel
theorem dL_law_422 : decode cL_law 422 = .ok (.invokevirtual 119, 3) := by decide +kernel
theorem dL_law_425 : decode cL_law 425 = .ok (.istore 6, 2) := by decide +kernel
theorem dL_law_427 : decode cL_law 427 = .ok (.aload_n 2, 1) := by decide +kernel
theorem dL_law_428 : decode cL_law 428 = .ok (.invokevirtual 106, 3) := by decide +kernel
theorem dL_law_431 : decode cL_law 431 = .ok (.iload 5, 2) := by decide +kernel
theorem dL_law_433 : decode cL_law 433 = .ok (.if_icmp .eq 5, 3) := by decide +kernel
theorem dL_law_436 : decode cL_law 436 = .ok (.iconst 0, 1) := by decide +kernel
theorem dL_law_437 : decode cL_law 437 = .ok (.ireturn, 1) := by decide +kernel
theorem dL_law_438 : decode cL_law 438 = .ok (.iload 5, 2) := by decide +kernel
theorem dL_law_440 : decode cL_law 440 = .ok (.ifCond .ne 15, 3) := by decide +kernel
theorem dL_law_443 : decode cL_law 443 = .ok (.aload_n 3, 1) := by decide +kernel
theorem dL_law_444 : decode cL_law 444 = .ok (.iconst 0, 1) := by decide +kernel
theorem dL_law_445 : decode cL_law 445 = .ok (.laload, 1) := by decide +kernel
theorem dL_law_446 : decode cL_law 446 = .ok (.iload 6, 2) := by decide +kernel
theorem dL_law_448 : decode cL_law 448 = .ok (.i2l, 1) := by decide +kernel
theorem dL_law_449 : decode cL_law 449 = .ok (.lcmp, 1) := by decide +kernel
theorem dL_law_450 : decode cL_law 450 = .ok (.ifCond .eq 5, 3) := by decide +kernel
theorem dL_law_453 : decode cL_law 453 = .ok (.iconst 0, 1) := by decide +kernel
theorem dL_law_454 : decode cL_law 454 = .ok (.ireturn, 1) := by decide +kernel
theorem dL_law_455 : decode cL_law 455 = .ok (.goto 1581, 3) := by decide +kernel
def M_L_402_402 (k Ls : Nat) (xs : Nat → Int32) (x4 : Int32) (S : VV × VV × VV × VV × VV × Int32) (T : Nat → Nat → Int32) (U : Nat → Int64) (V : Nat × Int32 × Int32 × (Nat → VV)) : Option ((VV × VV × VV × VV × VV × Int32) × (Nat → Nat → Int32) × (Nat → Int64) × (Nat × Int32 × Int32 × (Nat → VV))) := (if inb (x4 + (1 : Int32)) Ls = true then (M_L_setting k S U (xs (x4 + (1 : Int32)).toNatClampNeg)).bind fun q2 => (if inb (x4 + (1 : Int32)) Ls = true then (M_X10_setting k T (xs (x4 + (1 : Int32)).toNatClampNeg)).bind fun q4 => (M_X10_thrown k q4.2).bind fun q5 => if q5 = q2.1 then (if q2.1 = 0 then ((if inb (0 : Int32) 1 = true then if (lg_cmp (q2.2 (0 : Int32).toNatClampNeg) (q4.1.toInt64)) = 0 then (some (S, q4.2, q2.2, V)) else (none) else none)) else (some (S, q4.2, q2.2, V))) else (none) else none) else none)
set_option maxRecDepth 100000 in
set_option maxHeartbeats 4000000 in
theorem N_L_402_402 (C : CX E p l s m #[Value.ref bs] meth c cL_law 9 RL ret A) (a : Nat → Nat) (b : Nat → Nat) (c0 : Nat → Nat) (k Ls : Nat) (xs : Nat → Int32) (hX : va_X bs Ls xs s s.heap) (hbl : bs < s.heap.size) (hbA : ¬ A bs) (hlt : l.stackTraces = false) (hdc : DC s) (cN sN : Nat) (hcN : cN + 20 ≤ 601024 ∧ sN + 1600 ≤ 7293034) (fa : Nat → Nat → Nat) :
    ∀ (x4 : Int32) (S : VV × VV × VV × VV × VV × Int32) (T : Nat → Nat → Int32) (U : Nat → Int64) (V : Nat × Int32 × Int32 × (Nat → VV)) (q : (VV × VV × VV × VV × VV × Int32) × (Nat → Nat → Int32) × (Nat → Int64) × (Nat × Int32 × Int32 × (Nat → VV))), M_L_402_402 k Ls xs x4 S T U V = some q → (∀ fa' : Nat → Nat → Nat, WW E p l e room_1 s m #[Value.ref bs] below meth c A (cN + 20) (sN + 1600) (lw_Z below #[Value.ref bs] s) (wSg E a q.1 ++ wMd E b q.2.1 ++ wLo E c0 q.2.2.1 ++ wHi E a fa' q.2.2.2) 9 [some (.ref bs), some (.ref (a 0)), some (.ref (b 0)), some (.ref (c0 0)), some (.int x4), none, none, none, none] 2036 []) →
      WW E p l e room_1 s m #[Value.ref bs] below meth c A (cN + 0) (sN + 0) (lw_Z below #[Value.ref bs] s) (wSg E a S ++ wMd E b T ++ wLo E c0 U ++ wHi E a fa V) 9 [some (.ref bs), some (.ref (a 0)), some (.ref (b 0)), some (.ref (c0 0)), some (.int x4), none, none, none, none] 402 [] := by
  intro x4 S T U V q  h hq
  unfold M_L_402_402 at h
  refine r_aload_n (pc := 402) C (i := 1) dL_law_402 rfl rfl ?_
  refine r_aload_n (pc := 403) C (i := 0) dL_law_403 rfl rfl ?_
  refine r_iload (pc := 404) C (i := 4) dL_law_404 rfl ?_
  refine r_iconst (pc := 406) C (v := 1) dL_law_406 (by decide) ?_
  refine r_iadd (pc := 407) C dL_law_407 ?_
  obtain ⟨hi1, h⟩ := ifn h
  refine r_sld (pc := 408) C hX hbl hbA hi1 dL_law_408 ?_
  refine r_aload_n (pc := 409) C (i := 3) dL_law_409 rfl rfl ?_
  obtain ⟨q2, hq2, h⟩ := bnd h
  refine r_callSH (pc := 410) C [.ref (a 0), .int (xs (x4 + (1 : Int32)).toNatClampNeg), .ref (c0 0)] hdc (c_L_setting E l k a (c0 0) S U (xs (x4 + (1 : Int32)).toNatClampNeg) hlt hq2) [0, 1, 2, 3, 4, 5, 6, 7, 8, 9, 10, 11, 12, 13, 14, 15, 16, 17, 18, 19, 20, 21, 22, 23, 24, 25, 26, 27, 28, 29, 30, 31, 32, 33, 34, 35, 36, 37, 38, 39, 40, 41, 42, 43, 44, 45, 46, 47, 48, 49, 50, 51, 52, 53, 54, 55, 56, 57, 58, 59, 60, 74] (hps_hi (List.append_assoc _ _ _).symm (hpL1 E a b c0 fa S T U V)) (by decide) gL_117 hd_L_setting.2 ⟨Nat.le_of_ble_eq_true rfl, Nat.le_of_ble_eq_true rfl⟩ ⟨by have h1 : room_1.cells = 601024 := rfl; have h2 := hcN.1; simp only [Nat.le_refl, rm_L_setting]; omega, by have h1 : room_1.slots = 7293034 := rfl; have h2 := hcN.2; simp only [Nat.le_refl, rm_L_setting]; omega⟩ (Nat.le_of_ble_eq_true rfl) rfl dL_law_410 (fun r w1 hw1 => ?_)
  obtain ⟨hr1, hw1⟩ := hw1
  subst hr1 hw1
  refine ⟨(wSg E a S ++ wMd E b T ++ wLo E c0 q2.2 ++ wHi E a fa V), putW_hi (List.append_assoc _ _ _).symm (List.append_assoc _ _ _).symm (hpL1 E a b c0 fa S T U V) rfl (pwL1 E a b c0 fa S T U V S q2.2), ?_⟩
  refine r_istore (pc := 413) C (i := 5) dL_law_413 (by decide) rfl ?_
  refine r_aload_n (pc := 415) C (i := 2) dL_law_415 rfl rfl ?_
  refine r_aload_n (pc := 416) C (i := 0) dL_law_416 rfl rfl ?_
  refine r_iload (pc := 417) C (i := 4) dL_law_417 rfl ?_
  refine r_iconst (pc := 419) C (v := 1) dL_law_419 (by decide) ?_
  refine r_iadd (pc := 420) C dL_law_420 ?_
  obtain ⟨hi3, h⟩ := ifn h
  refine r_sld (pc := 421) C hX hbl hbA hi3 dL_law_421 ?_
  obtain ⟨q4, hq4, h⟩ := bnd h
  refine r_callV_CI (Cn := RX10) (pc := 422) C [.int (xs (x4 + (1 : Int32)).toNatClampNeg)] (c_X10_setting E l k b T (xs (x4 + (1 : Int32)).toNatClampNeg) hq4) [61, 62, 63, 64, 65, 66, 67, 68, 69, 70, 71, 72, 73] (hps_hi (List.append_assoc _ _ _).symm (hp_L_204_1 E a b c0 fa S T q2.2 V)) (by decide) 0 rfl rfl rfl g_L_119 hd_X10_setting ⟨Nat.le_of_ble_eq_true rfl, Nat.le_of_ble_eq_true rfl⟩ ⟨by have h1 : room_1.cells = 601024 := rfl; have h2 := hcN.1; simp only [Nat.le_refl, rm_L_setting, rm_X10_setting]; omega, by have h1 : room_1.slots = 7293034 := rfl; have h2 := hcN.2; simp only [Nat.le_refl, rm_L_setting, rm_X10_setting]; omega⟩ (Nat.le_of_ble_eq_true rfl) rfl dL_law_422 (fun r w1 hw1 => ?_)
  obtain ⟨hr1, hw1⟩ := hw1
  subst hr1 hw1
  refine ⟨(wSg E a S ++ wMd E b q4.2 ++ wLo E c0 q2.2 ++ wHi E a fa V), by exact putW_hi (List.append_assoc _ _ _).symm (List.append_assoc _ _ _).symm (hp_L_204_1 E a b c0 fa S T q2.2 V) rfl (pw_L_204_1 E a b c0 fa S T q2.2 V q4.2), ?_⟩
  refine r_istore (pc := 425) C (i := 6) dL_law_425 (by decide) rfl ?_
  refine r_aload_n (pc := 427) C (i := 2) dL_law_427 rfl rfl ?_
  obtain ⟨q5, hq5, h⟩ := bnd h
  refine r_callVp_CI (Cn := RX10) (pc := 428) C [] (c_X10_thrown E l k b q4.2 hq5) [61, 62, 63, 64, 65, 66, 67, 68, 69, 70, 71, 72, 73] (hps_hi (List.append_assoc _ _ _).symm (hp_L_204_1 E a b c0 fa S q4.2 q2.2 V)) (by decide) 0 rfl rfl rfl g_L_106 hd_X10_thrown ⟨Nat.le_of_ble_eq_true rfl, Nat.le_of_ble_eq_true rfl⟩ ⟨by have h1 : room_1.cells = 601024 := rfl; have h2 := hcN.1; simp only [Nat.le_refl, rm_L_setting, rm_X10_setting, rm_X10_thrown]; omega, by have h1 : room_1.slots = 7293034 := rfl; have h2 := hcN.2; simp only [Nat.le_refl, rm_L_setting, rm_X10_setting, rm_X10_thrown]; omega⟩ (Nat.le_of_ble_eq_true rfl) rfl dL_law_428 (fun r hr => ?_)
  have hr := hr.symm
  subst hr
  refine r_iload (pc := 431) C (i := 5) dL_law_431 rfl ?_
  refine r_icmp_eq (pc := 433) C (tgt := 438) dL_law_433 rfl (fun c6 => ?_) (fun c6 => ?_)
  · rw [if_pos c6] at h
    refine r_iload (pc := 438) C (i := 5) dL_law_438 rfl ?_
    refine r_if_ne (pc := 440) C (tgt := 455) dL_law_440 rfl (fun c7 => ?_) (fun c7 => ?_)
    · rw [if_neg c7] at h
      refine r_goto (pc := 455) C (tgt := 2036) dL_law_455 rfl ?_
      cases h
      refine r_widen (k1 := cN + 20) (n1 := sN + 1600) (by simp only [Nat.le_refl, rm_L_setting, rm_X10_setting, rm_X10_thrown]; omega) (by simp only [Nat.le_refl, rm_L_setting, rm_X10_setting, rm_X10_thrown]; omega) ?_
      refine r_weak (lSub_s (lSub_s (lSub_s (lSub_s (lSub_s (lSub_n (lSub_n (lSub_n (lSub_n lSub_e))))))))) ?_
      exact hq fa
    · rw [if_pos c7] at h
      refine r_aload_n (pc := 443) C (i := 3) dL_law_443 rfl rfl ?_
      refine r_iconst (pc := 444) C (v := 0) dL_law_444 (by decide) ?_
      obtain ⟨hi8, h⟩ := ifn h
      refine r_lald (pc := 445) C 74 rfl hi8 dL_law_445 ?_
      refine r_iload (pc := 446) C (i := 6) dL_law_446 rfl ?_
      refine r_i2l (pc := 448) C dL_law_448 ?_
      refine r_lcmp (pc := 449) C dL_law_449 ?_
      refine r_if_eq (pc := 450) C (tgt := 455) dL_law_450 rfl (fun c9 => ?_) (fun c9 => ?_)
      · rw [if_pos c9] at h
        refine r_goto (pc := 455) C (tgt := 2036) dL_law_455 rfl ?_
        cases h
        refine r_widen (k1 := cN + 20) (n1 := sN + 1600) (by simp only [Nat.le_refl, rm_L_setting, rm_X10_setting, rm_X10_thrown]; omega) (by simp only [Nat.le_refl, rm_L_setting, rm_X10_setting, rm_X10_thrown]; omega) ?_
        refine r_weak (lSub_s (lSub_s (lSub_s (lSub_s (lSub_s (lSub_n (lSub_n (lSub_n (lSub_n lSub_e))))))))) ?_
        exact hq fa
      · rw [if_neg c9] at h
        refine r_iconst (pc := 453) C (v := 0) dL_law_453 (by decide) ?_
        cases h
  · rw [if_neg c6] at h
    refine r_iconst (pc := 436) C (v := 0) dL_law_436 (by decide) ?_
    cases h
theorem hd_X10_worker : yX10_worker.cls = RX10 ∧ yX10_worker.cls ≠ "java/lang/invoke/MethodHandle" ∧ yX10_worker.cls ≠ "java/lang/invoke/VarHandle" ∧ (parseMethodDescriptor yX10_worker.desc).map (fun d => d.parameters.length) = some 2 := by decide +kernel
theorem g_L_123 : GoodIn GW (wsV RL 123 RX10 yX10_worker (wsG yX10_worker cX10_worker 3 (some .int))) := gw_V wm_6_127 wm_6_128 wm_6_129 wm_1_9 wm_6_130
theorem hd_L_worker : yL_worker.cls = RL ∧ yL_worker.cls ≠ "java/lang/invoke/MethodHandle" ∧ yL_worker.cls ≠ "java/lang/invoke/VarHandle" ∧ (parseMethodDescriptor yL_worker.desc).map (fun d => d.parameters.length) = some 4 := by decide +kernel
theorem gL_120 : GoodIn GW (va_wsS RL 120 yL_worker (Cond.codeWith yL_worker cL_worker 5 (some .int) [(0, 10, 13, 18)] :: GW)) := gw_SW wm_3_237 wm_3_238 wm_1_0 wm_3_239
-- the law from 458
theorem dL_law_458 : decode cL_law 458 = .ok (.aload_n 1, 1) := by decide +kernel
theorem dL_law_459 : decode cL_law 459 = .ok (.aload_n 0, 1) := by decide +kernel
theorem dL_law_460 : decode cL_law 460 = .ok (.iload 4, 2) := by decide +kernel
theorem dL_law_462 : decode cL_law 462 = .ok (.iconst 1, 1) := by decide +kernel
theorem dL_law_463 : decode cL_law 463 = .ok (.iadd, 1) := by decide +kernel
theorem dL_law_464 : decode cL_law 464 = .ok (.iaload, 1) := by decide +kernel
theorem dL_law_465 : decode cL_law 465 = .ok (.aload_n 0, 1) := by decide +kernel
theorem dL_law_466 : decode cL_law 466 = .ok (.iload 4, 2) := by decide +kernel
theorem dL_law_468 : decode cL_law 468 = .ok (.iconst 2, 1) := by decide +kernel
theorem dL_law_469 : decode cL_law 469 = .ok (.iadd, 1) := by decide +kernel
theorem dL_law_470 : decode cL_law 470 = .ok (.iaload, 1) := by decide +kernel
theorem dL_law_471 : decode cL_law 471 = .ok (.aload_n 3, 1) := by decide +kernel
theorem dL_law_472 : decode cL_law 472 = .ok (.invokestatic 120, 3) := by decide +kernel
theorem dL_law_475 : decode cL_law 475 = .ok (.istore 5, 2) := by decide +kernel
theorem dL_law_477 : decode cL_law 477 = .ok (.aload_n 2, 1) := by decide +kernel
theorem dL_law_478 : decode cL_law 478 = .ok (.aload_n 0, 1) := by decide +kernel
theorem dL_law_479 : decode cL_law 479 = .ok (.iload 4, 2) := by decide +kernel
theorem dL_law_481 : decode cL_law 481 = .ok (.iconst 1, 1) := by decide +kernel
theorem dL_law_482 : decode cL_law 482 = .ok (.iadd, 1) := by decide +kernel
theorem dL_law_483 : decode cL_law 483 = .ok (.iaload, 1) := by decide +kernel
theorem dL_law_484 : decode cL_law 484 = .ok (.aload_n 0, 1) := by decide +kernel
theorem dL_law_485 : decode cL_law 485 = .ok (.iload 4, 2) := by decide +kernel
theorem dL_law_487 : decode cL_law 487 = .ok (.iconst 2, 1) := by decide +kernel
theorem dL_law_488 : decode cL_law 488 = .ok (.iadd, 1) := by decide +kernel
theorem dL_law_489 : decode cL_law 489 = .ok (.iaload, 1) := by decide +kernel
theorem dL_law_490 : decode cL_law 490 = .ok (.invokevirtual 123, 3) := by decide +kernel
theorem dL_law_493 : decode cL_law 493 = .ok (.istore 6, 2) := by decide +kernel
theorem dL_law_495 : decode cL_law 495 = .ok (.aload_n 2, 1) := by decide +kernel
theorem dL_law_496 : decode cL_law 496 = .ok (.invokevirtual 106, 3) := by decide +kernel
theorem dL_law_499 : decode cL_law 499 = .ok (.iload 5, 2) := by decide +kernel
theorem dL_law_501 : decode cL_law 501 = .ok (.if_icmp .eq 5, 3) := by decide +kernel
theorem dL_law_504 : decode cL_law 504 = .ok (.iconst 0, 1) := by decide +kernel
theorem dL_law_505 : decode cL_law 505 = .ok (.ireturn, 1) := by decide +kernel
theorem dL_law_506 : decode cL_law 506 = .ok (.iload 5, 2) := by decide +kernel
theorem dL_law_508 : decode cL_law 508 = .ok (.ifCond .ne 15, 3) := by decide +kernel
theorem dL_law_511 : decode cL_law 511 = .ok (.aload_n 3, 1) := by decide +kernel
theorem dL_law_512 : decode cL_law 512 = .ok (.iconst 0, 1) := by decide +kernel
theorem dL_law_513 : decode cL_law 513 = .ok (.laload, 1) := by decide +kernel
theorem dL_law_514 : decode cL_law 514 = .ok (.iload 6, 2) := by decide +kernel
theorem dL_law_516 : decode cL_law 516 = .ok (.i2l, 1) := by decide +kernel
theorem dL_law_517 : decode cL_law 517 = .ok (.lcmp, 1) := by decide +kernel
theorem dL_law_518 : decode cL_law 518 = .ok (.ifCond .eq 5, 3) := by decide +kernel
theorem dL_law_521 : decode cL_law 521 = .ok (.iconst 0, 1) := by decide +kernel
theorem dL_law_522 : decode cL_law 522 = .ok (.ireturn, 1) := by decide +kernel
theorem dL_law_523 : decode cL_law 523 = .ok (.goto 1513, 3) := by decide +kernel
def M_L_458_458 (k Ls : Nat) (xs : Nat → Int32) (x4 : Int32) (S : VV × VV × VV × VV × VV × Int32) (T : Nat → Nat → Int32) (U : Nat → Int64) (V : Nat × Int32 × Int32 × (Nat → VV)) : Option ((VV × VV × VV × VV × VV × Int32) × (Nat → Nat → Int32) × (Nat → Int64) × (Nat × Int32 × Int32 × (Nat → VV))) := (if inb (x4 + (1 : Int32)) Ls = true then (if inb (x4 + (2 : Int32)) Ls = true then (M_L_worker k S U (xs (x4 + (1 : Int32)).toNatClampNeg) (xs (x4 + (2 : Int32)).toNatClampNeg)).bind fun q3 => (if inb (x4 + (1 : Int32)) Ls = true then (if inb (x4 + (2 : Int32)) Ls = true then (M_X10_worker k T (xs (x4 + (1 : Int32)).toNatClampNeg) (xs (x4 + (2 : Int32)).toNatClampNeg)).bind fun q6 => (M_X10_thrown k q6.2).bind fun q7 => if q7 = q3.1 then (if q3.1 = 0 then ((if inb (0 : Int32) 1 = true then if (lg_cmp (q3.2 (0 : Int32).toNatClampNeg) (q6.1.toInt64)) = 0 then (some (S, q6.2, q3.2, V)) else (none) else none)) else (some (S, q6.2, q3.2, V))) else (none) else none) else none) else none) else none)
set_option maxRecDepth 100000 in
set_option maxHeartbeats 4000000 in
theorem N_L_458_458 (C : CX E p l s m #[Value.ref bs] meth c cL_law 9 RL ret A) (a : Nat → Nat) (b : Nat → Nat) (c0 : Nat → Nat) (k Ls : Nat) (xs : Nat → Int32) (hX : va_X bs Ls xs s s.heap) (hbl : bs < s.heap.size) (hbA : ¬ A bs) (hlt : l.stackTraces = false) (hdc : DC s) (cN sN : Nat) (hcN : cN + 20 ≤ 601024 ∧ sN + 1600 ≤ 7293034) (fa : Nat → Nat → Nat) :
    ∀ (x4 : Int32) (S : VV × VV × VV × VV × VV × Int32) (T : Nat → Nat → Int32) (U : Nat → Int64) (V : Nat × Int32 × Int32 × (Nat → VV)) (q : (VV × VV × VV × VV × VV × Int32) × (Nat → Nat → Int32) × (Nat → Int64) × (Nat × Int32 × Int32 × (Nat → VV))), M_L_458_458 k Ls xs x4 S T U V = some q → (∀ fa' : Nat → Nat → Nat, WW E p l e room_1 s m #[Value.ref bs] below meth c A (cN + 20) (sN + 1600) (lw_Z below #[Value.ref bs] s) (wSg E a q.1 ++ wMd E b q.2.1 ++ wLo E c0 q.2.2.1 ++ wHi E a fa' q.2.2.2) 9 [some (.ref bs), some (.ref (a 0)), some (.ref (b 0)), some (.ref (c0 0)), some (.int x4), none, none, none, none] 2036 []) →
      WW E p l e room_1 s m #[Value.ref bs] below meth c A (cN + 0) (sN + 0) (lw_Z below #[Value.ref bs] s) (wSg E a S ++ wMd E b T ++ wLo E c0 U ++ wHi E a fa V) 9 [some (.ref bs), some (.ref (a 0)), some (.ref (b 0)), some (.ref (c0 0)), some (.int x4), none, none, none, none] 458 [] := by
  intro x4 S T U V q  h hq
  unfold M_L_458_458 at h
  refine r_aload_n (pc := 458) C (i := 1) dL_law_458 rfl rfl ?_
  refine r_aload_n (pc := 459) C (i := 0) dL_law_459 rfl rfl ?_
  refine r_iload (pc := 460) C (i := 4) dL_law_460 rfl ?_
  refine r_iconst (pc := 462) C (v := 1) dL_law_462 (by decide) ?_
  refine r_iadd (pc := 463) C dL_law_463 ?_
  obtain ⟨hi1, h⟩ := ifn h
  refine r_sld (pc := 464) C hX hbl hbA hi1 dL_law_464 ?_
  refine r_aload_n (pc := 465) C (i := 0) dL_law_465 rfl rfl ?_
  refine r_iload (pc := 466) C (i := 4) dL_law_466 rfl ?_
  refine r_iconst (pc := 468) C (v := 2) dL_law_468 (by decide) ?_
  refine r_iadd (pc := 469) C dL_law_469 ?_
  obtain ⟨hi2, h⟩ := ifn h
  refine r_sld (pc := 470) C hX hbl hbA hi2 dL_law_470 ?_
  refine r_aload_n (pc := 471) C (i := 3) dL_law_471 rfl rfl ?_
  obtain ⟨q3, hq3, h⟩ := bnd h
  refine r_callSH (pc := 472) C [.ref (a 0), .int (xs (x4 + (1 : Int32)).toNatClampNeg), .int (xs (x4 + (2 : Int32)).toNatClampNeg), .ref (c0 0)] hdc (c_L_worker E l k a (c0 0) S U (xs (x4 + (1 : Int32)).toNatClampNeg) (xs (x4 + (2 : Int32)).toNatClampNeg) hlt hq3) [0, 1, 2, 3, 4, 5, 6, 7, 8, 9, 10, 11, 12, 13, 14, 15, 16, 17, 18, 19, 20, 21, 22, 23, 24, 25, 26, 27, 28, 29, 30, 31, 32, 33, 34, 35, 36, 37, 38, 39, 40, 41, 42, 43, 44, 45, 46, 47, 48, 49, 50, 51, 52, 53, 54, 55, 56, 57, 58, 59, 60, 74] (hps_hi (List.append_assoc _ _ _).symm (hpL1 E a b c0 fa S T U V)) (by decide) gL_120 hd_L_worker.2 ⟨Nat.le_of_ble_eq_true rfl, Nat.le_of_ble_eq_true rfl⟩ ⟨by have h1 : room_1.cells = 601024 := rfl; have h2 := hcN.1; simp only [Nat.le_refl, rm_L_worker]; omega, by have h1 : room_1.slots = 7293034 := rfl; have h2 := hcN.2; simp only [Nat.le_refl, rm_L_worker]; omega⟩ (Nat.le_of_ble_eq_true rfl) rfl dL_law_472 (fun r w1 hw1 => ?_)
  obtain ⟨hr1, hw1⟩ := hw1
  subst hr1 hw1
  refine ⟨(wSg E a S ++ wMd E b T ++ wLo E c0 q3.2 ++ wHi E a fa V), putW_hi (List.append_assoc _ _ _).symm (List.append_assoc _ _ _).symm (hpL1 E a b c0 fa S T U V) rfl (pwL1 E a b c0 fa S T U V S q3.2), ?_⟩
  refine r_istore (pc := 475) C (i := 5) dL_law_475 (by decide) rfl ?_
  refine r_aload_n (pc := 477) C (i := 2) dL_law_477 rfl rfl ?_
  refine r_aload_n (pc := 478) C (i := 0) dL_law_478 rfl rfl ?_
  refine r_iload (pc := 479) C (i := 4) dL_law_479 rfl ?_
  refine r_iconst (pc := 481) C (v := 1) dL_law_481 (by decide) ?_
  refine r_iadd (pc := 482) C dL_law_482 ?_
  obtain ⟨hi4, h⟩ := ifn h
  refine r_sld (pc := 483) C hX hbl hbA hi4 dL_law_483 ?_
  refine r_aload_n (pc := 484) C (i := 0) dL_law_484 rfl rfl ?_
  refine r_iload (pc := 485) C (i := 4) dL_law_485 rfl ?_
  refine r_iconst (pc := 487) C (v := 2) dL_law_487 (by decide) ?_
  refine r_iadd (pc := 488) C dL_law_488 ?_
  obtain ⟨hi5, h⟩ := ifn h
  refine r_sld (pc := 489) C hX hbl hbA hi5 dL_law_489 ?_
  obtain ⟨q6, hq6, h⟩ := bnd h
  refine r_callV_CI (Cn := RX10) (pc := 490) C [.int (xs (x4 + (1 : Int32)).toNatClampNeg), .int (xs (x4 + (2 : Int32)).toNatClampNeg)] (c_X10_worker E l k b T (xs (x4 + (1 : Int32)).toNatClampNeg) (xs (x4 + (2 : Int32)).toNatClampNeg) hq6) [61, 62, 63, 64, 65, 66, 67, 68, 69, 70, 71, 72, 73] (hps_hi (List.append_assoc _ _ _).symm (hp_L_204_1 E a b c0 fa S T q3.2 V)) (by decide) 0 rfl rfl rfl g_L_123 hd_X10_worker ⟨Nat.le_of_ble_eq_true rfl, Nat.le_of_ble_eq_true rfl⟩ ⟨by have h1 : room_1.cells = 601024 := rfl; have h2 := hcN.1; simp only [Nat.le_refl, rm_L_worker, rm_X10_worker]; omega, by have h1 : room_1.slots = 7293034 := rfl; have h2 := hcN.2; simp only [Nat.le_refl, rm_L_worker, rm_X10_worker]; omega⟩ (Nat.le_of_ble_eq_true rfl) rfl dL_law_490 (fun r w1 hw1 => ?_)
  obtain ⟨hr1, hw1⟩ := hw1
  subst hr1 hw1
  refine ⟨(wSg E a S ++ wMd E b q6.2 ++ wLo E c0 q3.2 ++ wHi E a fa V), by exact putW_hi (List.append_assoc _ _ _).symm (List.append_assoc _ _ _).symm (hp_L_204_1 E a b c0 fa S T q3.2 V) rfl (pw_L_204_1 E a b c0 fa S T q3.2 V q6.2), ?_⟩
  refine r_istore (pc := 493) C (i := 6) dL_law_493 (by decide) rfl ?_
  refine r_aload_n (pc := 495) C (i := 2) dL_law_495 rfl rfl ?_
  obtain ⟨q7, hq7, h⟩ := bnd h
  refine r_callVp_CI (Cn := RX10) (pc := 496) C [] (c_X10_thrown E l k b q6.2 hq7) [61, 62, 63, 64, 65, 66, 67, 68, 69, 70, 71, 72, 73] (hps_hi (List.append_assoc _ _ _).symm (hp_L_204_1 E a b c0 fa S q6.2 q3.2 V)) (by decide) 0 rfl rfl rfl g_L_106 hd_X10_thrown ⟨Nat.le_of_ble_eq_true rfl, Nat.le_of_ble_eq_true rfl⟩ ⟨by have h1 : room_1.cells = 601024 := rfl; have h2 := hcN.1; simp only [Nat.le_refl, rm_L_worker, rm_X10_worker, rm_X10_thrown]; omega, by have h1 : room_1.slots = 7293034 := rfl; have h2 := hcN.2; simp only [Nat.le_refl, rm_L_worker, rm_X10_worker, rm_X10_thrown]; omega⟩ (Nat.le_of_ble_eq_true rfl) rfl dL_law_496 (fun r hr => ?_)
  have hr := hr.symm
  subst hr
  refine r_iload (pc := 499) C (i := 5) dL_law_499 rfl ?_
  refine r_icmp_eq (pc := 501) C (tgt := 506) dL_law_501 rfl (fun c8 => ?_) (fun c8 => ?_)
  · rw [if_pos c8] at h
    refine r_iload (pc := 506) C (i := 5) dL_law_506 rfl ?_
    refine r_if_ne (pc := 508) C (tgt := 523) dL_law_508 rfl (fun c9 => ?_) (fun c9 => ?_)
    · rw [if_neg c9] at h
      refine r_goto (pc := 523) C (tgt := 2036) dL_law_523 rfl ?_
      cases h
      refine r_widen (k1 := cN + 20) (n1 := sN + 1600) (by simp only [Nat.le_refl, rm_L_worker, rm_X10_worker, rm_X10_thrown]; omega) (by simp only [Nat.le_refl, rm_L_worker, rm_X10_worker, rm_X10_thrown]; omega) ?_
      refine r_weak (lSub_s (lSub_s (lSub_s (lSub_s (lSub_s (lSub_n (lSub_n (lSub_n (lSub_n lSub_e))))))))) ?_
      exact hq fa
    · rw [if_pos c9] at h
      refine r_aload_n (pc := 511) C (i := 3) dL_law_511 rfl rfl ?_
      refine r_iconst (pc := 512) C (v := 0) dL_law_512 (by decide) ?_
      obtain ⟨hi10, h⟩ := ifn h
      refine r_lald (pc := 513) C 74 rfl hi10 dL_law_513 ?_
      refine r_iload (pc := 514) C (i := 6) dL_law_514 rfl ?_
      refine r_i2l (pc := 516) C dL_law_516 ?_
      refine r_lcmp (pc := 517) C dL_law_517 ?_
      refine r_if_eq (pc := 518) C (tgt := 523) dL_law_518 rfl (fun c11 => ?_) (fun c11 => ?_)
      · rw [if_pos c11] at h
        refine r_goto (pc := 523) C (tgt := 2036) dL_law_523 rfl ?_
        cases h
        refine r_widen (k1 := cN + 20) (n1 := sN + 1600) (by simp only [Nat.le_refl, rm_L_worker, rm_X10_worker, rm_X10_thrown]; omega) (by simp only [Nat.le_refl, rm_L_worker, rm_X10_worker, rm_X10_thrown]; omega) ?_
        refine r_weak (lSub_s (lSub_s (lSub_s (lSub_s (lSub_s (lSub_n (lSub_n (lSub_n (lSub_n lSub_e))))))))) ?_
        exact hq fa
      · rw [if_neg c11] at h
        refine r_iconst (pc := 521) C (v := 0) dL_law_521 (by decide) ?_
        cases h
  · rw [if_neg c8] at h
    refine r_iconst (pc := 504) C (v := 0) dL_law_504 (by decide) ?_
    cases h
theorem hd_X10_tenant : yX10_tenant.cls = RX10 ∧ yX10_tenant.cls ≠ "java/lang/invoke/MethodHandle" ∧ yX10_tenant.cls ≠ "java/lang/invoke/VarHandle" ∧ (parseMethodDescriptor yX10_tenant.desc).map (fun d => d.parameters.length) = some 2 := by decide +kernel
theorem g_L_126 : GoodIn GW (wsV RL 126 RX10 yX10_tenant (wsG yX10_tenant cX10_tenant 3 (some .int))) := gw_V wm_6_162 wm_6_163 wm_6_164 wm_1_9 wm_6_165
theorem hd_L_tenant : yL_tenant.cls = RL ∧ yL_tenant.cls ≠ "java/lang/invoke/MethodHandle" ∧ yL_tenant.cls ≠ "java/lang/invoke/VarHandle" ∧ (parseMethodDescriptor yL_tenant.desc).map (fun d => d.parameters.length) = some 4 := by decide +kernel
theorem gL_124 : GoodIn GW (va_wsS RL 124 yL_tenant (Cond.codeWith yL_tenant cL_tenant 5 (some .int) [(0, 10, 13, 18)] :: GW)) := gw_SW wm_4_23 wm_4_24 wm_1_0 wm_4_25
-- the law from 526
theorem dL_law_526 : decode cL_law 526 = .ok (.aload_n 1, 1) := by decide +kernel
theorem dL_law_527 : decode cL_law 527 = .ok (.aload_n 0, 1) := by decide +kernel
theorem dL_law_528 : decode cL_law 528 = .ok (.iload 4, 2) := by decide +kernel
theorem dL_law_530 : decode cL_law 530 = .ok (.iconst 1, 1) := by decide +kernel
theorem dL_law_531 : decode cL_law 531 = .ok (.iadd, 1) := by decide +kernel
theorem dL_law_532 : decode cL_law 532 = .ok (.iaload, 1) := by decide +kernel
theorem dL_law_533 : decode cL_law 533 = .ok (.aload_n 0, 1) := by decide +kernel
theorem dL_law_534 : decode cL_law 534 = .ok (.iload 4, 2) := by decide +kernel
theorem dL_law_536 : decode cL_law 536 = .ok (.iconst 2, 1) := by decide +kernel
theorem dL_law_537 : decode cL_law 537 = .ok (.iadd, 1) := by decide +kernel
theorem dL_law_538 : decode cL_law 538 = .ok (.iaload, 1) := by decide +kernel
theorem dL_law_539 : decode cL_law 539 = .ok (.aload_n 3, 1) := by decide +kernel
theorem dL_law_540 : decode cL_law 540 = .ok (.invokestatic 124, 3) := by decide +kernel
theorem dL_law_543 : decode cL_law 543 = .ok (.istore 5, 2) := by decide +kernel
theorem dL_law_545 : decode cL_law 545 = .ok (.aload_n 2, 1) := by decide +kernel
theorem dL_law_546 : decode cL_law 546 = .ok (.aload_n 0, 1) := by decide +kernel
theorem dL_law_547 : decode cL_law 547 = .ok (.iload 4, 2) := by decide +kernel
theorem dL_law_549 : decode cL_law 549 = .ok (.iconst 1, 1) := by decide +kernel
theorem dL_law_550 : decode cL_law 550 = .ok (.iadd, 1) := by decide +kernel
theorem dL_law_551 : decode cL_law 551 = .ok (.iaload, 1) := by decide +kernel
theorem dL_law_552 : decode cL_law 552 = .ok (.aload_n 0, 1) := by decide +kernel
theorem dL_law_553 : decode cL_law 553 = .ok (.iload 4, 2) := by decide +kernel
theorem dL_law_555 : decode cL_law 555 = .ok (.iconst 2, 1) := by decide +kernel
theorem dL_law_556 : decode cL_law 556 = .ok (.iadd, 1) := by decide +kernel
theorem dL_law_557 : decode cL_law 557 = .ok (.iaload, 1) := by decide +kernel
theorem dL_law_558 : decode cL_law 558 = .ok (.invokevirtual 126, 3) := by decide +kernel
theorem dL_law_561 : decode cL_law 561 = .ok (.istore 6, 2) := by decide +kernel
theorem dL_law_563 : decode cL_law 563 = .ok (.aload_n 2, 1) := by decide +kernel
theorem dL_law_564 : decode cL_law 564 = .ok (.invokevirtual 106, 3) := by decide +kernel
theorem dL_law_567 : decode cL_law 567 = .ok (.iload 5, 2) := by decide +kernel
theorem dL_law_569 : decode cL_law 569 = .ok (.if_icmp .eq 5, 3) := by decide +kernel
theorem dL_law_572 : decode cL_law 572 = .ok (.iconst 0, 1) := by decide +kernel
theorem dL_law_573 : decode cL_law 573 = .ok (.ireturn, 1) := by decide +kernel
theorem dL_law_574 : decode cL_law 574 = .ok (.iload 5, 2) := by decide +kernel
theorem dL_law_576 : decode cL_law 576 = .ok (.ifCond .ne 15, 3) := by decide +kernel
theorem dL_law_579 : decode cL_law 579 = .ok (.aload_n 3, 1) := by decide +kernel
theorem dL_law_580 : decode cL_law 580 = .ok (.iconst 0, 1) := by decide +kernel
theorem dL_law_581 : decode cL_law 581 = .ok (.laload, 1) := by decide +kernel
theorem dL_law_582 : decode cL_law 582 = .ok (.iload 6, 2) := by decide +kernel
theorem dL_law_584 : decode cL_law 584 = .ok (.i2l, 1) := by decide +kernel
theorem dL_law_585 : decode cL_law 585 = .ok (.lcmp, 1) := by decide +kernel
theorem dL_law_586 : decode cL_law 586 = .ok (.ifCond .eq 5, 3) := by decide +kernel
theorem dL_law_589 : decode cL_law 589 = .ok (.iconst 0, 1) := by decide +kernel
theorem dL_law_590 : decode cL_law 590 = .ok (.ireturn, 1) := by decide +kernel
theorem dL_law_591 : decode cL_law 591 = .ok (.goto 1445, 3) := by decide +kernel
def M_L_526_526 (k Ls : Nat) (xs : Nat → Int32) (x4 : Int32) (S : VV × VV × VV × VV × VV × Int32) (T : Nat → Nat → Int32) (U : Nat → Int64) (V : Nat × Int32 × Int32 × (Nat → VV)) : Option ((VV × VV × VV × VV × VV × Int32) × (Nat → Nat → Int32) × (Nat → Int64) × (Nat × Int32 × Int32 × (Nat → VV))) := (if inb (x4 + (1 : Int32)) Ls = true then (if inb (x4 + (2 : Int32)) Ls = true then (M_L_tenant k S U (xs (x4 + (1 : Int32)).toNatClampNeg) (xs (x4 + (2 : Int32)).toNatClampNeg)).bind fun q3 => (if inb (x4 + (1 : Int32)) Ls = true then (if inb (x4 + (2 : Int32)) Ls = true then (M_X10_tenant k T (xs (x4 + (1 : Int32)).toNatClampNeg) (xs (x4 + (2 : Int32)).toNatClampNeg)).bind fun q6 => (M_X10_thrown k q6.2).bind fun q7 => if q7 = q3.1 then (if q3.1 = 0 then ((if inb (0 : Int32) 1 = true then if (lg_cmp (q3.2 (0 : Int32).toNatClampNeg) (q6.1.toInt64)) = 0 then (some (S, q6.2, q3.2, V)) else (none) else none)) else (some (S, q6.2, q3.2, V))) else (none) else none) else none) else none) else none)
set_option maxRecDepth 100000 in
set_option maxHeartbeats 4000000 in
theorem N_L_526_526 (C : CX E p l s m #[Value.ref bs] meth c cL_law 9 RL ret A) (a : Nat → Nat) (b : Nat → Nat) (c0 : Nat → Nat) (k Ls : Nat) (xs : Nat → Int32) (hX : va_X bs Ls xs s s.heap) (hbl : bs < s.heap.size) (hbA : ¬ A bs) (hlt : l.stackTraces = false) (hdc : DC s) (cN sN : Nat) (hcN : cN + 20 ≤ 601024 ∧ sN + 1600 ≤ 7293034) (fa : Nat → Nat → Nat) :
    ∀ (x4 : Int32) (S : VV × VV × VV × VV × VV × Int32) (T : Nat → Nat → Int32) (U : Nat → Int64) (V : Nat × Int32 × Int32 × (Nat → VV)) (q : (VV × VV × VV × VV × VV × Int32) × (Nat → Nat → Int32) × (Nat → Int64) × (Nat × Int32 × Int32 × (Nat → VV))), M_L_526_526 k Ls xs x4 S T U V = some q → (∀ fa' : Nat → Nat → Nat, WW E p l e room_1 s m #[Value.ref bs] below meth c A (cN + 20) (sN + 1600) (lw_Z below #[Value.ref bs] s) (wSg E a q.1 ++ wMd E b q.2.1 ++ wLo E c0 q.2.2.1 ++ wHi E a fa' q.2.2.2) 9 [some (.ref bs), some (.ref (a 0)), some (.ref (b 0)), some (.ref (c0 0)), some (.int x4), none, none, none, none] 2036 []) →
      WW E p l e room_1 s m #[Value.ref bs] below meth c A (cN + 0) (sN + 0) (lw_Z below #[Value.ref bs] s) (wSg E a S ++ wMd E b T ++ wLo E c0 U ++ wHi E a fa V) 9 [some (.ref bs), some (.ref (a 0)), some (.ref (b 0)), some (.ref (c0 0)), some (.int x4), none, none, none, none] 526 [] := by
  intro x4 S T U V q  h hq
  unfold M_L_526_526 at h
  refine r_aload_n (pc := 526) C (i := 1) dL_law_526 rfl rfl ?_
  refine r_aload_n (pc := 527) C (i := 0) dL_law_527 rfl rfl ?_
  refine r_iload (pc := 528) C (i := 4) dL_law_528 rfl ?_
  refine r_iconst (pc := 530) C (v := 1) dL_law_530 (by decide) ?_
  refine r_iadd (pc := 531) C dL_law_531 ?_
  obtain ⟨hi1, h⟩ := ifn h
  refine r_sld (pc := 532) C hX hbl hbA hi1 dL_law_532 ?_
  refine r_aload_n (pc := 533) C (i := 0) dL_law_533 rfl rfl ?_
  refine r_iload (pc := 534) C (i := 4) dL_law_534 rfl ?_
  refine r_iconst (pc := 536) C (v := 2) dL_law_536 (by decide) ?_
  refine r_iadd (pc := 537) C dL_law_537 ?_
  obtain ⟨hi2, h⟩ := ifn h
  refine r_sld (pc := 538) C hX hbl hbA hi2 dL_law_538 ?_
  refine r_aload_n (pc := 539) C (i := 3) dL_law_539 rfl rfl ?_
  obtain ⟨q3, hq3, h⟩ := bnd h
  refine r_callSH (pc := 540) C [.ref (a 0), .int (xs (x4 + (1 : Int32)).toNatClampNeg), .int (xs (x4 + (2 : Int32)).toNatClampNeg), .ref (c0 0)] hdc (c_L_tenant E l k a (c0 0) S U (xs (x4 + (1 : Int32)).toNatClampNeg) (xs (x4 + (2 : Int32)).toNatClampNeg) hlt hq3) [0, 1, 2, 3, 4, 5, 6, 7, 8, 9, 10, 11, 12, 13, 14, 15, 16, 17, 18, 19, 20, 21, 22, 23, 24, 25, 26, 27, 28, 29, 30, 31, 32, 33, 34, 35, 36, 37, 38, 39, 40, 41, 42, 43, 44, 45, 46, 47, 48, 49, 50, 51, 52, 53, 54, 55, 56, 57, 58, 59, 60, 74] (hps_hi (List.append_assoc _ _ _).symm (hpL1 E a b c0 fa S T U V)) (by decide) gL_124 hd_L_tenant.2 ⟨Nat.le_of_ble_eq_true rfl, Nat.le_of_ble_eq_true rfl⟩ ⟨by have h1 : room_1.cells = 601024 := rfl; have h2 := hcN.1; simp only [Nat.le_refl, rm_L_tenant]; omega, by have h1 : room_1.slots = 7293034 := rfl; have h2 := hcN.2; simp only [Nat.le_refl, rm_L_tenant]; omega⟩ (Nat.le_of_ble_eq_true rfl) rfl dL_law_540 (fun r w1 hw1 => ?_)
  obtain ⟨hr1, hw1⟩ := hw1
  subst hr1 hw1
  refine ⟨(wSg E a S ++ wMd E b T ++ wLo E c0 q3.2 ++ wHi E a fa V), putW_hi (List.append_assoc _ _ _).symm (List.append_assoc _ _ _).symm (hpL1 E a b c0 fa S T U V) rfl (pwL1 E a b c0 fa S T U V S q3.2), ?_⟩
  refine r_istore (pc := 543) C (i := 5) dL_law_543 (by decide) rfl ?_
  refine r_aload_n (pc := 545) C (i := 2) dL_law_545 rfl rfl ?_
  refine r_aload_n (pc := 546) C (i := 0) dL_law_546 rfl rfl ?_
  refine r_iload (pc := 547) C (i := 4) dL_law_547 rfl ?_
  refine r_iconst (pc := 549) C (v := 1) dL_law_549 (by decide) ?_
  refine r_iadd (pc := 550) C dL_law_550 ?_
  obtain ⟨hi4, h⟩ := ifn h
  refine r_sld (pc := 551) C hX hbl hbA hi4 dL_law_551 ?_
  refine r_aload_n (pc := 552) C (i := 0) dL_law_552 rfl rfl ?_
  refine r_iload (pc := 553) C (i := 4) dL_law_553 rfl ?_
  refine r_iconst (pc := 555) C (v := 2) dL_law_555 (by decide) ?_
  refine r_iadd (pc := 556) C dL_law_556 ?_
  obtain ⟨hi5, h⟩ := ifn h
  refine r_sld (pc := 557) C hX hbl hbA hi5 dL_law_557 ?_
  obtain ⟨q6, hq6, h⟩ := bnd h
  refine r_callV_CI (Cn := RX10) (pc := 558) C [.int (xs (x4 + (1 : Int32)).toNatClampNeg), .int (xs (x4 + (2 : Int32)).toNatClampNeg)] (c_X10_tenant E l k b T (xs (x4 + (1 : Int32)).toNatClampNeg) (xs (x4 + (2 : Int32)).toNatClampNeg) hq6) [61, 62, 63, 64, 65, 66, 67, 68, 69, 70, 71, 72, 73] (hps_hi (List.append_assoc _ _ _).symm (hp_L_204_1 E a b c0 fa S T q3.2 V)) (by decide) 0 rfl rfl rfl g_L_126 hd_X10_tenant ⟨Nat.le_of_ble_eq_true rfl, Nat.le_of_ble_eq_true rfl⟩ ⟨by have h1 : room_1.cells = 601024 := rfl; have h2 := hcN.1; simp only [Nat.le_refl, rm_L_tenant, rm_X10_tenant]; omega, by have h1 : room_1.slots = 7293034 := rfl; have h2 := hcN.2; simp only [Nat.le_refl, rm_L_tenant, rm_X10_tenant]; omega⟩ (Nat.le_of_ble_eq_true rfl) rfl dL_law_558 (fun r w1 hw1 => ?_)
  obtain ⟨hr1, hw1⟩ := hw1
  subst hr1 hw1
  refine ⟨(wSg E a S ++ wMd E b q6.2 ++ wLo E c0 q3.2 ++ wHi E a fa V), by exact putW_hi (List.append_assoc _ _ _).symm (List.append_assoc _ _ _).symm (hp_L_204_1 E a b c0 fa S T q3.2 V) rfl (pw_L_204_1 E a b c0 fa S T q3.2 V q6.2), ?_⟩
  refine r_istore (pc := 561) C (i := 6) dL_law_561 (by decide) rfl ?_
  refine r_aload_n (pc := 563) C (i := 2) dL_law_563 rfl rfl ?_
  obtain ⟨q7, hq7, h⟩ := bnd h
  refine r_callVp_CI (Cn := RX10) (pc := 564) C [] (c_X10_thrown E l k b q6.2 hq7) [61, 62, 63, 64, 65, 66, 67, 68, 69, 70, 71, 72, 73] (hps_hi (List.append_assoc _ _ _).symm (hp_L_204_1 E a b c0 fa S q6.2 q3.2 V)) (by decide) 0 rfl rfl rfl g_L_106 hd_X10_thrown ⟨Nat.le_of_ble_eq_true rfl, Nat.le_of_ble_eq_true rfl⟩ ⟨by have h1 : room_1.cells = 601024 := rfl; have h2 := hcN.1; simp only [Nat.le_refl, rm_L_tenant, rm_X10_tenant, rm_X10_thrown]; omega, by have h1 : room_1.slots = 7293034 := rfl; have h2 := hcN.2; simp only [Nat.le_refl, rm_L_tenant, rm_X10_tenant, rm_X10_thrown]; omega⟩ (Nat.le_of_ble_eq_true rfl) rfl dL_law_564 (fun r hr => ?_)
  have hr := hr.symm
  subst hr
  refine r_iload (pc := 567) C (i := 5) dL_law_567 rfl ?_
  refine r_icmp_eq (pc := 569) C (tgt := 574) dL_law_569 rfl (fun c8 => ?_) (fun c8 => ?_)
  · rw [if_pos c8] at h
    refine r_iload (pc := 574) C (i := 5) dL_law_574 rfl ?_
    refine r_if_ne (pc := 576) C (tgt := 591) dL_law_576 rfl (fun c9 => ?_) (fun c9 => ?_)
    · rw [if_neg c9] at h
      refine r_goto (pc := 591) C (tgt := 2036) dL_law_591 rfl ?_
      cases h
      refine r_widen (k1 := cN + 20) (n1 := sN + 1600) (by simp only [Nat.le_refl, rm_L_tenant, rm_X10_tenant, rm_X10_thrown]; omega) (by simp only [Nat.le_refl, rm_L_tenant, rm_X10_tenant, rm_X10_thrown]; omega) ?_
      refine r_weak (lSub_s (lSub_s (lSub_s (lSub_s (lSub_s (lSub_n (lSub_n (lSub_n (lSub_n lSub_e))))))))) ?_
      exact hq fa
    · rw [if_pos c9] at h
      refine r_aload_n (pc := 579) C (i := 3) dL_law_579 rfl rfl ?_
      refine r_iconst (pc := 580) C (v := 0) dL_law_580 (by decide) ?_
      obtain ⟨hi10, h⟩ := ifn h
      refine r_lald (pc := 581) C 74 rfl hi10 dL_law_581 ?_
      refine r_iload (pc := 582) C (i := 6) dL_law_582 rfl ?_
      refine r_i2l (pc := 584) C dL_law_584 ?_
      refine r_lcmp (pc := 585) C dL_law_585 ?_
      refine r_if_eq (pc := 586) C (tgt := 591) dL_law_586 rfl (fun c11 => ?_) (fun c11 => ?_)
      · rw [if_pos c11] at h
        refine r_goto (pc := 591) C (tgt := 2036) dL_law_591 rfl ?_
        cases h
        refine r_widen (k1 := cN + 20) (n1 := sN + 1600) (by simp only [Nat.le_refl, rm_L_tenant, rm_X10_tenant, rm_X10_thrown]; omega) (by simp only [Nat.le_refl, rm_L_tenant, rm_X10_tenant, rm_X10_thrown]; omega) ?_
        refine r_weak (lSub_s (lSub_s (lSub_s (lSub_s (lSub_s (lSub_n (lSub_n (lSub_n (lSub_n lSub_e))))))))) ?_
        exact hq fa
      · rw [if_neg c11] at h
        refine r_iconst (pc := 589) C (v := 0) dL_law_589 (by decide) ?_
        cases h
  · rw [if_neg c8] at h
    refine r_iconst (pc := 572) C (v := 0) dL_law_572 (by decide) ?_
    cases h
theorem hd_X10_request : yX10_request.cls = RX10 ∧ yX10_request.cls ≠ "java/lang/invoke/MethodHandle" ∧ yX10_request.cls ≠ "java/lang/invoke/VarHandle" ∧ (parseMethodDescriptor yX10_request.desc).map (fun d => d.parameters.length) = some 2 := by decide +kernel
theorem g_L_129 : GoodIn GW (wsV RL 129 RX10 yX10_request (wsG yX10_request cX10_request 3 (some .int))) := gw_V wm_6_178 wm_6_179 wm_6_180 wm_1_9 wm_6_181
theorem hd_L_request : yL_request.cls = RL ∧ yL_request.cls ≠ "java/lang/invoke/MethodHandle" ∧ yL_request.cls ≠ "java/lang/invoke/VarHandle" ∧ (parseMethodDescriptor yL_request.desc).map (fun d => d.parameters.length) = some 4 := by decide +kernel
theorem gL_127 : GoodIn GW (va_wsS RL 127 yL_request (Cond.codeWith yL_request cL_request 5 (some .int) [(0, 10, 13, 18)] :: GW)) := gw_SW wm_4_61 wm_4_62 wm_1_0 wm_4_63
-- the law from 594
theorem dL_law_594 : decode cL_law 594 = .ok (.aload_n 1, 1) := by decide +kernel
theorem dL_law_595 : decode cL_law 595 = .ok (.aload_n 0, 1) := by decide +kernel
theorem dL_law_596 : decode cL_law 596 = .ok (.iload 4, 2) := by decide +kernel
theorem dL_law_598 : decode cL_law 598 = .ok (.iconst 1, 1) := by decide +kernel
theorem dL_law_599 : decode cL_law 599 = .ok (.iadd, 1) := by decide +kernel
theorem dL_law_600 : decode cL_law 600 = .ok (.iaload, 1) := by decide +kernel
theorem dL_law_601 : decode cL_law 601 = .ok (.aload_n 0, 1) := by decide +kernel
theorem dL_law_602 : decode cL_law 602 = .ok (.iload 4, 2) := by decide +kernel
theorem dL_law_604 : decode cL_law 604 = .ok (.iconst 2, 1) := by decide +kernel
theorem dL_law_605 : decode cL_law 605 = .ok (.iadd, 1) := by decide +kernel
theorem dL_law_606 : decode cL_law 606 = .ok (.iaload, 1) := by decide +kernel
theorem dL_law_607 : decode cL_law 607 = .ok (.aload_n 3, 1) := by decide +kernel
theorem dL_law_608 : decode cL_law 608 = .ok (.invokestatic 127, 3) := by decide +kernel
theorem dL_law_611 : decode cL_law 611 = .ok (.istore 5, 2) := by decide +kernel
theorem dL_law_613 : decode cL_law 613 = .ok (.aload_n 2, 1) := by decide +kernel
theorem dL_law_614 : decode cL_law 614 = .ok (.aload_n 0, 1) := by decide +kernel
theorem dL_law_615 : decode cL_law 615 = .ok (.iload 4, 2) := by decide +kernel
theorem dL_law_617 : decode cL_law 617 = .ok (.iconst 1, 1) := by decide +kernel
theorem dL_law_618 : decode cL_law 618 = .ok (.iadd, 1) := by decide +kernel
theorem dL_law_619 : decode cL_law 619 = .ok (.iaload, 1) := by decide +kernel
theorem dL_law_620 : decode cL_law 620 = .ok (.aload_n 0, 1) := by decide +kernel
theorem dL_law_621 : decode cL_law 621 = .ok (.iload 4, 2) := by decide +kernel
theorem dL_law_623 : decode cL_law 623 = .ok (.iconst 2, 1) := by decide +kernel
theorem dL_law_624 : decode cL_law 624 = .ok (.iadd, 1) := by decide +kernel
theorem dL_law_625 : decode cL_law 625 = .ok (.iaload, 1) := by decide +kernel
theorem dL_law_626 : decode cL_law 626 = .ok (.invokevirtual 129, 3) := by decide +kernel
theorem dL_law_629 : decode cL_law 629 = .ok (.istore 6, 2) := by decide +kernel
theorem dL_law_631 : decode cL_law 631 = .ok (.aload_n 2, 1) := by decide +kernel
theorem dL_law_632 : decode cL_law 632 = .ok (.invokevirtual 106, 3) := by decide +kernel
theorem dL_law_635 : decode cL_law 635 = .ok (.iload 5, 2) := by decide +kernel
theorem dL_law_637 : decode cL_law 637 = .ok (.if_icmp .eq 5, 3) := by decide +kernel
theorem dL_law_640 : decode cL_law 640 = .ok (.iconst 0, 1) := by decide +kernel
theorem dL_law_641 : decode cL_law 641 = .ok (.ireturn, 1) := by decide +kernel
theorem dL_law_642 : decode cL_law 642 = .ok (.iload 5, 2) := by decide +kernel
theorem dL_law_644 : decode cL_law 644 = .ok (.ifCond .ne 15, 3) := by decide +kernel
theorem dL_law_647 : decode cL_law 647 = .ok (.aload_n 3, 1) := by decide +kernel
theorem dL_law_648 : decode cL_law 648 = .ok (.iconst 0, 1) := by decide +kernel
theorem dL_law_649 : decode cL_law 649 = .ok (.laload, 1) := by decide +kernel
theorem dL_law_650 : decode cL_law 650 = .ok (.iload 6, 2) := by decide +kernel
theorem dL_law_652 : decode cL_law 652 = .ok (.i2l, 1) := by decide +kernel
theorem dL_law_653 : decode cL_law 653 = .ok (.lcmp, 1) := by decide +kernel
theorem dL_law_654 : decode cL_law 654 = .ok (.ifCond .eq 5, 3) := by decide +kernel
theorem dL_law_657 : decode cL_law 657 = .ok (.iconst 0, 1) := by decide +kernel
theorem dL_law_658 : decode cL_law 658 = .ok (.ireturn, 1) := by decide +kernel
theorem dL_law_659 : decode cL_law 659 = .ok (.goto 1377, 3) := by decide +kernel
def M_L_594_594 (k Ls : Nat) (xs : Nat → Int32) (x4 : Int32) (S : VV × VV × VV × VV × VV × Int32) (T : Nat → Nat → Int32) (U : Nat → Int64) (V : Nat × Int32 × Int32 × (Nat → VV)) : Option ((VV × VV × VV × VV × VV × Int32) × (Nat → Nat → Int32) × (Nat → Int64) × (Nat × Int32 × Int32 × (Nat → VV))) := (if inb (x4 + (1 : Int32)) Ls = true then (if inb (x4 + (2 : Int32)) Ls = true then (M_L_request k S U (xs (x4 + (1 : Int32)).toNatClampNeg) (xs (x4 + (2 : Int32)).toNatClampNeg)).bind fun q3 => (if inb (x4 + (1 : Int32)) Ls = true then (if inb (x4 + (2 : Int32)) Ls = true then (M_X10_request k T (xs (x4 + (1 : Int32)).toNatClampNeg) (xs (x4 + (2 : Int32)).toNatClampNeg)).bind fun q6 => (M_X10_thrown k q6.2).bind fun q7 => if q7 = q3.1 then (if q3.1 = 0 then ((if inb (0 : Int32) 1 = true then if (lg_cmp (q3.2 (0 : Int32).toNatClampNeg) (q6.1.toInt64)) = 0 then (some (S, q6.2, q3.2, V)) else (none) else none)) else (some (S, q6.2, q3.2, V))) else (none) else none) else none) else none) else none)
set_option maxRecDepth 100000 in
set_option maxHeartbeats 4000000 in
theorem N_L_594_594 (C : CX E p l s m #[Value.ref bs] meth c cL_law 9 RL ret A) (a : Nat → Nat) (b : Nat → Nat) (c0 : Nat → Nat) (k Ls : Nat) (xs : Nat → Int32) (hX : va_X bs Ls xs s s.heap) (hbl : bs < s.heap.size) (hbA : ¬ A bs) (hlt : l.stackTraces = false) (hdc : DC s) (cN sN : Nat) (hcN : cN + 20 ≤ 601024 ∧ sN + 1600 ≤ 7293034) (fa : Nat → Nat → Nat) :
    ∀ (x4 : Int32) (S : VV × VV × VV × VV × VV × Int32) (T : Nat → Nat → Int32) (U : Nat → Int64) (V : Nat × Int32 × Int32 × (Nat → VV)) (q : (VV × VV × VV × VV × VV × Int32) × (Nat → Nat → Int32) × (Nat → Int64) × (Nat × Int32 × Int32 × (Nat → VV))), M_L_594_594 k Ls xs x4 S T U V = some q → (∀ fa' : Nat → Nat → Nat, WW E p l e room_1 s m #[Value.ref bs] below meth c A (cN + 20) (sN + 1600) (lw_Z below #[Value.ref bs] s) (wSg E a q.1 ++ wMd E b q.2.1 ++ wLo E c0 q.2.2.1 ++ wHi E a fa' q.2.2.2) 9 [some (.ref bs), some (.ref (a 0)), some (.ref (b 0)), some (.ref (c0 0)), some (.int x4), none, none, none, none] 2036 []) →
      WW E p l e room_1 s m #[Value.ref bs] below meth c A (cN + 0) (sN + 0) (lw_Z below #[Value.ref bs] s) (wSg E a S ++ wMd E b T ++ wLo E c0 U ++ wHi E a fa V) 9 [some (.ref bs), some (.ref (a 0)), some (.ref (b 0)), some (.ref (c0 0)), some (.int x4), none, none, none, none] 594 [] := by
  intro x4 S T U V q  h hq
  unfold M_L_594_594 at h
  refine r_aload_n (pc := 594) C (i := 1) dL_law_594 rfl rfl ?_
  refine r_aload_n (pc := 595) C (i := 0) dL_law_595 rfl rfl ?_
  refine r_iload (pc := 596) C (i := 4) dL_law_596 rfl ?_
  refine r_iconst (pc := 598) C (v := 1) dL_law_598 (by decide) ?_
  refine r_iadd (pc := 599) C dL_law_599 ?_
  obtain ⟨hi1, h⟩ := ifn h
  refine r_sld (pc := 600) C hX hbl hbA hi1 dL_law_600 ?_
  refine r_aload_n (pc := 601) C (i := 0) dL_law_601 rfl rfl ?_
  refine r_iload (pc := 602) C (i := 4) dL_law_602 rfl ?_
  refine r_iconst (pc := 604) C (v := 2) dL_law_604 (by decide) ?_
  refine r_iadd (pc := 605) C dL_law_605 ?_
  obtain ⟨hi2, h⟩ := ifn h
  refine r_sld (pc := 606) C hX hbl hbA hi2 dL_law_606 ?_
  refine r_aload_n (pc := 607) C (i := 3) dL_law_607 rfl rfl ?_
  obtain ⟨q3, hq3, h⟩ := bnd h
  refine r_callSH (pc := 608) C [.ref (a 0), .int (xs (x4 + (1 : Int32)).toNatClampNeg), .int (xs (x4 + (2 : Int32)).toNatClampNeg), .ref (c0 0)] hdc (c_L_request E l k a (c0 0) S U (xs (x4 + (1 : Int32)).toNatClampNeg) (xs (x4 + (2 : Int32)).toNatClampNeg) hlt hq3) [0, 1, 2, 3, 4, 5, 6, 7, 8, 9, 10, 11, 12, 13, 14, 15, 16, 17, 18, 19, 20, 21, 22, 23, 24, 25, 26, 27, 28, 29, 30, 31, 32, 33, 34, 35, 36, 37, 38, 39, 40, 41, 42, 43, 44, 45, 46, 47, 48, 49, 50, 51, 52, 53, 54, 55, 56, 57, 58, 59, 60, 74] (hps_hi (List.append_assoc _ _ _).symm (hpL1 E a b c0 fa S T U V)) (by decide) gL_127 hd_L_request.2 ⟨Nat.le_of_ble_eq_true rfl, Nat.le_of_ble_eq_true rfl⟩ ⟨by have h1 : room_1.cells = 601024 := rfl; have h2 := hcN.1; simp only [Nat.le_refl, rm_L_request]; omega, by have h1 : room_1.slots = 7293034 := rfl; have h2 := hcN.2; simp only [Nat.le_refl, rm_L_request]; omega⟩ (Nat.le_of_ble_eq_true rfl) rfl dL_law_608 (fun r w1 hw1 => ?_)
  obtain ⟨hr1, hw1⟩ := hw1
  subst hr1 hw1
  refine ⟨(wSg E a S ++ wMd E b T ++ wLo E c0 q3.2 ++ wHi E a fa V), putW_hi (List.append_assoc _ _ _).symm (List.append_assoc _ _ _).symm (hpL1 E a b c0 fa S T U V) rfl (pwL1 E a b c0 fa S T U V S q3.2), ?_⟩
  refine r_istore (pc := 611) C (i := 5) dL_law_611 (by decide) rfl ?_
  refine r_aload_n (pc := 613) C (i := 2) dL_law_613 rfl rfl ?_
  refine r_aload_n (pc := 614) C (i := 0) dL_law_614 rfl rfl ?_
  refine r_iload (pc := 615) C (i := 4) dL_law_615 rfl ?_
  refine r_iconst (pc := 617) C (v := 1) dL_law_617 (by decide) ?_
  refine r_iadd (pc := 618) C dL_law_618 ?_
  obtain ⟨hi4, h⟩ := ifn h
  refine r_sld (pc := 619) C hX hbl hbA hi4 dL_law_619 ?_
  refine r_aload_n (pc := 620) C (i := 0) dL_law_620 rfl rfl ?_
  refine r_iload (pc := 621) C (i := 4) dL_law_621 rfl ?_
  refine r_iconst (pc := 623) C (v := 2) dL_law_623 (by decide) ?_
  refine r_iadd (pc := 624) C dL_law_624 ?_
  obtain ⟨hi5, h⟩ := ifn h
  refine r_sld (pc := 625) C hX hbl hbA hi5 dL_law_625 ?_
  obtain ⟨q6, hq6, h⟩ := bnd h
  refine r_callV_CI (Cn := RX10) (pc := 626) C [.int (xs (x4 + (1 : Int32)).toNatClampNeg), .int (xs (x4 + (2 : Int32)).toNatClampNeg)] (c_X10_request E l k b T (xs (x4 + (1 : Int32)).toNatClampNeg) (xs (x4 + (2 : Int32)).toNatClampNeg) hq6) [61, 62, 63, 64, 65, 66, 67, 68, 69, 70, 71, 72, 73] (hps_hi (List.append_assoc _ _ _).symm (hp_L_204_1 E a b c0 fa S T q3.2 V)) (by decide) 0 rfl rfl rfl g_L_129 hd_X10_request ⟨Nat.le_of_ble_eq_true rfl, Nat.le_of_ble_eq_true rfl⟩ ⟨by have h1 : room_1.cells = 601024 := rfl; have h2 := hcN.1; simp only [Nat.le_refl, rm_L_request, rm_X10_request]; omega, by have h1 : room_1.slots = 7293034 := rfl; have h2 := hcN.2; simp only [Nat.le_refl, rm_L_request, rm_X10_request]; omega⟩ (Nat.le_of_ble_eq_true rfl) rfl dL_law_626 (fun r w1 hw1 => ?_)
  obtain ⟨hr1, hw1⟩ := hw1
  subst hr1 hw1
  refine ⟨(wSg E a S ++ wMd E b q6.2 ++ wLo E c0 q3.2 ++ wHi E a fa V), by exact putW_hi (List.append_assoc _ _ _).symm (List.append_assoc _ _ _).symm (hp_L_204_1 E a b c0 fa S T q3.2 V) rfl (pw_L_204_1 E a b c0 fa S T q3.2 V q6.2), ?_⟩
  refine r_istore (pc := 629) C (i := 6) dL_law_629 (by decide) rfl ?_
  refine r_aload_n (pc := 631) C (i := 2) dL_law_631 rfl rfl ?_
  obtain ⟨q7, hq7, h⟩ := bnd h
  refine r_callVp_CI (Cn := RX10) (pc := 632) C [] (c_X10_thrown E l k b q6.2 hq7) [61, 62, 63, 64, 65, 66, 67, 68, 69, 70, 71, 72, 73] (hps_hi (List.append_assoc _ _ _).symm (hp_L_204_1 E a b c0 fa S q6.2 q3.2 V)) (by decide) 0 rfl rfl rfl g_L_106 hd_X10_thrown ⟨Nat.le_of_ble_eq_true rfl, Nat.le_of_ble_eq_true rfl⟩ ⟨by have h1 : room_1.cells = 601024 := rfl; have h2 := hcN.1; simp only [Nat.le_refl, rm_L_request, rm_X10_request, rm_X10_thrown]; omega, by have h1 : room_1.slots = 7293034 := rfl; have h2 := hcN.2; simp only [Nat.le_refl, rm_L_request, rm_X10_request, rm_X10_thrown]; omega⟩ (Nat.le_of_ble_eq_true rfl) rfl dL_law_632 (fun r hr => ?_)
  have hr := hr.symm
  subst hr
  refine r_iload (pc := 635) C (i := 5) dL_law_635 rfl ?_
  refine r_icmp_eq (pc := 637) C (tgt := 642) dL_law_637 rfl (fun c8 => ?_) (fun c8 => ?_)
  · rw [if_pos c8] at h
    refine r_iload (pc := 642) C (i := 5) dL_law_642 rfl ?_
    refine r_if_ne (pc := 644) C (tgt := 659) dL_law_644 rfl (fun c9 => ?_) (fun c9 => ?_)
    · rw [if_neg c9] at h
      refine r_goto (pc := 659) C (tgt := 2036) dL_law_659 rfl ?_
      cases h
      refine r_widen (k1 := cN + 20) (n1 := sN + 1600) (by simp only [Nat.le_refl, rm_L_request, rm_X10_request, rm_X10_thrown]; omega) (by simp only [Nat.le_refl, rm_L_request, rm_X10_request, rm_X10_thrown]; omega) ?_
      refine r_weak (lSub_s (lSub_s (lSub_s (lSub_s (lSub_s (lSub_n (lSub_n (lSub_n (lSub_n lSub_e))))))))) ?_
      exact hq fa
    · rw [if_pos c9] at h
      refine r_aload_n (pc := 647) C (i := 3) dL_law_647 rfl rfl ?_
      refine r_iconst (pc := 648) C (v := 0) dL_law_648 (by decide) ?_
      obtain ⟨hi10, h⟩ := ifn h
      refine r_lald (pc := 649) C 74 rfl hi10 dL_law_649 ?_
      refine r_iload (pc := 650) C (i := 6) dL_law_650 rfl ?_
      refine r_i2l (pc := 652) C dL_law_652 ?_
      refine r_lcmp (pc := 653) C dL_law_653 ?_
      refine r_if_eq (pc := 654) C (tgt := 659) dL_law_654 rfl (fun c11 => ?_) (fun c11 => ?_)
      · rw [if_pos c11] at h
        refine r_goto (pc := 659) C (tgt := 2036) dL_law_659 rfl ?_
        cases h
        refine r_widen (k1 := cN + 20) (n1 := sN + 1600) (by simp only [Nat.le_refl, rm_L_request, rm_X10_request, rm_X10_thrown]; omega) (by simp only [Nat.le_refl, rm_L_request, rm_X10_request, rm_X10_thrown]; omega) ?_
        refine r_weak (lSub_s (lSub_s (lSub_s (lSub_s (lSub_s (lSub_n (lSub_n (lSub_n (lSub_n lSub_e))))))))) ?_
        exact hq fa
      · rw [if_neg c11] at h
        refine r_iconst (pc := 657) C (v := 0) dL_law_657 (by decide) ?_
        cases h
  · rw [if_neg c8] at h
    refine r_iconst (pc := 640) C (v := 0) dL_law_640 (by decide) ?_
    cases h
end WALKS
