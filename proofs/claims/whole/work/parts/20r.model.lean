section WALKS
variable {E : ENV} {p : Program} {l : Launch} {e : Env} {s : State} {m : MethodId} {args : Array Value} {below : List Frame} {meth : Method} {c : Code} {A : Nat → Prop}
theorem hd_X10_accept : yX10_accept.cls = RX10 ∧ yX10_accept.cls ≠ "java/lang/invoke/MethodHandle" ∧ yX10_accept.cls ≠ "java/lang/invoke/VarHandle" ∧ (parseMethodDescriptor yX10_accept.desc).map (fun d => d.parameters.length) = some 1 := by decide +kernel
theorem g_X10_422 : GoodIn GW (wsV RX10 422 RX10 yX10_accept (wsG yX10_accept cX10_accept 3 (some .boolean))) := gw_V wm_8_63 wm_8_65 wm_0_97 wm_1_9 wm_8_66
theorem hd_X10_layRequest : yX10_layRequest.cls = RX10 ∧ yX10_layRequest.cls ≠ "java/lang/invoke/MethodHandle" ∧ yX10_layRequest.cls ≠ "java/lang/invoke/VarHandle" ∧ (parseMethodDescriptor yX10_layRequest.desc).map (fun d => d.parameters.length) = some 3 := by decide +kernel
theorem g_X10_242 : GoodIn GW (wsV RX10 242 RX10 yX10_layRequest (wsG yX10_layRequest cX10_layRequest 5 none)) := gw_V wm_7_39 wm_7_41 wm_0_56 wm_1_9 wm_7_42
-- ShardGuardModel.readRequest()V
theorem dX10_readRequest_0 : decode cX10_readRequest 0 = .ok (.aload_n 0, 1) := by decide +kernel
theorem dX10_readRequest_1 : decode cX10_readRequest 1 = .ok (.aload_n 0, 1) := by decide +kernel
theorem dX10_readRequest_2 : decode cX10_readRequest 2 = .ok (.getfield 13, 3) := by decide +kernel
theorem dX10_readRequest_5 : decode cX10_readRequest 5 = .ok (.iconst 3, 1) := by decide +kernel
theorem dX10_readRequest_6 : decode cX10_readRequest 6 = .ok (.iaload, 1) := by decide +kernel
theorem dX10_readRequest_7 : decode cX10_readRequest 7 = .ok (.bipush 60, 2) := by decide +kernel
theorem dX10_readRequest_9 : decode cX10_readRequest 9 = .ok (.if_icmp .ge 7, 3) := by decide +kernel
theorem dX10_readRequest_12 : decode cX10_readRequest 12 = .ok (.iconst 1, 1) := by decide +kernel
theorem dX10_readRequest_13 : decode cX10_readRequest 13 = .ok (.goto 4, 3) := by decide +kernel
theorem dX10_readRequest_16 : decode cX10_readRequest 16 = .ok (.iconst 0, 1) := by decide +kernel
theorem dX10_readRequest_17 : decode cX10_readRequest 17 = .ok (.iconst 3, 1) := by decide +kernel
theorem dX10_readRequest_18 : decode cX10_readRequest 18 = .ok (.invokevirtual 394, 3) := by decide +kernel
theorem dX10_readRequest_21 : decode cX10_readRequest 21 = .ok (.aload_n 0, 1) := by decide +kernel
theorem dX10_readRequest_22 : decode cX10_readRequest 22 = .ok (.invokevirtual 398, 3) := by decide +kernel
theorem dX10_readRequest_25 : decode cX10_readRequest 25 = .ok (.aload_n 0, 1) := by decide +kernel
theorem dX10_readRequest_26 : decode cX10_readRequest 26 = .ok (.iconst 0, 1) := by decide +kernel
theorem dX10_readRequest_27 : decode cX10_readRequest 27 = .ok (.aload_n 0, 1) := by decide +kernel
theorem dX10_readRequest_28 : decode cX10_readRequest 28 = .ok (.getfield 13, 3) := by decide +kernel
theorem dX10_readRequest_31 : decode cX10_readRequest 31 = .ok (.iconst 2, 1) := by decide +kernel
theorem dX10_readRequest_32 : decode cX10_readRequest 32 = .ok (.iaload, 1) := by decide +kernel
theorem dX10_readRequest_33 : decode cX10_readRequest 33 = .ok (.iconst 1, 1) := by decide +kernel
theorem dX10_readRequest_34 : decode cX10_readRequest 34 = .ok (.isub, 1) := by decide +kernel
theorem dX10_readRequest_35 : decode cX10_readRequest 35 = .ok (.invokevirtual 416, 3) := by decide +kernel
theorem dX10_readRequest_38 : decode cX10_readRequest 38 = .ok (.istore_n 1, 1) := by decide +kernel
theorem dX10_readRequest_39 : decode cX10_readRequest 39 = .ok (.aload_n 0, 1) := by decide +kernel
theorem dX10_readRequest_40 : decode cX10_readRequest 40 = .ok (.iconst 1, 1) := by decide +kernel
theorem dX10_readRequest_41 : decode cX10_readRequest 41 = .ok (.bipush 20, 2) := by decide +kernel
theorem dX10_readRequest_43 : decode cX10_readRequest 43 = .ok (.invokevirtual 416, 3) := by decide +kernel
theorem dX10_readRequest_46 : decode cX10_readRequest 46 = .ok (.istore_n 2, 1) := by decide +kernel
theorem dX10_readRequest_47 : decode cX10_readRequest 47 = .ok (.aload_n 0, 1) := by decide +kernel
theorem dX10_readRequest_48 : decode cX10_readRequest 48 = .ok (.ldc 65, 2) := by decide +kernel
theorem dX10_readRequest_50 : decode cX10_readRequest 50 = .ok (.invokevirtual 422, 3) := by decide +kernel
theorem dX10_readRequest_53 : decode cX10_readRequest 53 = .ok (.istore_n 3, 1) := by decide +kernel
theorem dX10_readRequest_54 : decode cX10_readRequest 54 = .ok (.aload_n 0, 1) := by decide +kernel
theorem dX10_readRequest_55 : decode cX10_readRequest 55 = .ok (.bipush 59, 2) := by decide +kernel
theorem dX10_readRequest_57 : decode cX10_readRequest 57 = .ok (.invokevirtual 419, 3) := by decide +kernel
theorem dX10_readRequest_60 : decode cX10_readRequest 60 = .ok (.aload_n 0, 1) := by decide +kernel
theorem dX10_readRequest_61 : decode cX10_readRequest 61 = .ok (.getfield 375, 3) := by decide +kernel
theorem dX10_readRequest_64 : decode cX10_readRequest 64 = .ok (.ifCond .ne 22, 3) := by decide +kernel
theorem dX10_readRequest_67 : decode cX10_readRequest 67 = .ok (.aload_n 0, 1) := by decide +kernel
theorem dX10_readRequest_68 : decode cX10_readRequest 68 = .ok (.iload_n 1, 1) := by decide +kernel
theorem dX10_readRequest_69 : decode cX10_readRequest 69 = .ok (.iload_n 2, 1) := by decide +kernel
theorem dX10_readRequest_70 : decode cX10_readRequest 70 = .ok (.iload_n 3, 1) := by decide +kernel
theorem dX10_readRequest_71 : decode cX10_readRequest 71 = .ok (.invokevirtual 242, 3) := by decide +kernel
theorem dX10_readRequest_74 : decode cX10_readRequest 74 = .ok (.aload_n 0, 1) := by decide +kernel
theorem dX10_readRequest_75 : decode cX10_readRequest 75 = .ok (.aload_n 0, 1) := by decide +kernel
theorem dX10_readRequest_76 : decode cX10_readRequest 76 = .ok (.getfield 13, 3) := by decide +kernel
theorem dX10_readRequest_79 : decode cX10_readRequest 79 = .ok (.iconst 3, 1) := by decide +kernel
theorem dX10_readRequest_80 : decode cX10_readRequest 80 = .ok (.iaload, 1) := by decide +kernel
theorem dX10_readRequest_81 : decode cX10_readRequest 81 = .ok (.iconst 1, 1) := by decide +kernel
theorem dX10_readRequest_82 : decode cX10_readRequest 82 = .ok (.isub, 1) := by decide +kernel
theorem dX10_readRequest_83 : decode cX10_readRequest 83 = .ok (.invokevirtual 158, 3) := by decide +kernel
theorem dX10_readRequest_86 : decode cX10_readRequest 86 = .ok (.return_, 1) := by decide +kernel
def rm_X10_readRequest : Room := { frames := 8, cells := 0, slots := 0, locals := 195 }
def M_X10_readRequest_17 (k : Nat) (y1 : Int32) (S : Nat → Nat → Int32) : Option ((Nat → Nat → Int32)) := (M_X10_check k S y1 (3 : Int32)).bind fun q1 => (M_X10_advance k q1).bind fun q2 => (if inb (2 : Int32) 1692 = true then (M_X10_readNumber k q2 (0 : Int32) (((q2 2) (2 : Int32).toNatClampNeg) - (1 : Int32))).bind fun q4 => (M_X10_readNumber k q4.2 (1 : Int32) (20 : Int32)).bind fun q5 => (M_X10_accept k q5.2 63).bind fun q6 => (M_X10_expect k q6.2 (59 : Int32)).bind fun q7 => if (q7 0 11) = 0 then ((M_X10_layRequest k q7 q4.1 q5.1 q6.1).bind fun q9 => (if inb (3 : Int32) 1692 = true then (M_X10_route k q9 (((q9 2) (3 : Int32).toNatClampNeg) - (1 : Int32))).bind fun q11 => some q11 else none)) else (some q7) else none)
set_option maxRecDepth 100000 in
set_option maxHeartbeats 4000000 in
theorem N_X10_readRequest_17 (C : CX E p l s m args meth c cX10_readRequest 4 RX10 none A) (a : Nat → Nat) (k : Nat) {post : va_W → Prop} :
    ∀ (y1 : Int32) (S : Nat → Nat → Int32) (q : (Nat → Nat → Int32)), M_X10_readRequest_17 k y1 S = some q → post (wMd E a q) →
      WW E p l e rm_X10_readRequest s m args below meth c A 0 0 (QV E below post args s rm_X10_readRequest A) (wMd E a S) 4 [some (.ref (a 0)), none, none, none] 17 [.int y1, .ref (a 0)] := by
  intro y1 S q  h hq
  unfold M_X10_readRequest_17 at h
  refine r_iconst (pc := 17) C (v := 3) dX10_readRequest_17 (by decide) ?_
  obtain ⟨q1, hq1, h⟩ := bnd h
  refine r_callV_CV (Cn := RX10) (pc := 18) C [.int y1, .int (3 : Int32)] (c_X10_check E l k a S y1 (3 : Int32) hq1) [0, 1, 2, 3, 4, 5, 6, 7, 8, 9, 10, 11, 12] rfl (by decide) 0 rfl rfl rfl g_X10_394 hd_X10_check ⟨Nat.le_of_ble_eq_true rfl, Nat.le_of_ble_eq_true rfl⟩ ⟨Nat.zero_le _, Nat.zero_le _⟩ (Nat.le_of_ble_eq_true rfl) rfl dX10_readRequest_18 (fun w1 hw1 => ?_)
  subst hw1
  refine ⟨(wMd E a q1), by rfl, ?_⟩
  refine r_aload_n (pc := 21) C (i := 0) dX10_readRequest_21 rfl rfl ?_
  obtain ⟨q2, hq2, h⟩ := bnd h
  refine r_callV_CV (Cn := RX10) (pc := 22) C [] (c_X10_advance E l k a q1 hq2) [0, 1, 2, 3, 4, 5, 6, 7, 8, 9, 10, 11, 12] rfl (by decide) 0 rfl rfl rfl g_X10_398 hd_X10_advance ⟨Nat.le_of_ble_eq_true rfl, Nat.le_of_ble_eq_true rfl⟩ ⟨Nat.zero_le _, Nat.zero_le _⟩ (Nat.le_of_ble_eq_true rfl) rfl dX10_readRequest_22 (fun w1 hw1 => ?_)
  subst hw1
  refine ⟨(wMd E a q2), by rfl, ?_⟩
  refine r_aload_n (pc := 25) C (i := 0) dX10_readRequest_25 rfl rfl ?_
  refine r_iconst (pc := 26) C (v := 0) dX10_readRequest_26 (by decide) ?_
  refine r_aload_n (pc := 27) C (i := 0) dX10_readRequest_27 rfl rfl ?_
  refine r_get (pc := 28) C gwX10 0 rfl rfl 1 (by decide) wm_5_204 rfl dX10_readRequest_28 ?_
  refine r_iconst (pc := 31) C (v := 2) dX10_readRequest_31 (by decide) ?_
  obtain ⟨hi3, h⟩ := ifn h
  refine r_iald (pc := 32) C 2 rfl hi3 dX10_readRequest_32 ?_
  refine r_iconst (pc := 33) C (v := 1) dX10_readRequest_33 (by decide) ?_
  refine r_isub (pc := 34) C dX10_readRequest_34 ?_
  obtain ⟨q4, hq4, h⟩ := bnd h
  refine r_callV_CI (Cn := RX10) (pc := 35) C [.int (0 : Int32), .int (((q2 2) (2 : Int32).toNatClampNeg) - (1 : Int32))] (c_X10_readNumber E l k a q2 (0 : Int32) (((q2 2) (2 : Int32).toNatClampNeg) - (1 : Int32)) hq4) [0, 1, 2, 3, 4, 5, 6, 7, 8, 9, 10, 11, 12] rfl (by decide) 0 rfl rfl rfl g_X10_416 hd_X10_readNumber ⟨Nat.le_of_ble_eq_true rfl, Nat.le_of_ble_eq_true rfl⟩ ⟨Nat.zero_le _, Nat.zero_le _⟩ (Nat.le_of_ble_eq_true rfl) rfl dX10_readRequest_35 (fun r w1 hw1 => ?_)
  obtain ⟨hr1, hw1⟩ := hw1
  subst hr1 hw1
  refine ⟨(wMd E a q4.2), by rfl, ?_⟩
  refine r_istore_n (pc := 38) C (i := 1) dX10_readRequest_38 rfl (by decide) rfl ?_
  refine r_aload_n (pc := 39) C (i := 0) dX10_readRequest_39 rfl rfl ?_
  refine r_iconst (pc := 40) C (v := 1) dX10_readRequest_40 (by decide) ?_
  refine r_bipush (pc := 41) C (v := 20) dX10_readRequest_41 (by decide) ?_
  obtain ⟨q5, hq5, h⟩ := bnd h
  refine r_callV_CI (Cn := RX10) (pc := 43) C [.int (1 : Int32), .int (20 : Int32)] (c_X10_readNumber E l k a q4.2 (1 : Int32) (20 : Int32) hq5) [0, 1, 2, 3, 4, 5, 6, 7, 8, 9, 10, 11, 12] rfl (by decide) 0 rfl rfl rfl g_X10_416 hd_X10_readNumber ⟨Nat.le_of_ble_eq_true rfl, Nat.le_of_ble_eq_true rfl⟩ ⟨Nat.zero_le _, Nat.zero_le _⟩ (Nat.le_of_ble_eq_true rfl) rfl dX10_readRequest_43 (fun r w1 hw1 => ?_)
  obtain ⟨hr1, hw1⟩ := hw1
  subst hr1 hw1
  refine ⟨(wMd E a q5.2), by rfl, ?_⟩
  refine r_istore_n (pc := 46) C (i := 2) dX10_readRequest_46 rfl (by decide) rfl ?_
  refine r_aload_n (pc := 47) C (i := 0) dX10_readRequest_47 rfl rfl ?_
  refine r_ldcS (pc := 48) C 63 rfl dX10_readRequest_48 ?_
  obtain ⟨q6, hq6, h⟩ := bnd h
  refine r_callV_CI (Cn := RX10) (pc := 50) C [.ref (eS E 63)] (c_X10_accept E l k a q5.2 63 (by decide) hq6) [0, 1, 2, 3, 4, 5, 6, 7, 8, 9, 10, 11, 12] rfl (by decide) 0 rfl rfl rfl g_X10_422 hd_X10_accept ⟨Nat.le_of_ble_eq_true rfl, Nat.le_of_ble_eq_true rfl⟩ ⟨Nat.zero_le _, Nat.zero_le _⟩ (Nat.le_of_ble_eq_true rfl) rfl dX10_readRequest_50 (fun r w1 hw1 => ?_)
  obtain ⟨hr1, hw1⟩ := hw1
  subst hr1 hw1
  refine ⟨(wMd E a q6.2), by rfl, ?_⟩
  refine r_istore_n (pc := 53) C (i := 3) dX10_readRequest_53 rfl (by decide) rfl ?_
  refine r_aload_n (pc := 54) C (i := 0) dX10_readRequest_54 rfl rfl ?_
  refine r_bipush (pc := 55) C (v := 59) dX10_readRequest_55 (by decide) ?_
  obtain ⟨q7, hq7, h⟩ := bnd h
  refine r_callV_CV (Cn := RX10) (pc := 57) C [.int (59 : Int32)] (c_X10_expect E l k a q6.2 (59 : Int32) hq7) [0, 1, 2, 3, 4, 5, 6, 7, 8, 9, 10, 11, 12] rfl (by decide) 0 rfl rfl rfl g_X10_419 hd_X10_expect ⟨Nat.le_of_ble_eq_true rfl, Nat.le_of_ble_eq_true rfl⟩ ⟨Nat.zero_le _, Nat.zero_le _⟩ (Nat.le_of_ble_eq_true rfl) rfl dX10_readRequest_57 (fun w1 hw1 => ?_)
  subst hw1
  refine ⟨(wMd E a q7), by rfl, ?_⟩
  refine r_aload_n (pc := 60) C (i := 0) dX10_readRequest_60 rfl rfl ?_
  refine r_get (pc := 61) C gwX10 0 rfl rfl 19 (by decide) wm_5_222 rfl dX10_readRequest_61 ?_
  refine r_if_ne (pc := 64) C (tgt := 86) dX10_readRequest_64 rfl (fun c8 => ?_) (fun c8 => ?_)
  · rw [if_neg c8] at h
    cases h
    exact r_vret (pc := 86) C hq (Nat.zero_le _) (Nat.zero_le _) dX10_readRequest_86
  · rw [if_pos c8] at h
    refine r_aload_n (pc := 67) C (i := 0) dX10_readRequest_67 rfl rfl ?_
    refine r_iload_n (pc := 68) C (i := 1) dX10_readRequest_68 rfl rfl ?_
    refine r_iload_n (pc := 69) C (i := 2) dX10_readRequest_69 rfl rfl ?_
    refine r_iload_n (pc := 70) C (i := 3) dX10_readRequest_70 rfl rfl ?_
    obtain ⟨q9, hq9, h⟩ := bnd h
    refine r_callV_CV (Cn := RX10) (pc := 71) C [.int q4.1, .int q5.1, .int q6.1] (c_X10_layRequest E l k a q7 q4.1 q5.1 q6.1 hq9) [0, 1, 2, 3, 4, 5, 6, 7, 8, 9, 10, 11, 12] rfl (by decide) 0 rfl rfl rfl g_X10_242 hd_X10_layRequest ⟨Nat.le_of_ble_eq_true rfl, Nat.le_of_ble_eq_true rfl⟩ ⟨Nat.zero_le _, Nat.zero_le _⟩ (Nat.le_of_ble_eq_true rfl) rfl dX10_readRequest_71 (fun w1 hw1 => ?_)
    subst hw1
    refine ⟨(wMd E a q9), by rfl, ?_⟩
    refine r_aload_n (pc := 74) C (i := 0) dX10_readRequest_74 rfl rfl ?_
    refine r_aload_n (pc := 75) C (i := 0) dX10_readRequest_75 rfl rfl ?_
    refine r_get (pc := 76) C gwX10 0 rfl rfl 1 (by decide) wm_5_204 rfl dX10_readRequest_76 ?_
    refine r_iconst (pc := 79) C (v := 3) dX10_readRequest_79 (by decide) ?_
    obtain ⟨hi10, h⟩ := ifn h
    refine r_iald (pc := 80) C 2 rfl hi10 dX10_readRequest_80 ?_
    refine r_iconst (pc := 81) C (v := 1) dX10_readRequest_81 (by decide) ?_
    refine r_isub (pc := 82) C dX10_readRequest_82 ?_
    obtain ⟨q11, hq11, h⟩ := bnd h
    refine r_callV_CV (Cn := RX10) (pc := 83) C [.int (((q9 2) (3 : Int32).toNatClampNeg) - (1 : Int32))] (c_X10_route E l k a q9 (((q9 2) (3 : Int32).toNatClampNeg) - (1 : Int32)) hq11) [0, 1, 2, 3, 4, 5, 6, 7, 8, 9, 10, 11, 12] rfl (by decide) 0 rfl rfl rfl g_X10_158 hd_X10_route ⟨Nat.le_of_ble_eq_true rfl, Nat.le_of_ble_eq_true rfl⟩ ⟨Nat.zero_le _, Nat.zero_le _⟩ (Nat.le_of_ble_eq_true rfl) rfl dX10_readRequest_83 (fun w1 hw1 => ?_)
    subst hw1
    refine ⟨(wMd E a q11), by rfl, ?_⟩
    cases h
    exact r_vret (pc := 86) C hq (Nat.zero_le _) (Nat.zero_le _) dX10_readRequest_86
def M_X10_readRequest_0 (k : Nat) (S : Nat → Nat → Int32) : Option ((Nat → Nat → Int32)) := (if inb (3 : Int32) 1692 = true then if (60 : Int32) ≤ ((S 2) (3 : Int32).toNatClampNeg) then (M_X10_readRequest_17 k (0 : Int32) S) else (M_X10_readRequest_17 k (1 : Int32) S) else none)
set_option maxRecDepth 100000 in
set_option maxHeartbeats 4000000 in
theorem N_X10_readRequest_0 (C : CX E p l s m args meth c cX10_readRequest 4 RX10 none A) (a : Nat → Nat) (k : Nat) {post : va_W → Prop} :
    ∀ (S : Nat → Nat → Int32) (q : (Nat → Nat → Int32)), M_X10_readRequest_0 k S = some q → post (wMd E a q) →
      WW E p l e rm_X10_readRequest s m args below meth c A 0 0 (QV E below post args s rm_X10_readRequest A) (wMd E a S) 4 [some (.ref (a 0)), none, none, none] 0 [] := by
  intro S q  h hq
  unfold M_X10_readRequest_0 at h
  refine r_aload_n (pc := 0) C (i := 0) dX10_readRequest_0 rfl rfl ?_
  refine r_aload_n (pc := 1) C (i := 0) dX10_readRequest_1 rfl rfl ?_
  refine r_get (pc := 2) C gwX10 0 rfl rfl 1 (by decide) wm_5_204 rfl dX10_readRequest_2 ?_
  refine r_iconst (pc := 5) C (v := 3) dX10_readRequest_5 (by decide) ?_
  obtain ⟨hi12, h⟩ := ifn h
  refine r_iald (pc := 6) C 2 rfl hi12 dX10_readRequest_6 ?_
  refine r_bipush (pc := 7) C (v := 60) dX10_readRequest_7 (by decide) ?_
  refine r_icmp_ge (pc := 9) C (tgt := 16) dX10_readRequest_9 rfl (fun c13 => ?_) (fun c13 => ?_)
  · rw [if_pos c13] at h
    refine r_iconst (pc := 16) C (v := 0) dX10_readRequest_16 (by decide) ?_
    refine r_weak (lSub_s (lSub_n (lSub_n (lSub_n lSub_e)))) ?_
    exact N_X10_readRequest_17 C a k (0 : Int32) S q  h hq
  · rw [if_neg c13] at h
    refine r_iconst (pc := 12) C (v := 1) dX10_readRequest_12 (by decide) ?_
    refine r_goto (pc := 13) C (tgt := 17) dX10_readRequest_13 rfl ?_
    refine r_weak (lSub_s (lSub_n (lSub_n (lSub_n lSub_e)))) ?_
    exact N_X10_readRequest_17 C a k (1 : Int32) S q  h hq
def M_X10_readRequest (k : Nat) (S : Nat → Nat → Int32) : Option ((Nat → Nat → Int32)) := M_X10_readRequest_0 k S
set_option maxRecDepth 100000 in
set_option maxHeartbeats 4000000 in
theorem c_X10_readRequest (E : ENV) (l : Launch) (k : Nat) (a : Nat → Nat) (S : Nat → Nat → Int32) {q : (Nat → Nat → Int32)} (hm : M_X10_readRequest k S = some q) : CV E l yX10_readRequest cX10_readRequest 4 none rm_X10_readRequest [.ref (a 0)] (wMd E a S) (fun w' => w' = (wMd E a q)) :=
  CV.of 3 (by decide) (Nat.le_of_ble_eq_true rfl) (fun p e s m below meth c A C _ => r_weak (lSub_s (lSub_n (lSub_n (lSub_n lSub_e)))) (N_X10_readRequest_0 C a k S q  hm rfl))
theorem hd_X10_readRequest : yX10_readRequest.cls = RX10 ∧ yX10_readRequest.cls ≠ "java/lang/invoke/MethodHandle" ∧ yX10_readRequest.cls ≠ "java/lang/invoke/VarHandle" ∧ (parseMethodDescriptor yX10_readRequest.desc).map (fun d => d.parameters.length) = some 0 := by decide +kernel
theorem g_X10_440 : GoodIn GW (wsV RX10 440 RX10 yX10_readRequest (wsG yX10_readRequest cX10_readRequest 4 none)) := gw_V wm_8_59 wm_8_61 wm_0_96 wm_1_9 wm_8_62
theorem hd_X10_readTenant : yX10_readTenant.cls = RX10 ∧ yX10_readTenant.cls ≠ "java/lang/invoke/MethodHandle" ∧ yX10_readTenant.cls ≠ "java/lang/invoke/VarHandle" ∧ (parseMethodDescriptor yX10_readTenant.desc).map (fun d => d.parameters.length) = some 0 := by decide +kernel
theorem g_X10_437 : GoodIn GW (wsV RX10 437 RX10 yX10_readTenant (wsG yX10_readTenant cX10_readTenant 3 none)) := gw_V wm_8_55 wm_8_57 wm_0_95 wm_1_9 wm_8_58
theorem hd_X10_readSetting : yX10_readSetting.cls = RX10 ∧ yX10_readSetting.cls ≠ "java/lang/invoke/MethodHandle" ∧ yX10_readSetting.cls ≠ "java/lang/invoke/VarHandle" ∧ (parseMethodDescriptor yX10_readSetting.desc).map (fun d => d.parameters.length) = some 1 := by decide +kernel
theorem g_X10_434 : GoodIn GW (wsV RX10 434 RX10 yX10_readSetting (wsG yX10_readSetting cX10_readSetting 2 none)) := gw_V wm_8_51 wm_8_53 wm_0_94 wm_1_9 wm_8_54
theorem hd_X10_settingHere : yX10_settingHere.cls = RX10 ∧ yX10_settingHere.cls ≠ "java/lang/invoke/MethodHandle" ∧ yX10_settingHere.cls ≠ "java/lang/invoke/VarHandle" ∧ (parseMethodDescriptor yX10_settingHere.desc).map (fun d => d.parameters.length) = some 0 := by decide +kernel
theorem g_X10_431 : GoodIn GW (wsV RX10 431 RX10 yX10_settingHere (wsG yX10_settingHere cX10_settingHere 2 (some .int))) := gw_V wm_8_47 wm_8_49 wm_0_93 wm_1_9 wm_8_50
theorem hd_X10_expectWord : yX10_expectWord.cls = RX10 ∧ yX10_expectWord.cls ≠ "java/lang/invoke/MethodHandle" ∧ yX10_expectWord.cls ≠ "java/lang/invoke/VarHandle" ∧ (parseMethodDescriptor yX10_expectWord.desc).map (fun d => d.parameters.length) = some 1 := by decide +kernel
theorem g_X10_426 : GoodIn GW (wsV RX10 426 RX10 yX10_expectWord (wsG yX10_expectWord cX10_expectWord 2 none)) := gw_V wm_8_4 wm_8_6 wm_0_84 wm_1_9 wm_8_7
theorem hd_X10_layWorkers : yX10_layWorkers.cls = RX10 ∧ yX10_layWorkers.cls ≠ "java/lang/invoke/MethodHandle" ∧ yX10_layWorkers.cls ≠ "java/lang/invoke/VarHandle" ∧ (parseMethodDescriptor yX10_layWorkers.desc).map (fun d => d.parameters.length) = some 3 := by decide +kernel
theorem g_X10_89 : GoodIn GW (va_wsS RX10 89 yX10_layWorkers (wsG yX10_layWorkers cX10_layWorkers 4 none)) := gw_S wm_5_197 wm_5_198 wm_1_9 wm_5_199
-- ShardGuardModel.readAll()V
theorem dX10_readAll_0 : decode cX10_readAll 0 = .ok (.aload_n 0, 1) := by decide +kernel
theorem dX10_readAll_1 : decode cX10_readAll 1 = .ok (.ldc_w 425, 3) := by decide +kernel
theorem dX10_readAll_4 : decode cX10_readAll 4 = .ok (.invokevirtual 426, 3) := by decide +kernel
theorem dX10_readAll_7 : decode cX10_readAll 7 = .ok (.aload_n 0, 1) := by decide +kernel
theorem dX10_readAll_8 : decode cX10_readAll 8 = .ok (.iconst 2, 1) := by decide +kernel
theorem dX10_readAll_9 : decode cX10_readAll 9 = .ok (.bipush 12, 2) := by decide +kernel
theorem dX10_readAll_11 : decode cX10_readAll 11 = .ok (.invokevirtual 416, 3) := by decide +kernel
theorem dX10_readAll_14 : decode cX10_readAll 14 = .ok (.istore_n 1, 1) := by decide +kernel
theorem dX10_readAll_15 : decode cX10_readAll 15 = .ok (.aload_n 0, 1) := by decide +kernel
theorem dX10_readAll_16 : decode cX10_readAll 16 = .ok (.ldc_w 429, 3) := by decide +kernel
theorem dX10_readAll_19 : decode cX10_readAll 19 = .ok (.invokevirtual 426, 3) := by decide +kernel
theorem dX10_readAll_22 : decode cX10_readAll 22 = .ok (.aload_n 0, 1) := by decide +kernel
theorem dX10_readAll_23 : decode cX10_readAll 23 = .ok (.iconst 1, 1) := by decide +kernel
theorem dX10_readAll_24 : decode cX10_readAll 24 = .ok (.iconst 4, 1) := by decide +kernel
theorem dX10_readAll_25 : decode cX10_readAll 25 = .ok (.iload_n 1, 1) := by decide +kernel
theorem dX10_readAll_26 : decode cX10_readAll 26 = .ok (.invokestatic 300, 3) := by decide +kernel
theorem dX10_readAll_29 : decode cX10_readAll 29 = .ok (.invokevirtual 416, 3) := by decide +kernel
theorem dX10_readAll_32 : decode cX10_readAll 32 = .ok (.istore_n 2, 1) := by decide +kernel
theorem dX10_readAll_33 : decode cX10_readAll 33 = .ok (.aload_n 0, 1) := by decide +kernel
theorem dX10_readAll_34 : decode cX10_readAll 34 = .ok (.bipush 59, 2) := by decide +kernel
theorem dX10_readAll_36 : decode cX10_readAll 36 = .ok (.invokevirtual 419, 3) := by decide +kernel
theorem dX10_readAll_39 : decode cX10_readAll 39 = .ok (.aload_n 0, 1) := by decide +kernel
theorem dX10_readAll_40 : decode cX10_readAll 40 = .ok (.getfield 375, 3) := by decide +kernel
theorem dX10_readAll_43 : decode cX10_readAll 43 = .ok (.ifCond .eq 4, 3) := by decide +kernel
theorem dX10_readAll_46 : decode cX10_readAll 46 = .ok (.return_, 1) := by decide +kernel
theorem dX10_readAll_47 : decode cX10_readAll 47 = .ok (.aload_n 0, 1) := by decide +kernel
theorem dX10_readAll_48 : decode cX10_readAll 48 = .ok (.getfield 13, 3) := by decide +kernel
theorem dX10_readAll_51 : decode cX10_readAll 51 = .ok (.iload_n 1, 1) := by decide +kernel
theorem dX10_readAll_52 : decode cX10_readAll 52 = .ok (.iload_n 2, 1) := by decide +kernel
theorem dX10_readAll_53 : decode cX10_readAll 53 = .ok (.invokestatic 89, 3) := by decide +kernel
theorem dX10_readAll_56 : decode cX10_readAll 56 = .ok (.aload_n 0, 1) := by decide +kernel
theorem dX10_readAll_57 : decode cX10_readAll 57 = .ok (.invokevirtual 431, 3) := by decide +kernel
theorem dX10_readAll_60 : decode cX10_readAll 60 = .ok (.istore_n 3, 1) := by decide +kernel
theorem dX10_readAll_61 : decode cX10_readAll 61 = .ok (.iload_n 3, 1) := by decide +kernel
theorem dX10_readAll_62 : decode cX10_readAll 62 = .ok (.iconst (-1), 1) := by decide +kernel
theorem dX10_readAll_63 : decode cX10_readAll 63 = .ok (.if_icmp .eq 16, 3) := by decide +kernel
theorem dX10_readAll_66 : decode cX10_readAll 66 = .ok (.aload_n 0, 1) := by decide +kernel
theorem dX10_readAll_67 : decode cX10_readAll 67 = .ok (.iload_n 3, 1) := by decide +kernel
theorem dX10_readAll_68 : decode cX10_readAll 68 = .ok (.invokevirtual 434, 3) := by decide +kernel
theorem dX10_readAll_71 : decode cX10_readAll 71 = .ok (.aload_n 0, 1) := by decide +kernel
theorem dX10_readAll_72 : decode cX10_readAll 72 = .ok (.invokevirtual 431, 3) := by decide +kernel
theorem dX10_readAll_75 : decode cX10_readAll 75 = .ok (.istore_n 3, 1) := by decide +kernel
theorem dX10_readAll_76 : decode cX10_readAll 76 = .ok (.goto (-15), 3) := by decide +kernel
theorem dX10_readAll_79 : decode cX10_readAll 79 = .ok (.aload_n 0, 1) := by decide +kernel
theorem dX10_readAll_80 : decode cX10_readAll 80 = .ok (.ldc 59, 2) := by decide +kernel
theorem dX10_readAll_82 : decode cX10_readAll 82 = .ok (.invokevirtual 390, 3) := by decide +kernel
theorem dX10_readAll_85 : decode cX10_readAll 85 = .ok (.ifCond .eq 10, 3) := by decide +kernel
theorem dX10_readAll_88 : decode cX10_readAll 88 = .ok (.aload_n 0, 1) := by decide +kernel
theorem dX10_readAll_89 : decode cX10_readAll 89 = .ok (.invokevirtual 437, 3) := by decide +kernel
theorem dX10_readAll_92 : decode cX10_readAll 92 = .ok (.goto (-13), 3) := by decide +kernel
theorem dX10_readAll_95 : decode cX10_readAll 95 = .ok (.aload_n 0, 1) := by decide +kernel
theorem dX10_readAll_96 : decode cX10_readAll 96 = .ok (.ldc 57, 2) := by decide +kernel
theorem dX10_readAll_98 : decode cX10_readAll 98 = .ok (.invokevirtual 390, 3) := by decide +kernel
theorem dX10_readAll_101 : decode cX10_readAll 101 = .ok (.ifCond .eq 10, 3) := by decide +kernel
theorem dX10_readAll_104 : decode cX10_readAll 104 = .ok (.aload_n 0, 1) := by decide +kernel
theorem dX10_readAll_105 : decode cX10_readAll 105 = .ok (.invokevirtual 440, 3) := by decide +kernel
theorem dX10_readAll_108 : decode cX10_readAll 108 = .ok (.goto (-13), 3) := by decide +kernel
theorem dX10_readAll_111 : decode cX10_readAll 111 = .ok (.aload_n 0, 1) := by decide +kernel
theorem dX10_readAll_112 : decode cX10_readAll 112 = .ok (.aload_n 0, 1) := by decide +kernel
theorem dX10_readAll_113 : decode cX10_readAll 113 = .ok (.getfield 375, 3) := by decide +kernel
theorem dX10_readAll_116 : decode cX10_readAll 116 = .ok (.ifCond .ne 10, 3) := by decide +kernel
theorem dX10_readAll_119 : decode cX10_readAll 119 = .ok (.aload_n 0, 1) := by decide +kernel
theorem dX10_readAll_120 : decode cX10_readAll 120 = .ok (.getfield 366, 3) := by decide +kernel
theorem dX10_readAll_123 : decode cX10_readAll 123 = .ok (.ifCond .ne 7, 3) := by decide +kernel
theorem dX10_readAll_126 : decode cX10_readAll 126 = .ok (.iconst 1, 1) := by decide +kernel
theorem dX10_readAll_127 : decode cX10_readAll 127 = .ok (.goto 4, 3) := by decide +kernel
theorem dX10_readAll_130 : decode cX10_readAll 130 = .ok (.iconst 0, 1) := by decide +kernel
theorem dX10_readAll_131 : decode cX10_readAll 131 = .ok (.iconst 1, 1) := by decide +kernel
theorem dX10_readAll_132 : decode cX10_readAll 132 = .ok (.invokevirtual 394, 3) := by decide +kernel
theorem dX10_readAll_135 : decode cX10_readAll 135 = .ok (.return_, 1) := by decide +kernel
def rm_X10_readAll : Room := { frames := 9, cells := 0, slots := 0, locals := 218 }
def M_X10_readAll_95 (k : Nat) : Nat → (Nat → Nat → Int32) → Option ((Nat → Nat → Int32))
  | 0, _ => none
  | n + 1, S => (M_X10_isWord k S 59).bind fun q1 => if q1 = 0 then (if (S 0 11) = 0 then (if (S 0 10) = 0 then ((M_X10_check k S (1 : Int32) (1 : Int32)).bind fun q7 => some q7) else ((M_X10_check k S (0 : Int32) (1 : Int32)).bind fun q6 => some q6)) else ((M_X10_check k S (1 : Int32) (1 : Int32)).bind fun q4 => some q4)) else ((M_X10_readRequest k S).bind fun q8 => M_X10_readAll_95 k n q8)
theorem M_X10_readAll_95_s (k : Nat) (n : Nat) (S : Nat → Nat → Int32) : M_X10_readAll_95 k (n + 1) S = ((M_X10_isWord k S 59).bind fun q1 => if q1 = 0 then (if (S 0 11) = 0 then (if (S 0 10) = 0 then ((M_X10_check k S (1 : Int32) (1 : Int32)).bind fun q7 => some q7) else ((M_X10_check k S (0 : Int32) (1 : Int32)).bind fun q6 => some q6)) else ((M_X10_check k S (1 : Int32) (1 : Int32)).bind fun q4 => some q4)) else ((M_X10_readRequest k S).bind fun q8 => M_X10_readAll_95 k n q8)) := rfl
set_option maxRecDepth 100000 in
set_option maxHeartbeats 4000000 in
theorem N_X10_readAll_95 (C : CX E p l s m args meth c cX10_readAll 4 RX10 none A) (a : Nat → Nat) (k : Nat) {post : va_W → Prop} :
    ∀ (n : Nat) (S : Nat → Nat → Int32) (q : (Nat → Nat → Int32)), M_X10_readAll_95 k n S = some q → post (wMd E a q) →
      WW E p l e rm_X10_readAll s m args below meth c A 0 0 (QV E below post args s rm_X10_readAll A) (wMd E a S) 4 [some (.ref (a 0)), none, none, none] 95 [] := by
  intro n
  induction n with
  | zero => intro S q  h _; cases h
  | succ n ih =>
    intro S q  h hq
    rw [M_X10_readAll_95_s] at h
    refine r_aload_n (pc := 95) C (i := 0) dX10_readAll_95 rfl rfl ?_
    refine r_ldcS (pc := 96) C 59 rfl dX10_readAll_96 ?_
    obtain ⟨q1, hq1, h⟩ := bnd h
    refine r_callVp_CI (Cn := RX10) (pc := 98) C [.ref (eS E 59)] (c_X10_isWord E l k a S 59 (by decide) hq1) [0, 1, 2, 3, 4, 5, 6, 7, 8, 9, 10, 11, 12] rfl (by decide) 0 rfl rfl rfl g_X10_390 hd_X10_isWord ⟨Nat.le_of_ble_eq_true rfl, Nat.le_of_ble_eq_true rfl⟩ ⟨Nat.zero_le _, Nat.zero_le _⟩ (Nat.le_of_ble_eq_true rfl) rfl dX10_readAll_98 (fun r hr => ?_)
    have hr := hr.symm
    subst hr
    refine r_if_eq (pc := 101) C (tgt := 111) dX10_readAll_101 rfl (fun c2 => ?_) (fun c2 => ?_)
    · rw [if_pos c2] at h
      refine r_aload_n (pc := 111) C (i := 0) dX10_readAll_111 rfl rfl ?_
      refine r_aload_n (pc := 112) C (i := 0) dX10_readAll_112 rfl rfl ?_
      refine r_get (pc := 113) C gwX10 0 rfl rfl 19 (by decide) wm_5_222 rfl dX10_readAll_113 ?_
      refine r_if_ne (pc := 116) C (tgt := 126) dX10_readAll_116 rfl (fun c3 => ?_) (fun c3 => ?_)
      · rw [if_neg c3] at h
        refine r_iconst (pc := 126) C (v := 1) dX10_readAll_126 (by decide) ?_
        refine r_goto (pc := 127) C (tgt := 131) dX10_readAll_127 rfl ?_
        refine r_iconst (pc := 131) C (v := 1) dX10_readAll_131 (by decide) ?_
        obtain ⟨q4, hq4, h⟩ := bnd h
        refine r_callV_CV (Cn := RX10) (pc := 132) C [.int (1 : Int32), .int (1 : Int32)] (c_X10_check E l k a S (1 : Int32) (1 : Int32) hq4) [0, 1, 2, 3, 4, 5, 6, 7, 8, 9, 10, 11, 12] rfl (by decide) 0 rfl rfl rfl g_X10_394 hd_X10_check ⟨Nat.le_of_ble_eq_true rfl, Nat.le_of_ble_eq_true rfl⟩ ⟨Nat.zero_le _, Nat.zero_le _⟩ (Nat.le_of_ble_eq_true rfl) rfl dX10_readAll_132 (fun w1 hw1 => ?_)
        subst hw1
        refine ⟨(wMd E a q4), by rfl, ?_⟩
        cases h
        exact r_vret (pc := 135) C hq (Nat.zero_le _) (Nat.zero_le _) dX10_readAll_135
      · rw [if_pos c3] at h
        refine r_aload_n (pc := 119) C (i := 0) dX10_readAll_119 rfl rfl ?_
        refine r_get (pc := 120) C gwX10 0 rfl rfl 18 (by decide) wm_5_221 rfl dX10_readAll_120 ?_
        refine r_if_ne (pc := 123) C (tgt := 130) dX10_readAll_123 rfl (fun c5 => ?_) (fun c5 => ?_)
        · rw [if_neg c5] at h
          refine r_iconst (pc := 130) C (v := 0) dX10_readAll_130 (by decide) ?_
          refine r_iconst (pc := 131) C (v := 1) dX10_readAll_131 (by decide) ?_
          obtain ⟨q6, hq6, h⟩ := bnd h
          refine r_callV_CV (Cn := RX10) (pc := 132) C [.int (0 : Int32), .int (1 : Int32)] (c_X10_check E l k a S (0 : Int32) (1 : Int32) hq6) [0, 1, 2, 3, 4, 5, 6, 7, 8, 9, 10, 11, 12] rfl (by decide) 0 rfl rfl rfl g_X10_394 hd_X10_check ⟨Nat.le_of_ble_eq_true rfl, Nat.le_of_ble_eq_true rfl⟩ ⟨Nat.zero_le _, Nat.zero_le _⟩ (Nat.le_of_ble_eq_true rfl) rfl dX10_readAll_132 (fun w1 hw1 => ?_)
          subst hw1
          refine ⟨(wMd E a q6), by rfl, ?_⟩
          cases h
          exact r_vret (pc := 135) C hq (Nat.zero_le _) (Nat.zero_le _) dX10_readAll_135
        · rw [if_pos c5] at h
          refine r_iconst (pc := 126) C (v := 1) dX10_readAll_126 (by decide) ?_
          refine r_goto (pc := 127) C (tgt := 131) dX10_readAll_127 rfl ?_
          refine r_iconst (pc := 131) C (v := 1) dX10_readAll_131 (by decide) ?_
          obtain ⟨q7, hq7, h⟩ := bnd h
          refine r_callV_CV (Cn := RX10) (pc := 132) C [.int (1 : Int32), .int (1 : Int32)] (c_X10_check E l k a S (1 : Int32) (1 : Int32) hq7) [0, 1, 2, 3, 4, 5, 6, 7, 8, 9, 10, 11, 12] rfl (by decide) 0 rfl rfl rfl g_X10_394 hd_X10_check ⟨Nat.le_of_ble_eq_true rfl, Nat.le_of_ble_eq_true rfl⟩ ⟨Nat.zero_le _, Nat.zero_le _⟩ (Nat.le_of_ble_eq_true rfl) rfl dX10_readAll_132 (fun w1 hw1 => ?_)
          subst hw1
          refine ⟨(wMd E a q7), by rfl, ?_⟩
          cases h
          exact r_vret (pc := 135) C hq (Nat.zero_le _) (Nat.zero_le _) dX10_readAll_135
    · rw [if_neg c2] at h
      refine r_aload_n (pc := 104) C (i := 0) dX10_readAll_104 rfl rfl ?_
      obtain ⟨q8, hq8, h⟩ := bnd h
      refine r_callV_CV (Cn := RX10) (pc := 105) C [] (c_X10_readRequest E l k a S hq8) [0, 1, 2, 3, 4, 5, 6, 7, 8, 9, 10, 11, 12] rfl (by decide) 0 rfl rfl rfl g_X10_440 hd_X10_readRequest ⟨Nat.le_of_ble_eq_true rfl, Nat.le_of_ble_eq_true rfl⟩ ⟨Nat.zero_le _, Nat.zero_le _⟩ (Nat.le_of_ble_eq_true rfl) rfl dX10_readAll_105 (fun w1 hw1 => ?_)
      subst hw1
      refine ⟨(wMd E a q8), by rfl, ?_⟩
      refine r_goto (pc := 108) C (tgt := 95) dX10_readAll_108 rfl ?_
      refine r_weak (lSub_s (lSub_n (lSub_n (lSub_n lSub_e)))) ?_
      exact ih q8 q  h hq
def M_X10_readAll_79 (k : Nat) : Nat → (Nat → Nat → Int32) → Option ((Nat → Nat → Int32))
  | 0, _ => none
  | n + 1, S => (M_X10_isWord k S 60).bind fun q9 => if q9 = 0 then (M_X10_readAll_95 k k S) else ((M_X10_readTenant k S).bind fun q11 => M_X10_readAll_79 k n q11)
theorem M_X10_readAll_79_s (k : Nat) (n : Nat) (S : Nat → Nat → Int32) : M_X10_readAll_79 k (n + 1) S = ((M_X10_isWord k S 60).bind fun q9 => if q9 = 0 then (M_X10_readAll_95 k k S) else ((M_X10_readTenant k S).bind fun q11 => M_X10_readAll_79 k n q11)) := rfl
set_option maxRecDepth 100000 in
set_option maxHeartbeats 4000000 in
theorem N_X10_readAll_79 (C : CX E p l s m args meth c cX10_readAll 4 RX10 none A) (a : Nat → Nat) (k : Nat) {post : va_W → Prop} :
    ∀ (n : Nat) (S : Nat → Nat → Int32) (q : (Nat → Nat → Int32)), M_X10_readAll_79 k n S = some q → post (wMd E a q) →
      WW E p l e rm_X10_readAll s m args below meth c A 0 0 (QV E below post args s rm_X10_readAll A) (wMd E a S) 4 [some (.ref (a 0)), none, none, none] 79 [] := by
  intro n
  induction n with
  | zero => intro S q  h _; cases h
  | succ n ih =>
    intro S q  h hq
    rw [M_X10_readAll_79_s] at h
    refine r_aload_n (pc := 79) C (i := 0) dX10_readAll_79 rfl rfl ?_
    refine r_ldcS (pc := 80) C 60 rfl dX10_readAll_80 ?_
    obtain ⟨q9, hq9, h⟩ := bnd h
    refine r_callVp_CI (Cn := RX10) (pc := 82) C [.ref (eS E 60)] (c_X10_isWord E l k a S 60 (by decide) hq9) [0, 1, 2, 3, 4, 5, 6, 7, 8, 9, 10, 11, 12] rfl (by decide) 0 rfl rfl rfl g_X10_390 hd_X10_isWord ⟨Nat.le_of_ble_eq_true rfl, Nat.le_of_ble_eq_true rfl⟩ ⟨Nat.zero_le _, Nat.zero_le _⟩ (Nat.le_of_ble_eq_true rfl) rfl dX10_readAll_82 (fun r hr => ?_)
    have hr := hr.symm
    subst hr
    refine r_if_eq (pc := 85) C (tgt := 95) dX10_readAll_85 rfl (fun c10 => ?_) (fun c10 => ?_)
    · rw [if_pos c10] at h
      refine r_weak (lSub_s (lSub_n (lSub_n (lSub_n lSub_e)))) ?_
      exact N_X10_readAll_95 C a k k S q  h hq
    · rw [if_neg c10] at h
      refine r_aload_n (pc := 88) C (i := 0) dX10_readAll_88 rfl rfl ?_
      obtain ⟨q11, hq11, h⟩ := bnd h
      refine r_callV_CV (Cn := RX10) (pc := 89) C [] (c_X10_readTenant E l k a S hq11) [0, 1, 2, 3, 4, 5, 6, 7, 8, 9, 10, 11, 12] rfl (by decide) 0 rfl rfl rfl g_X10_437 hd_X10_readTenant ⟨Nat.le_of_ble_eq_true rfl, Nat.le_of_ble_eq_true rfl⟩ ⟨Nat.zero_le _, Nat.zero_le _⟩ (Nat.le_of_ble_eq_true rfl) rfl dX10_readAll_89 (fun w1 hw1 => ?_)
      subst hw1
      refine ⟨(wMd E a q11), by rfl, ?_⟩
      refine r_goto (pc := 92) C (tgt := 79) dX10_readAll_92 rfl ?_
      refine r_weak (lSub_s (lSub_n (lSub_n (lSub_n lSub_e)))) ?_
      exact ih q11 q  h hq
def M_X10_readAll_61 (k : Nat) : Nat → (Int32) → (Nat → Nat → Int32) → Option ((Nat → Nat → Int32))
  | 0, _, _ => none
  | n + 1, x3, S => if x3 = (-1 : Int32) then (M_X10_readAll_79 k k S) else ((M_X10_readSetting k S x3).bind fun q13 => (M_X10_settingHere k q13).bind fun q14 => M_X10_readAll_61 k n q14 q13)
theorem M_X10_readAll_61_s (k : Nat) (n : Nat) (x3 : Int32) (S : Nat → Nat → Int32) : M_X10_readAll_61 k (n + 1) x3 S = (if x3 = (-1 : Int32) then (M_X10_readAll_79 k k S) else ((M_X10_readSetting k S x3).bind fun q13 => (M_X10_settingHere k q13).bind fun q14 => M_X10_readAll_61 k n q14 q13)) := rfl
set_option maxRecDepth 100000 in
set_option maxHeartbeats 4000000 in
theorem N_X10_readAll_61 (C : CX E p l s m args meth c cX10_readAll 4 RX10 none A) (a : Nat → Nat) (k : Nat) {post : va_W → Prop} :
    ∀ (n : Nat) (x3 : Int32) (S : Nat → Nat → Int32) (q : (Nat → Nat → Int32)), M_X10_readAll_61 k n x3 S = some q → post (wMd E a q) →
      WW E p l e rm_X10_readAll s m args below meth c A 0 0 (QV E below post args s rm_X10_readAll A) (wMd E a S) 4 [some (.ref (a 0)), none, none, some (.int x3)] 61 [] := by
  intro n
  induction n with
  | zero => intro x3 S q  h _; cases h
  | succ n ih =>
    intro x3 S q  h hq
    rw [M_X10_readAll_61_s] at h
    refine r_iload_n (pc := 61) C (i := 3) dX10_readAll_61 rfl rfl ?_
    refine r_iconst (pc := 62) C (v := (-1)) dX10_readAll_62 (by decide) ?_
    refine r_icmp_eq (pc := 63) C (tgt := 79) dX10_readAll_63 rfl (fun c12 => ?_) (fun c12 => ?_)
    · rw [if_pos c12] at h
      refine r_weak (lSub_s (lSub_n (lSub_n (lSub_n lSub_e)))) ?_
      exact N_X10_readAll_79 C a k k S q  h hq
    · rw [if_neg c12] at h
      refine r_aload_n (pc := 66) C (i := 0) dX10_readAll_66 rfl rfl ?_
      refine r_iload_n (pc := 67) C (i := 3) dX10_readAll_67 rfl rfl ?_
      obtain ⟨q13, hq13, h⟩ := bnd h
      refine r_callV_CV (Cn := RX10) (pc := 68) C [.int x3] (c_X10_readSetting E l k a S x3 hq13) [0, 1, 2, 3, 4, 5, 6, 7, 8, 9, 10, 11, 12] rfl (by decide) 0 rfl rfl rfl g_X10_434 hd_X10_readSetting ⟨Nat.le_of_ble_eq_true rfl, Nat.le_of_ble_eq_true rfl⟩ ⟨Nat.zero_le _, Nat.zero_le _⟩ (Nat.le_of_ble_eq_true rfl) rfl dX10_readAll_68 (fun w1 hw1 => ?_)
      subst hw1
      refine ⟨(wMd E a q13), by rfl, ?_⟩
      refine r_aload_n (pc := 71) C (i := 0) dX10_readAll_71 rfl rfl ?_
      obtain ⟨q14, hq14, h⟩ := bnd h
      refine r_callVp_CI (Cn := RX10) (pc := 72) C [] (c_X10_settingHere E l k a q13 hq14) [0, 1, 2, 3, 4, 5, 6, 7, 8, 9, 10, 11, 12] rfl (by decide) 0 rfl rfl rfl g_X10_431 hd_X10_settingHere ⟨Nat.le_of_ble_eq_true rfl, Nat.le_of_ble_eq_true rfl⟩ ⟨Nat.zero_le _, Nat.zero_le _⟩ (Nat.le_of_ble_eq_true rfl) rfl dX10_readAll_72 (fun r hr => ?_)
      have hr := hr.symm
      subst hr
      refine r_istore_n (pc := 75) C (i := 3) dX10_readAll_75 rfl (by decide) rfl ?_
      refine r_goto (pc := 76) C (tgt := 61) dX10_readAll_76 rfl ?_
      refine r_weak (lSub_s (lSub_n (lSub_n (lSub_s lSub_e)))) ?_
      exact ih q14 q13 q  h hq
def M_X10_readAll_0 (k : Nat) (S : Nat → Nat → Int32) : Option ((Nat → Nat → Int32)) := (M_X10_expectWord k S 72).bind fun q15 => (M_X10_readNumber k q15 (2 : Int32) (12 : Int32)).bind fun q16 => (M_X10_expectWord k q16.2 73).bind fun q17 => (M_X10_readNumber k q17 (1 : Int32) (if q16.1 < (4 : Int32) then q16.1 else (4 : Int32))).bind fun q18 => (M_X10_expect k q18.2 (59 : Int32)).bind fun q19 => if (q19 0 11) = 0 then ((M_X10_layWorkers k 1692 (q19 2) q16.1 q18.1).bind fun q21 => lt (va_up q19 2 q21) fun F22 => (M_X10_settingHere k F22).bind fun q23 => M_X10_readAll_61 k k q23 F22) else (some q19)
set_option maxRecDepth 100000 in
set_option maxHeartbeats 4000000 in
theorem N_X10_readAll_0 (C : CX E p l s m args meth c cX10_readAll 4 RX10 none A) (a : Nat → Nat) (k : Nat) {post : va_W → Prop} :
    ∀ (S : Nat → Nat → Int32) (q : (Nat → Nat → Int32)), M_X10_readAll_0 k S = some q → post (wMd E a q) →
      WW E p l e rm_X10_readAll s m args below meth c A 0 0 (QV E below post args s rm_X10_readAll A) (wMd E a S) 4 [some (.ref (a 0)), none, none, none] 0 [] := by
  intro S q  h hq
  unfold M_X10_readAll_0 at h
  refine r_aload_n (pc := 0) C (i := 0) dX10_readAll_0 rfl rfl ?_
  refine r_ldcwS (pc := 1) C 72 rfl dX10_readAll_1 ?_
  obtain ⟨q15, hq15, h⟩ := bnd h
  refine r_callV_CV (Cn := RX10) (pc := 4) C [.ref (eS E 72)] (c_X10_expectWord E l k a S 72 (by decide) hq15) [0, 1, 2, 3, 4, 5, 6, 7, 8, 9, 10, 11, 12] rfl (by decide) 0 rfl rfl rfl g_X10_426 hd_X10_expectWord ⟨Nat.le_of_ble_eq_true rfl, Nat.le_of_ble_eq_true rfl⟩ ⟨Nat.zero_le _, Nat.zero_le _⟩ (Nat.le_of_ble_eq_true rfl) rfl dX10_readAll_4 (fun w1 hw1 => ?_)
  subst hw1
  refine ⟨(wMd E a q15), by rfl, ?_⟩
  refine r_aload_n (pc := 7) C (i := 0) dX10_readAll_7 rfl rfl ?_
  refine r_iconst (pc := 8) C (v := 2) dX10_readAll_8 (by decide) ?_
  refine r_bipush (pc := 9) C (v := 12) dX10_readAll_9 (by decide) ?_
  obtain ⟨q16, hq16, h⟩ := bnd h
  refine r_callV_CI (Cn := RX10) (pc := 11) C [.int (2 : Int32), .int (12 : Int32)] (c_X10_readNumber E l k a q15 (2 : Int32) (12 : Int32) hq16) [0, 1, 2, 3, 4, 5, 6, 7, 8, 9, 10, 11, 12] rfl (by decide) 0 rfl rfl rfl g_X10_416 hd_X10_readNumber ⟨Nat.le_of_ble_eq_true rfl, Nat.le_of_ble_eq_true rfl⟩ ⟨Nat.zero_le _, Nat.zero_le _⟩ (Nat.le_of_ble_eq_true rfl) rfl dX10_readAll_11 (fun r w1 hw1 => ?_)
  obtain ⟨hr1, hw1⟩ := hw1
  subst hr1 hw1
  refine ⟨(wMd E a q16.2), by rfl, ?_⟩
  refine r_istore_n (pc := 14) C (i := 1) dX10_readAll_14 rfl (by decide) rfl ?_
  refine r_aload_n (pc := 15) C (i := 0) dX10_readAll_15 rfl rfl ?_
  refine r_ldcwS (pc := 16) C 73 rfl dX10_readAll_16 ?_
  obtain ⟨q17, hq17, h⟩ := bnd h
  refine r_callV_CV (Cn := RX10) (pc := 19) C [.ref (eS E 73)] (c_X10_expectWord E l k a q16.2 73 (by decide) hq17) [0, 1, 2, 3, 4, 5, 6, 7, 8, 9, 10, 11, 12] rfl (by decide) 0 rfl rfl rfl g_X10_426 hd_X10_expectWord ⟨Nat.le_of_ble_eq_true rfl, Nat.le_of_ble_eq_true rfl⟩ ⟨Nat.zero_le _, Nat.zero_le _⟩ (Nat.le_of_ble_eq_true rfl) rfl dX10_readAll_19 (fun w1 hw1 => ?_)
  subst hw1
  refine ⟨(wMd E a q17), by rfl, ?_⟩
  refine r_aload_n (pc := 22) C (i := 0) dX10_readAll_22 rfl rfl ?_
  refine r_iconst (pc := 23) C (v := 1) dX10_readAll_23 (by decide) ?_
  refine r_iconst (pc := 24) C (v := 4) dX10_readAll_24 (by decide) ?_
  refine r_iload_n (pc := 25) C (i := 1) dX10_readAll_25 rfl rfl ?_
  refine r_mmin (pc := 26) C wm_7_30 wm_2_101 wm_1_14 wm_2_102 ⟨Nat.le_of_ble_eq_true rfl, Nat.le_of_ble_eq_true rfl, Nat.zero_le _, Nat.zero_le _⟩ (Nat.le_of_ble_eq_true rfl) dX10_readAll_26 ?_
  obtain ⟨q18, hq18, h⟩ := bnd h
  refine r_callV_CI (Cn := RX10) (pc := 29) C [.int (1 : Int32), .int (if q16.1 < (4 : Int32) then q16.1 else (4 : Int32))] (c_X10_readNumber E l k a q17 (1 : Int32) (if q16.1 < (4 : Int32) then q16.1 else (4 : Int32)) hq18) [0, 1, 2, 3, 4, 5, 6, 7, 8, 9, 10, 11, 12] rfl (by decide) 0 rfl rfl rfl g_X10_416 hd_X10_readNumber ⟨Nat.le_of_ble_eq_true rfl, Nat.le_of_ble_eq_true rfl⟩ ⟨Nat.zero_le _, Nat.zero_le _⟩ (Nat.le_of_ble_eq_true rfl) rfl dX10_readAll_29 (fun r w1 hw1 => ?_)
  obtain ⟨hr1, hw1⟩ := hw1
  subst hr1 hw1
  refine ⟨(wMd E a q18.2), by rfl, ?_⟩
  refine r_istore_n (pc := 32) C (i := 2) dX10_readAll_32 rfl (by decide) rfl ?_
  refine r_aload_n (pc := 33) C (i := 0) dX10_readAll_33 rfl rfl ?_
  refine r_bipush (pc := 34) C (v := 59) dX10_readAll_34 (by decide) ?_
  obtain ⟨q19, hq19, h⟩ := bnd h
  refine r_callV_CV (Cn := RX10) (pc := 36) C [.int (59 : Int32)] (c_X10_expect E l k a q18.2 (59 : Int32) hq19) [0, 1, 2, 3, 4, 5, 6, 7, 8, 9, 10, 11, 12] rfl (by decide) 0 rfl rfl rfl g_X10_419 hd_X10_expect ⟨Nat.le_of_ble_eq_true rfl, Nat.le_of_ble_eq_true rfl⟩ ⟨Nat.zero_le _, Nat.zero_le _⟩ (Nat.le_of_ble_eq_true rfl) rfl dX10_readAll_36 (fun w1 hw1 => ?_)
  subst hw1
  refine ⟨(wMd E a q19), by rfl, ?_⟩
  refine r_aload_n (pc := 39) C (i := 0) dX10_readAll_39 rfl rfl ?_
  refine r_get (pc := 40) C gwX10 0 rfl rfl 19 (by decide) wm_5_222 rfl dX10_readAll_40 ?_
  refine r_if_eq (pc := 43) C (tgt := 47) dX10_readAll_43 rfl (fun c20 => ?_) (fun c20 => ?_)
  · rw [if_pos c20] at h
    refine r_aload_n (pc := 47) C (i := 0) dX10_readAll_47 rfl rfl ?_
    refine r_get (pc := 48) C gwX10 0 rfl rfl 1 (by decide) wm_5_204 rfl dX10_readAll_48 ?_
    refine r_iload_n (pc := 51) C (i := 1) dX10_readAll_51 rfl rfl ?_
    refine r_iload_n (pc := 52) C (i := 2) dX10_readAll_52 rfl rfl ?_
    obtain ⟨q21, hq21, h⟩ := bnd h
    obtain ⟨F22, hF22, h⟩ := lt_e h
    refine r_callS_CV (pc := 53) C [.ref (a 2), .int q16.1, .int q18.1] (c_X10_layWorkers E l k (fun i => a (i + 2)) 1692 (q19 2) q16.1 q18.1 hq21) [2] rfl (by decide) g_X10_89 hd_X10_layWorkers.2 ⟨Nat.le_of_ble_eq_true rfl, Nat.le_of_ble_eq_true rfl⟩ ⟨Nat.zero_le _, Nat.zero_le _⟩ (Nat.le_of_ble_eq_true rfl) rfl dX10_readAll_53 (fun w1 hw1 => ?_)
    subst hw1
    refine ⟨(wMd E a F22), by rw [hF22]; rfl, ?_⟩
    refine r_aload_n (pc := 56) C (i := 0) dX10_readAll_56 rfl rfl ?_
    obtain ⟨q23, hq23, h⟩ := bnd h
    refine r_callVp_CI (Cn := RX10) (pc := 57) C [] (c_X10_settingHere E l k a F22 hq23) [0, 1, 2, 3, 4, 5, 6, 7, 8, 9, 10, 11, 12] rfl (by decide) 0 rfl rfl rfl g_X10_431 hd_X10_settingHere ⟨Nat.le_of_ble_eq_true rfl, Nat.le_of_ble_eq_true rfl⟩ ⟨Nat.zero_le _, Nat.zero_le _⟩ (Nat.le_of_ble_eq_true rfl) rfl dX10_readAll_57 (fun r hr => ?_)
    have hr := hr.symm
    subst hr
    refine r_istore_n (pc := 60) C (i := 3) dX10_readAll_60 rfl (by decide) rfl ?_
    refine r_weak (lSub_s (lSub_n (lSub_n (lSub_s lSub_e)))) ?_
    exact N_X10_readAll_61 C a k k q23 F22 q  h hq
  · rw [if_neg c20] at h
    cases h
    exact r_vret (pc := 46) C hq (Nat.zero_le _) (Nat.zero_le _) dX10_readAll_46
def M_X10_readAll (k : Nat) (S : Nat → Nat → Int32) : Option ((Nat → Nat → Int32)) := M_X10_readAll_0 k S
set_option maxRecDepth 100000 in
set_option maxHeartbeats 4000000 in
theorem c_X10_readAll (E : ENV) (l : Launch) (k : Nat) (a : Nat → Nat) (S : Nat → Nat → Int32) {q : (Nat → Nat → Int32)} (hm : M_X10_readAll k S = some q) : CV E l yX10_readAll cX10_readAll 4 none rm_X10_readAll [.ref (a 0)] (wMd E a S) (fun w' => w' = (wMd E a q)) :=
  CV.of 3 (by decide) (Nat.le_of_ble_eq_true rfl) (fun p e s m below meth c A C _ => r_weak (lSub_s (lSub_n (lSub_n (lSub_n lSub_e)))) (N_X10_readAll_0 C a k S q  hm rfl))
end WALKS
