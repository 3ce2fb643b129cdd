section WALKS
variable {E : ENV} {p : Program} {l : Launch} {e : Env} {s : State} {m : MethodId} {args : Array Value} {below : List Frame} {meth : Method} {c : Code} {A : Nat → Prop}
-- ShardGuard.leastSetting(I)I
theorem dX9_leastSetting_0 : decode cX9_leastSetting 0 = .ok (.iload_n 0, 1) := by decide +kernel
theorem dX9_leastSetting_1 : decode cX9_leastSetting 1 = .ok (.ifCond .lt 19, 3) := by decide +kernel
theorem dX9_leastSetting_4 : decode cX9_leastSetting 4 = .ok (.iload_n 0, 1) := by decide +kernel
theorem dX9_leastSetting_5 : decode cX9_leastSetting 5 = .ok (.getstatic 345, 3) := by decide +kernel
theorem dX9_leastSetting_8 : decode cX9_leastSetting 8 = .ok (.arraylength, 1) := by decide +kernel
theorem dX9_leastSetting_9 : decode cX9_leastSetting 9 = .ok (.if_icmp .ge 11, 3) := by decide +kernel
theorem dX9_leastSetting_12 : decode cX9_leastSetting 12 = .ok (.getstatic 345, 3) := by decide +kernel
theorem dX9_leastSetting_15 : decode cX9_leastSetting 15 = .ok (.iload_n 0, 1) := by decide +kernel
theorem dX9_leastSetting_16 : decode cX9_leastSetting 16 = .ok (.iaload, 1) := by decide +kernel
theorem dX9_leastSetting_17 : decode cX9_leastSetting 17 = .ok (.goto 4, 3) := by decide +kernel
theorem dX9_leastSetting_20 : decode cX9_leastSetting 20 = .ok (.iconst 0, 1) := by decide +kernel
theorem dX9_leastSetting_21 : decode cX9_leastSetting 21 = .ok (.ireturn, 1) := by decide +kernel
def rm_X9_leastSetting : Room := { frames := 0, cells := 0, slots := 0, locals := 0 }
def M_X9_leastSetting_0 (k : Nat) (p0 : Int32) : Option (Int32) := if p0 < 0 then (some (0 : Int32)) else (if (nI ([1, 0, 1, 1, 1] : List Int32).length) ≤ p0 then (some (0 : Int32)) else ((if inb p0 ([1, 0, 1, 1, 1] : List Int32).length = true then some (([1, 0, 1, 1, 1] : List Int32).getD p0.toNatClampNeg 0) else none)))
set_option maxRecDepth 100000 in
set_option maxHeartbeats 4000000 in
theorem N_X9_leastSetting_0 (C : CX E p l s m args meth c cX9_leastSetting 1 RX9 (some .int) A) (k : Nat) {post : Int32 → va_W → Prop} :
    ∀ (p0 : Int32) (q : Int32), M_X9_leastSetting_0 k p0 = some q → post q ([] : va_W) →
      WW E p l e rm_X9_leastSetting s m args below meth c A 0 0 (QI E below post args s rm_X9_leastSetting A) ([] : va_W) 1 [some (.int p0)] 0 [] := by
  intro p0 q  h hq
  unfold M_X9_leastSetting_0 at h
  refine r_iload_n (pc := 0) C (i := 0) dX9_leastSetting_0 rfl rfl ?_
  refine r_if_lt (pc := 1) C (tgt := 20) dX9_leastSetting_1 rfl (fun c1 => ?_) (fun c1 => ?_)
  · rw [if_pos c1] at h
    refine r_iconst (pc := 20) C (v := 0) dX9_leastSetting_20 (by decide) ?_
    cases h
    exact r_ireti (pc := 21) C hq (Nat.zero_le _) (Nat.zero_le _) dX9_leastSetting_21
  · rw [if_neg c1] at h
    refine r_iload_n (pc := 4) C (i := 0) dX9_leastSetting_4 rfl rfl ?_
    refine r_getsS (pc := 5) C C.2.2.2.2.2.2.1.least wm_3_126 dX9_leastSetting_5 (fun t2 ht2 => ?_)
    refine r_stlen (pc := 8) C ht2 dX9_leastSetting_8 ?_
    refine r_icmp_ge (pc := 9) C (tgt := 20) dX9_leastSetting_9 rfl (fun c3 => ?_) (fun c3 => ?_)
    · rw [if_pos c3] at h
      refine r_iconst (pc := 20) C (v := 0) dX9_leastSetting_20 (by decide) ?_
      cases h
      exact r_ireti (pc := 21) C hq (Nat.zero_le _) (Nat.zero_le _) dX9_leastSetting_21
    · rw [if_neg c3] at h
      refine r_getsS (pc := 12) C C.2.2.2.2.2.2.1.least wm_3_126 dX9_leastSetting_12 (fun t4 ht4 => ?_)
      refine r_iload_n (pc := 15) C (i := 0) dX9_leastSetting_15 rfl rfl ?_
      obtain ⟨hi5, h⟩ := ifn h
      refine r_stald (pc := 16) C ht4 hi5 dX9_leastSetting_16 ?_
      refine r_goto (pc := 17) C (tgt := 21) dX9_leastSetting_17 rfl ?_
      cases h
      exact r_ireti (pc := 21) C hq (Nat.zero_le _) (Nat.zero_le _) dX9_leastSetting_21
def M_X9_leastSetting (k : Nat) (p0 : Int32) : Option (Int32) := M_X9_leastSetting_0 k p0
set_option maxRecDepth 100000 in
set_option maxHeartbeats 4000000 in
theorem c_X9_leastSetting (E : ENV) (l : Launch) (k : Nat) (p0 : Int32) {q : Int32} (hm : M_X9_leastSetting k p0 = some q) : CI E l yX9_leastSetting cX9_leastSetting 1 (some .int) rm_X9_leastSetting [.int p0] ([] : va_W) (fun r w' => r = q ∧ w' = ([] : va_W)) :=
  CI.of 0 (by decide) (Nat.le_of_ble_eq_true rfl) (fun p e s m below meth c A C _ => r_weak (lSub_s lSub_e) (N_X9_leastSetting_0 C k p0 q  hm ⟨rfl, rfl⟩))
-- ShardGuard.greatestSetting(I)I
theorem dX9_greatestSetting_0 : decode cX9_greatestSetting 0 = .ok (.iload_n 0, 1) := by decide +kernel
theorem dX9_greatestSetting_1 : decode cX9_greatestSetting 1 = .ok (.ifCond .lt 19, 3) := by decide +kernel
theorem dX9_greatestSetting_4 : decode cX9_greatestSetting 4 = .ok (.iload_n 0, 1) := by decide +kernel
theorem dX9_greatestSetting_5 : decode cX9_greatestSetting 5 = .ok (.getstatic 349, 3) := by decide +kernel
theorem dX9_greatestSetting_8 : decode cX9_greatestSetting 8 = .ok (.arraylength, 1) := by decide +kernel
theorem dX9_greatestSetting_9 : decode cX9_greatestSetting 9 = .ok (.if_icmp .ge 11, 3) := by decide +kernel
theorem dX9_greatestSetting_12 : decode cX9_greatestSetting 12 = .ok (.getstatic 349, 3) := by decide +kernel
theorem dX9_greatestSetting_15 : decode cX9_greatestSetting 15 = .ok (.iload_n 0, 1) := by decide +kernel
theorem dX9_greatestSetting_16 : decode cX9_greatestSetting 16 = .ok (.iaload, 1) := by decide +kernel
theorem dX9_greatestSetting_17 : decode cX9_greatestSetting 17 = .ok (.goto 4, 3) := by decide +kernel
theorem dX9_greatestSetting_20 : decode cX9_greatestSetting 20 = .ok (.iconst 0, 1) := by decide +kernel
theorem dX9_greatestSetting_21 : decode cX9_greatestSetting 21 = .ok (.ireturn, 1) := by decide +kernel
def rm_X9_greatestSetting : Room := { frames := 0, cells := 0, slots := 0, locals := 0 }
def M_X9_greatestSetting_0 (k : Nat) (p0 : Int32) : Option (Int32) := if p0 < 0 then (some (0 : Int32)) else (if (nI ([50, 5, 9, 99, 999] : List Int32).length) ≤ p0 then (some (0 : Int32)) else ((if inb p0 ([50, 5, 9, 99, 999] : List Int32).length = true then some (([50, 5, 9, 99, 999] : List Int32).getD p0.toNatClampNeg 0) else none)))
set_option maxRecDepth 100000 in
set_option maxHeartbeats 4000000 in
theorem N_X9_greatestSetting_0 (C : CX E p l s m args meth c cX9_greatestSetting 1 RX9 (some .int) A) (k : Nat) {post : Int32 → va_W → Prop} :
    ∀ (p0 : Int32) (q : Int32), M_X9_greatestSetting_0 k p0 = some q → post q ([] : va_W) →
      WW E p l e rm_X9_greatestSetting s m args below meth c A 0 0 (QI E below post args s rm_X9_greatestSetting A) ([] : va_W) 1 [some (.int p0)] 0 [] := by
  intro p0 q  h hq
  unfold M_X9_greatestSetting_0 at h
  refine r_iload_n (pc := 0) C (i := 0) dX9_greatestSetting_0 rfl rfl ?_
  refine r_if_lt (pc := 1) C (tgt := 20) dX9_greatestSetting_1 rfl (fun c1 => ?_) (fun c1 => ?_)
  · rw [if_pos c1] at h
    refine r_iconst (pc := 20) C (v := 0) dX9_greatestSetting_20 (by decide) ?_
    cases h
    exact r_ireti (pc := 21) C hq (Nat.zero_le _) (Nat.zero_le _) dX9_greatestSetting_21
  · rw [if_neg c1] at h
    refine r_iload_n (pc := 4) C (i := 0) dX9_greatestSetting_4 rfl rfl ?_
    refine r_getsS (pc := 5) C C.2.2.2.2.2.2.1.greatest wm_3_131 dX9_greatestSetting_5 (fun t2 ht2 => ?_)
    refine r_stlen (pc := 8) C ht2 dX9_greatestSetting_8 ?_
    refine r_icmp_ge (pc := 9) C (tgt := 20) dX9_greatestSetting_9 rfl (fun c3 => ?_) (fun c3 => ?_)
    · rw [if_pos c3] at h
      refine r_iconst (pc := 20) C (v := 0) dX9_greatestSetting_20 (by decide) ?_
      cases h
      exact r_ireti (pc := 21) C hq (Nat.zero_le _) (Nat.zero_le _) dX9_greatestSetting_21
    · rw [if_neg c3] at h
      refine r_getsS (pc := 12) C C.2.2.2.2.2.2.1.greatest wm_3_131 dX9_greatestSetting_12 (fun t4 ht4 => ?_)
      refine r_iload_n (pc := 15) C (i := 0) dX9_greatestSetting_15 rfl rfl ?_
      obtain ⟨hi5, h⟩ := ifn h
      refine r_stald (pc := 16) C ht4 hi5 dX9_greatestSetting_16 ?_
      refine r_goto (pc := 17) C (tgt := 21) dX9_greatestSetting_17 rfl ?_
      cases h
      exact r_ireti (pc := 21) C hq (Nat.zero_le _) (Nat.zero_le _) dX9_greatestSetting_21
def M_X9_greatestSetting (k : Nat) (p0 : Int32) : Option (Int32) := M_X9_greatestSetting_0 k p0
set_option maxRecDepth 100000 in
set_option maxHeartbeats 4000000 in
theorem c_X9_greatestSetting (E : ENV) (l : Launch) (k : Nat) (p0 : Int32) {q : Int32} (hm : M_X9_greatestSetting k p0 = some q) : CI E l yX9_greatestSetting cX9_greatestSetting 1 (some .int) rm_X9_greatestSetting [.int p0] ([] : va_W) (fun r w' => r = q ∧ w' = ([] : va_W)) :=
  CI.of 0 (by decide) (Nat.le_of_ble_eq_true rfl) (fun p e s m below meth c A C _ => r_weak (lSub_s lSub_e) (N_X9_greatestSetting_0 C k p0 q  hm ⟨rfl, rfl⟩))
theorem hd_X7_take : yX7_take.cls = RX7 ∧ yX7_take.cls ≠ "java/lang/invoke/MethodHandle" ∧ yX7_take.cls ≠ "java/lang/invoke/VarHandle" ∧ (parseMethodDescriptor yX7_take.desc).map (fun d => d.parameters.length) = some 1 := by decide +kernel
theorem g_X1_31 : GoodIn GW (wsV RX1 31 RX7 yX7_take (wsG yX7_take cX7_take 2 none)) := gw_V wm_3_37 wm_3_38 wm_3_39 wm_1_7 wm_3_40
theorem hd_X7_takeNumber : yX7_takeNumber.cls = RX7 ∧ yX7_takeNumber.cls ≠ "java/lang/invoke/MethodHandle" ∧ yX7_takeNumber.cls ≠ "java/lang/invoke/VarHandle" ∧ (parseMethodDescriptor yX7_takeNumber.desc).map (fun d => d.parameters.length) = some 2 := by decide +kernel
theorem g_X1_35 : GoodIn GW (wsV RX1 35 RX7 yX7_takeNumber (wsG yX7_takeNumber cX7_takeNumber 4 (some .int))) := gw_V wm_3_101 wm_3_102 wm_3_103 wm_1_7 wm_3_104
theorem g_X1_48 : GoodIn GW (wsV RX1 48 RX7 yX7_isGood (wsG yX7_isGood cX7_isGood 1 (some .boolean))) := gw_V wm_3_108 wm_3_46 wm_3_47 wm_1_7 wm_3_48
theorem hd_X0_begin : yX0_begin.cls = RX0 ∧ yX0_begin.cls ≠ "java/lang/invoke/MethodHandle" ∧ yX0_begin.cls ≠ "java/lang/invoke/VarHandle" ∧ (parseMethodDescriptor yX0_begin.desc).map (fun d => d.parameters.length) = some 2 := by decide +kernel
theorem g_X1_52 : GoodIn GW (wsV RX1 52 RX0 yX0_begin (wsG yX0_begin cX0_begin 4 none)) := gw_V wm_3_109 wm_1_226 wm_1_227 wm_1_2 wm_1_228
-- ShardGuard$FleetText.readWorkers(LShardGuard$Tokens;LShardGuard$Fleet;)V
set_option maxHeartbeats 8000000 in
theorem hp_X1_readWorkers_0 (E : ENV) (a : Nat → Nat) (b : Nat → Nat) (S : Nat → Nat → Int32) (T : Nat → Nat → Int32) : ([0, 1, 2] : List Nat).map (fun i => (wTk E a S ++ wFl E b T)[i]?) = (wTk E a S).map some := (seg_mapL ([] : va_W) (wTk E a S) (wFl E b T) rfl 3 rfl [0, 1, 2] rfl)
set_option maxHeartbeats 8000000 in
theorem pw_X1_readWorkers_0 (E : ENV) (a : Nat → Nat) (b : Nat → Nat) (S : Nat → Nat → Int32) (T : Nat → Nat → Int32) (X0 : Nat → Nat → Int32) : putW (wTk E a S ++ wFl E b T) [0, 1, 2] (wTk E a X0) = some (wTk E a X0 ++ wFl E b T) := seg_put1 ([] : va_W) (wTk E a S) (wTk E a X0) (wFl E b T) rfl rfl 3 rfl rfl [0, 1, 2] rfl
set_option maxHeartbeats 8000000 in
theorem hp_X1_readWorkers_1 (E : ENV) (a : Nat → Nat) (b : Nat → Nat) (S : Nat → Nat → Int32) (T : Nat → Nat → Int32) : ([3, 4, 5, 6, 7, 8, 9, 10, 11, 12, 13, 14, 15, 16, 17, 18, 19, 20] : List Nat).map (fun i => (wTk E a S ++ wFl E b T)[i]?) = (wFl E b T).map some := (seg_mapE (wTk E a S) (wFl E b T) rfl 18 rfl [3, 4, 5, 6, 7, 8, 9, 10, 11, 12, 13, 14, 15, 16, 17, 18, 19, 20] rfl)
set_option maxHeartbeats 8000000 in
theorem pw_X1_readWorkers_1 (E : ENV) (a : Nat → Nat) (b : Nat → Nat) (S : Nat → Nat → Int32) (T : Nat → Nat → Int32) (X0 : Nat → Nat → Int32) : putW (wTk E a S ++ wFl E b T) [3, 4, 5, 6, 7, 8, 9, 10, 11, 12, 13, 14, 15, 16, 17, 18, 19, 20] (wFl E b X0) = some (wTk E a S ++ wFl E b X0) := seg_putE (wTk E a S) (wFl E b T) (wFl E b X0) rfl rfl 18 rfl rfl [3, 4, 5, 6, 7, 8, 9, 10, 11, 12, 13, 14, 15, 16, 17, 18, 19, 20] rfl
theorem dX1_readWorkers_0 : decode cX1_readWorkers 0 = .ok (.aload_n 0, 1) := by decide +kernel
theorem dX1_readWorkers_1 : decode cX1_readWorkers 1 = .ok (.ldc 29, 2) := by decide +kernel
theorem dX1_readWorkers_3 : decode cX1_readWorkers 3 = .ok (.invokevirtual 31, 3) := by decide +kernel
theorem dX1_readWorkers_6 : decode cX1_readWorkers 6 = .ok (.aload_n 0, 1) := by decide +kernel
theorem dX1_readWorkers_7 : decode cX1_readWorkers 7 = .ok (.iconst 2, 1) := by decide +kernel
theorem dX1_readWorkers_8 : decode cX1_readWorkers 8 = .ok (.bipush 12, 2) := by decide +kernel
theorem dX1_readWorkers_10 : decode cX1_readWorkers 10 = .ok (.invokevirtual 35, 3) := by decide +kernel
theorem dX1_readWorkers_13 : decode cX1_readWorkers 13 = .ok (.istore_n 2, 1) := by decide +kernel
theorem dX1_readWorkers_14 : decode cX1_readWorkers 14 = .ok (.aload_n 0, 1) := by decide +kernel
theorem dX1_readWorkers_15 : decode cX1_readWorkers 15 = .ok (.ldc 39, 2) := by decide +kernel
theorem dX1_readWorkers_17 : decode cX1_readWorkers 17 = .ok (.invokevirtual 31, 3) := by decide +kernel
theorem dX1_readWorkers_20 : decode cX1_readWorkers 20 = .ok (.aload_n 0, 1) := by decide +kernel
theorem dX1_readWorkers_21 : decode cX1_readWorkers 21 = .ok (.iconst 1, 1) := by decide +kernel
theorem dX1_readWorkers_22 : decode cX1_readWorkers 22 = .ok (.iconst 4, 1) := by decide +kernel
theorem dX1_readWorkers_23 : decode cX1_readWorkers 23 = .ok (.iload_n 2, 1) := by decide +kernel
theorem dX1_readWorkers_24 : decode cX1_readWorkers 24 = .ok (.invokestatic 41, 3) := by decide +kernel
theorem dX1_readWorkers_27 : decode cX1_readWorkers 27 = .ok (.invokevirtual 35, 3) := by decide +kernel
theorem dX1_readWorkers_30 : decode cX1_readWorkers 30 = .ok (.istore_n 3, 1) := by decide +kernel
theorem dX1_readWorkers_31 : decode cX1_readWorkers 31 = .ok (.aload_n 0, 1) := by decide +kernel
theorem dX1_readWorkers_32 : decode cX1_readWorkers 32 = .ok (.ldc 46, 2) := by decide +kernel
theorem dX1_readWorkers_34 : decode cX1_readWorkers 34 = .ok (.invokevirtual 31, 3) := by decide +kernel
theorem dX1_readWorkers_37 : decode cX1_readWorkers 37 = .ok (.aload_n 0, 1) := by decide +kernel
theorem dX1_readWorkers_38 : decode cX1_readWorkers 38 = .ok (.invokevirtual 48, 3) := by decide +kernel
theorem dX1_readWorkers_41 : decode cX1_readWorkers 41 = .ok (.ifCond .eq 9, 3) := by decide +kernel
theorem dX1_readWorkers_44 : decode cX1_readWorkers 44 = .ok (.aload_n 1, 1) := by decide +kernel
theorem dX1_readWorkers_45 : decode cX1_readWorkers 45 = .ok (.iload_n 2, 1) := by decide +kernel
theorem dX1_readWorkers_46 : decode cX1_readWorkers 46 = .ok (.iload_n 3, 1) := by decide +kernel
theorem dX1_readWorkers_47 : decode cX1_readWorkers 47 = .ok (.invokevirtual 52, 3) := by decide +kernel
theorem dX1_readWorkers_50 : decode cX1_readWorkers 50 = .ok (.return_, 1) := by decide +kernel
def rm_X1_readWorkers : Room := { frames := 8, cells := 0, slots := 0, locals := 193 }
def M_X1_readWorkers_0 (k : Nat) (S : Nat → Nat → Int32) (T : Nat → Nat → Int32) : Option ((Nat → Nat → Int32) × (Nat → Nat → Int32)) := (M_X7_take k S 1).bind fun q1 => (M_X7_takeNumber k q1 (2 : Int32) (12 : Int32)).bind fun q2 => (M_X7_take k q2.2 2).bind fun q3 => (M_X7_takeNumber k q3 (1 : Int32) (if q2.1 < (4 : Int32) then q2.1 else (4 : Int32))).bind fun q4 => (M_X7_take k q4.2 3).bind fun q5 => (M_X7_isGood k q5).bind fun q6 => if q6 = 0 then (some (q5, T)) else ((M_X0_begin k T q2.1 q4.1).bind fun q8 => some (q5, q8))
set_option maxRecDepth 100000 in
set_option maxHeartbeats 4000000 in
theorem N_X1_readWorkers_0 (C : CX E p l s m args meth c cX1_readWorkers 4 RX1 none A) (a : Nat → Nat) (b : Nat → Nat) (k : Nat) {post : va_W → Prop} :
    ∀ (S : Nat → Nat → Int32) (T : Nat → Nat → Int32) (q : (Nat → Nat → Int32) × (Nat → Nat → Int32)), M_X1_readWorkers_0 k S T = some q → post (wTk E a q.1 ++ wFl E b q.2) →
      WW E p l e rm_X1_readWorkers s m args below meth c A 0 0 (QV E below post args s rm_X1_readWorkers A) (wTk E a S ++ wFl E b T) 4 [some (.ref (a 0)), some (.ref (b 0)), none, none] 0 [] := by
  intro S T q  h hq
  unfold M_X1_readWorkers_0 at h
  refine r_aload_n (pc := 0) C (i := 0) dX1_readWorkers_0 rfl rfl ?_
  refine r_ldcS (pc := 1) C 1 rfl dX1_readWorkers_1 ?_
  obtain ⟨q1, hq1, h⟩ := bnd h
  refine r_callV_CV (Cn := RX7) (pc := 3) C [.ref (eS E 1)] (c_X7_take E l k a S 1 (by decide) hq1) [0, 1, 2] (hp_X1_readWorkers_0 E a b S T) (by decide) 0 rfl rfl rfl g_X1_31 hd_X7_take ⟨Nat.le_of_ble_eq_true rfl, Nat.le_of_ble_eq_true rfl⟩ ⟨Nat.zero_le _, Nat.zero_le _⟩ (Nat.le_of_ble_eq_true rfl) rfl dX1_readWorkers_3 (fun w1 hw1 => ?_)
  subst hw1
  refine ⟨(wTk E a q1 ++ wFl E b T), by exact (pw_X1_readWorkers_0 E a b S T q1), ?_⟩
  refine r_aload_n (pc := 6) C (i := 0) dX1_readWorkers_6 rfl rfl ?_
  refine r_iconst (pc := 7) C (v := 2) dX1_readWorkers_7 (by decide) ?_
  refine r_bipush (pc := 8) C (v := 12) dX1_readWorkers_8 (by decide) ?_
  obtain ⟨q2, hq2, h⟩ := bnd h
  refine r_callV_CI (Cn := RX7) (pc := 10) C [.int (2 : Int32), .int (12 : Int32)] (c_X7_takeNumber E l k a q1 (2 : Int32) (12 : Int32) hq2) [0, 1, 2] (hp_X1_readWorkers_0 E a b q1 T) (by decide) 0 rfl rfl rfl g_X1_35 hd_X7_takeNumber ⟨Nat.le_of_ble_eq_true rfl, Nat.le_of_ble_eq_true rfl⟩ ⟨Nat.zero_le _, Nat.zero_le _⟩ (Nat.le_of_ble_eq_true rfl) rfl dX1_readWorkers_10 (fun r w1 hw1 => ?_)
  obtain ⟨hr1, hw1⟩ := hw1
  subst hr1 hw1
  refine ⟨(wTk E a q2.2 ++ wFl E b T), by exact (pw_X1_readWorkers_0 E a b q1 T q2.2), ?_⟩
  refine r_istore_n (pc := 13) C (i := 2) dX1_readWorkers_13 rfl (by decide) rfl ?_
  refine r_aload_n (pc := 14) C (i := 0) dX1_readWorkers_14 rfl rfl ?_
  refine r_ldcS (pc := 15) C 2 rfl dX1_readWorkers_15 ?_
  obtain ⟨q3, hq3, h⟩ := bnd h
  refine r_callV_CV (Cn := RX7) (pc := 17) C [.ref (eS E 2)] (c_X7_take E l k a q2.2 2 (by decide) hq3) [0, 1, 2] (hp_X1_readWorkers_0 E a b q2.2 T) (by decide) 0 rfl rfl rfl g_X1_31 hd_X7_take ⟨Nat.le_of_ble_eq_true rfl, Nat.le_of_ble_eq_true rfl⟩ ⟨Nat.zero_le _, Nat.zero_le _⟩ (Nat.le_of_ble_eq_true rfl) rfl dX1_readWorkers_17 (fun w1 hw1 => ?_)
  subst hw1
  refine ⟨(wTk E a q3 ++ wFl E b T), by exact (pw_X1_readWorkers_0 E a b q2.2 T q3), ?_⟩
  refine r_aload_n (pc := 20) C (i := 0) dX1_readWorkers_20 rfl rfl ?_
  refine r_iconst (pc := 21) C (v := 1) dX1_readWorkers_21 (by decide) ?_
  refine r_iconst (pc := 22) C (v := 4) dX1_readWorkers_22 (by decide) ?_
  refine r_iload_n (pc := 23) C (i := 2) dX1_readWorkers_23 rfl rfl ?_
  refine r_mmin (pc := 24) C wm_3_106 wm_2_101 wm_1_14 wm_2_102 ⟨Nat.le_of_ble_eq_true rfl, Nat.le_of_ble_eq_true rfl, Nat.zero_le _, Nat.zero_le _⟩ (Nat.le_of_ble_eq_true rfl) dX1_readWorkers_24 ?_
  obtain ⟨q4, hq4, h⟩ := bnd h
  refine r_callV_CI (Cn := RX7) (pc := 27) C [.int (1 : Int32), .int (if q2.1 < (4 : Int32) then q2.1 else (4 : Int32))] (c_X7_takeNumber E l k a q3 (1 : Int32) (if q2.1 < (4 : Int32) then q2.1 else (4 : Int32)) hq4) [0, 1, 2] (hp_X1_readWorkers_0 E a b q3 T) (by decide) 0 rfl rfl rfl g_X1_35 hd_X7_takeNumber ⟨Nat.le_of_ble_eq_true rfl, Nat.le_of_ble_eq_true rfl⟩ ⟨Nat.zero_le _, Nat.zero_le _⟩ (Nat.le_of_ble_eq_true rfl) rfl dX1_readWorkers_27 (fun r w1 hw1 => ?_)
  obtain ⟨hr1, hw1⟩ := hw1
  subst hr1 hw1
  refine ⟨(wTk E a q4.2 ++ wFl E b T), by exact (pw_X1_readWorkers_0 E a b q3 T q4.2), ?_⟩
  refine r_istore_n (pc := 30) C (i := 3) dX1_readWorkers_30 rfl (by decide) rfl ?_
  refine r_aload_n (pc := 31) C (i := 0) dX1_readWorkers_31 rfl rfl ?_
  refine r_ldcS (pc := 32) C 3 rfl dX1_readWorkers_32 ?_
  obtain ⟨q5, hq5, h⟩ := bnd h
  refine r_callV_CV (Cn := RX7) (pc := 34) C [.ref (eS E 3)] (c_X7_take E l k a q4.2 3 (by decide) hq5) [0, 1, 2] (hp_X1_readWorkers_0 E a b q4.2 T) (by decide) 0 rfl rfl rfl g_X1_31 hd_X7_take ⟨Nat.le_of_ble_eq_true rfl, Nat.le_of_ble_eq_true rfl⟩ ⟨Nat.zero_le _, Nat.zero_le _⟩ (Nat.le_of_ble_eq_true rfl) rfl dX1_readWorkers_34 (fun w1 hw1 => ?_)
  subst hw1
  refine ⟨(wTk E a q5 ++ wFl E b T), by exact (pw_X1_readWorkers_0 E a b q4.2 T q5), ?_⟩
  refine r_aload_n (pc := 37) C (i := 0) dX1_readWorkers_37 rfl rfl ?_
  obtain ⟨q6, hq6, h⟩ := bnd h
  refine r_callVp_CI (Cn := RX7) (pc := 38) C [] (c_X7_isGood E l k a q5 hq6) [0, 1, 2] (hp_X1_readWorkers_0 E a b q5 T) (by decide) 0 rfl rfl rfl g_X1_48 hd_X7_isGood ⟨Nat.le_of_ble_eq_true rfl, Nat.le_of_ble_eq_true rfl⟩ ⟨Nat.zero_le _, Nat.zero_le _⟩ (Nat.le_of_ble_eq_true rfl) rfl dX1_readWorkers_38 (fun r hr => ?_)
  have hr := hr.symm
  subst hr
  refine r_if_eq (pc := 41) C (tgt := 50) dX1_readWorkers_41 rfl (fun c7 => ?_) (fun c7 => ?_)
  · rw [if_pos c7] at h
    cases h
    exact r_vret (pc := 50) C hq (Nat.zero_le _) (Nat.zero_le _) dX1_readWorkers_50
  · rw [if_neg c7] at h
    refine r_aload_n (pc := 44) C (i := 1) dX1_readWorkers_44 rfl rfl ?_
    refine r_iload_n (pc := 45) C (i := 2) dX1_readWorkers_45 rfl rfl ?_
    refine r_iload_n (pc := 46) C (i := 3) dX1_readWorkers_46 rfl rfl ?_
    obtain ⟨q8, hq8, h⟩ := bnd h
    refine r_callV_CV (Cn := RX0) (pc := 47) C [.int q2.1, .int q4.1] (c_X0_begin E l k b T q2.1 q4.1 hq8) [3, 4, 5, 6, 7, 8, 9, 10, 11, 12, 13, 14, 15, 16, 17, 18, 19, 20] (hp_X1_readWorkers_1 E a b q5 T) (by decide) 0 rfl rfl rfl g_X1_52 hd_X0_begin ⟨Nat.le_of_ble_eq_true rfl, Nat.le_of_ble_eq_true rfl⟩ ⟨Nat.zero_le _, Nat.zero_le _⟩ (Nat.le_of_ble_eq_true rfl) rfl dX1_readWorkers_47 (fun w1 hw1 => ?_)
    subst hw1
    refine ⟨(wTk E a q5 ++ wFl E b q8), by exact (pw_X1_readWorkers_1 E a b q5 T q8), ?_⟩
    cases h
    exact r_vret (pc := 50) C hq (Nat.zero_le _) (Nat.zero_le _) dX1_readWorkers_50
def M_X1_readWorkers (k : Nat) (S : Nat → Nat → Int32) (T : Nat → Nat → Int32) : Option ((Nat → Nat → Int32) × (Nat → Nat → Int32)) := M_X1_readWorkers_0 k S T
set_option maxRecDepth 100000 in
set_option maxHeartbeats 4000000 in
theorem c_X1_readWorkers (E : ENV) (l : Launch) (k : Nat) (a : Nat → Nat) (b : Nat → Nat) (S : Nat → Nat → Int32) (T : Nat → Nat → Int32) {q : (Nat → Nat → Int32) × (Nat → Nat → Int32)} (hm : M_X1_readWorkers k S T = some q) : CV E l yX1_readWorkers cX1_readWorkers 4 none rm_X1_readWorkers [.ref (a 0), .ref (b 0)] (wTk E a S ++ wFl E b T) (fun w' => w' = (wTk E a q.1 ++ wFl E b q.2)) :=
  CV.of 2 (by decide) (Nat.le_of_ble_eq_true rfl) (fun p e s m below meth c A C _ => r_weak (lSub_s (lSub_s (lSub_n (lSub_n lSub_e)))) (N_X1_readWorkers_0 C a b k S T q  hm rfl))
theorem g_X1_83 : GoodIn GW (wsV RX1 83 RX7 yX7_is (wsG yX7_is cX7_is 3 (some .boolean))) := gw_V wm_3_117 wm_3_42 wm_3_43 wm_1_7 wm_3_44
-- ShardGuard$FleetText.settingNamed(LShardGuard$Tokens;)I
theorem dX1_settingNamed_0 : decode cX1_settingNamed 0 = .ok (.aload_n 0, 1) := by decide +kernel
theorem dX1_settingNamed_1 : decode cX1_settingNamed 1 = .ok (.ldc 81, 2) := by decide +kernel
theorem dX1_settingNamed_3 : decode cX1_settingNamed 3 = .ok (.invokevirtual 83, 3) := by decide +kernel
theorem dX1_settingNamed_6 : decode cX1_settingNamed 6 = .ok (.ifCond .eq 5, 3) := by decide +kernel
theorem dX1_settingNamed_9 : decode cX1_settingNamed 9 = .ok (.iconst 0, 1) := by decide +kernel
theorem dX1_settingNamed_10 : decode cX1_settingNamed 10 = .ok (.ireturn, 1) := by decide +kernel
theorem dX1_settingNamed_11 : decode cX1_settingNamed 11 = .ok (.aload_n 0, 1) := by decide +kernel
theorem dX1_settingNamed_12 : decode cX1_settingNamed 12 = .ok (.ldc 87, 2) := by decide +kernel
theorem dX1_settingNamed_14 : decode cX1_settingNamed 14 = .ok (.invokevirtual 83, 3) := by decide +kernel
theorem dX1_settingNamed_17 : decode cX1_settingNamed 17 = .ok (.ifCond .eq 5, 3) := by decide +kernel
theorem dX1_settingNamed_20 : decode cX1_settingNamed 20 = .ok (.iconst 1, 1) := by decide +kernel
theorem dX1_settingNamed_21 : decode cX1_settingNamed 21 = .ok (.ireturn, 1) := by decide +kernel
theorem dX1_settingNamed_22 : decode cX1_settingNamed 22 = .ok (.aload_n 0, 1) := by decide +kernel
theorem dX1_settingNamed_23 : decode cX1_settingNamed 23 = .ok (.ldc 89, 2) := by decide +kernel
theorem dX1_settingNamed_25 : decode cX1_settingNamed 25 = .ok (.invokevirtual 83, 3) := by decide +kernel
theorem dX1_settingNamed_28 : decode cX1_settingNamed 28 = .ok (.ifCond .eq 5, 3) := by decide +kernel
theorem dX1_settingNamed_31 : decode cX1_settingNamed 31 = .ok (.iconst 2, 1) := by decide +kernel
theorem dX1_settingNamed_32 : decode cX1_settingNamed 32 = .ok (.ireturn, 1) := by decide +kernel
theorem dX1_settingNamed_33 : decode cX1_settingNamed 33 = .ok (.aload_n 0, 1) := by decide +kernel
theorem dX1_settingNamed_34 : decode cX1_settingNamed 34 = .ok (.ldc 91, 2) := by decide +kernel
theorem dX1_settingNamed_36 : decode cX1_settingNamed 36 = .ok (.invokevirtual 83, 3) := by decide +kernel
theorem dX1_settingNamed_39 : decode cX1_settingNamed 39 = .ok (.ifCond .eq 5, 3) := by decide +kernel
theorem dX1_settingNamed_42 : decode cX1_settingNamed 42 = .ok (.iconst 3, 1) := by decide +kernel
theorem dX1_settingNamed_43 : decode cX1_settingNamed 43 = .ok (.ireturn, 1) := by decide +kernel
theorem dX1_settingNamed_44 : decode cX1_settingNamed 44 = .ok (.aload_n 0, 1) := by decide +kernel
theorem dX1_settingNamed_45 : decode cX1_settingNamed 45 = .ok (.ldc 93, 2) := by decide +kernel
theorem dX1_settingNamed_47 : decode cX1_settingNamed 47 = .ok (.invokevirtual 83, 3) := by decide +kernel
theorem dX1_settingNamed_50 : decode cX1_settingNamed 50 = .ok (.ifCond .eq 7, 3) := by decide +kernel
theorem dX1_settingNamed_53 : decode cX1_settingNamed 53 = .ok (.iconst 4, 1) := by decide +kernel
theorem dX1_settingNamed_54 : decode cX1_settingNamed 54 = .ok (.goto 4, 3) := by decide +kernel
theorem dX1_settingNamed_57 : decode cX1_settingNamed 57 = .ok (.iconst (-1), 1) := by decide +kernel
theorem dX1_settingNamed_58 : decode cX1_settingNamed 58 = .ok (.ireturn, 1) := by decide +kernel
def rm_X1_settingNamed : Room := { frames := 7, cells := 0, slots := 0, locals := 172 }
def M_X1_settingNamed_0 (k : Nat) (S : Nat → Nat → Int32) : Option (Int32) := (M_X7_is k S 4).bind fun q1 => if q1 = 0 then ((M_X7_is k S 5).bind fun q3 => if q3 = 0 then ((M_X7_is k S 6).bind fun q5 => if q5 = 0 then ((M_X7_is k S 7).bind fun q7 => if q7 = 0 then ((M_X7_is k S 8).bind fun q9 => if q9 = 0 then (some (-1 : Int32)) else (some (4 : Int32))) else (some (3 : Int32))) else (some (2 : Int32))) else (some (1 : Int32))) else (some (0 : Int32))
set_option maxRecDepth 100000 in
set_option maxHeartbeats 4000000 in
theorem N_X1_settingNamed_0 (C : CX E p l s m args meth c cX1_settingNamed 1 RX1 (some .int) A) (a : Nat → Nat) (k : Nat) (S : Nat → Nat → Int32) {post : Int32 → va_W → Prop} :
    ∀ (q : Int32), M_X1_settingNamed_0 k S = some q → post q (wTk E a S) →
      WW E p l e rm_X1_settingNamed s m args below meth c A 0 0 (QI E below post args s rm_X1_settingNamed A) (wTk E a S) 1 [some (.ref (a 0))] 0 [] := by
  intro  q  h hq
  unfold M_X1_settingNamed_0 at h
  refine r_aload_n (pc := 0) C (i := 0) dX1_settingNamed_0 rfl rfl ?_
  refine r_ldcS (pc := 1) C 4 rfl dX1_settingNamed_1 ?_
  obtain ⟨q1, hq1, h⟩ := bnd h
  refine r_callVp_CI (Cn := RX7) (pc := 3) C [.ref (eS E 4)] (c_X7_is E l k a S 4 (by decide) hq1) [0, 1, 2] rfl (by decide) 0 rfl rfl rfl g_X1_83 hd_X7_is ⟨Nat.le_of_ble_eq_true rfl, Nat.le_of_ble_eq_true rfl⟩ ⟨Nat.zero_le _, Nat.zero_le _⟩ (Nat.le_of_ble_eq_true rfl) rfl dX1_settingNamed_3 (fun r hr => ?_)
  have hr := hr.symm
  subst hr
  refine r_if_eq (pc := 6) C (tgt := 11) dX1_settingNamed_6 rfl (fun c2 => ?_) (fun c2 => ?_)
  · rw [if_pos c2] at h
    refine r_aload_n (pc := 11) C (i := 0) dX1_settingNamed_11 rfl rfl ?_
    refine r_ldcS (pc := 12) C 5 rfl dX1_settingNamed_12 ?_
    obtain ⟨q3, hq3, h⟩ := bnd h
    refine r_callVp_CI (Cn := RX7) (pc := 14) C [.ref (eS E 5)] (c_X7_is E l k a S 5 (by decide) hq3) [0, 1, 2] rfl (by decide) 0 rfl rfl rfl g_X1_83 hd_X7_is ⟨Nat.le_of_ble_eq_true rfl, Nat.le_of_ble_eq_true rfl⟩ ⟨Nat.zero_le _, Nat.zero_le _⟩ (Nat.le_of_ble_eq_true rfl) rfl dX1_settingNamed_14 (fun r hr => ?_)
    have hr := hr.symm
    subst hr
    refine r_if_eq (pc := 17) C (tgt := 22) dX1_settingNamed_17 rfl (fun c4 => ?_) (fun c4 => ?_)
    · rw [if_pos c4] at h
      refine r_aload_n (pc := 22) C (i := 0) dX1_settingNamed_22 rfl rfl ?_
      refine r_ldcS (pc := 23) C 6 rfl dX1_settingNamed_23 ?_
      obtain ⟨q5, hq5, h⟩ := bnd h
      refine r_callVp_CI (Cn := RX7) (pc := 25) C [.ref (eS E 6)] (c_X7_is E l k a S 6 (by decide) hq5) [0, 1, 2] rfl (by decide) 0 rfl rfl rfl g_X1_83 hd_X7_is ⟨Nat.le_of_ble_eq_true rfl, Nat.le_of_ble_eq_true rfl⟩ ⟨Nat.zero_le _, Nat.zero_le _⟩ (Nat.le_of_ble_eq_true rfl) rfl dX1_settingNamed_25 (fun r hr => ?_)
      have hr := hr.symm
      subst hr
      refine r_if_eq (pc := 28) C (tgt := 33) dX1_settingNamed_28 rfl (fun c6 => ?_) (fun c6 => ?_)
      · rw [if_pos c6] at h
        refine r_aload_n (pc := 33) C (i := 0) dX1_settingNamed_33 rfl rfl ?_
        refine r_ldcS (pc := 34) C 7 rfl dX1_settingNamed_34 ?_
        obtain ⟨q7, hq7, h⟩ := bnd h
        refine r_callVp_CI (Cn := RX7) (pc := 36) C [.ref (eS E 7)] (c_X7_is E l k a S 7 (by decide) hq7) [0, 1, 2] rfl (by decide) 0 rfl rfl rfl g_X1_83 hd_X7_is ⟨Nat.le_of_ble_eq_true rfl, Nat.le_of_ble_eq_true rfl⟩ ⟨Nat.zero_le _, Nat.zero_le _⟩ (Nat.le_of_ble_eq_true rfl) rfl dX1_settingNamed_36 (fun r hr => ?_)
        have hr := hr.symm
        subst hr
        refine r_if_eq (pc := 39) C (tgt := 44) dX1_settingNamed_39 rfl (fun c8 => ?_) (fun c8 => ?_)
        · rw [if_pos c8] at h
          refine r_aload_n (pc := 44) C (i := 0) dX1_settingNamed_44 rfl rfl ?_
          refine r_ldcS (pc := 45) C 8 rfl dX1_settingNamed_45 ?_
          obtain ⟨q9, hq9, h⟩ := bnd h
          refine r_callVp_CI (Cn := RX7) (pc := 47) C [.ref (eS E 8)] (c_X7_is E l k a S 8 (by decide) hq9) [0, 1, 2] rfl (by decide) 0 rfl rfl rfl g_X1_83 hd_X7_is ⟨Nat.le_of_ble_eq_true rfl, Nat.le_of_ble_eq_true rfl⟩ ⟨Nat.zero_le _, Nat.zero_le _⟩ (Nat.le_of_ble_eq_true rfl) rfl dX1_settingNamed_47 (fun r hr => ?_)
          have hr := hr.symm
          subst hr
          refine r_if_eq (pc := 50) C (tgt := 57) dX1_settingNamed_50 rfl (fun c10 => ?_) (fun c10 => ?_)
          · rw [if_pos c10] at h
            refine r_iconst (pc := 57) C (v := (-1)) dX1_settingNamed_57 (by decide) ?_
            have h := Option.some.inj h
            subst h
            exact r_ireti (pc := 58) C hq (Nat.zero_le _) (Nat.zero_le _) dX1_settingNamed_58
          · rw [if_neg c10] at h
            refine r_iconst (pc := 53) C (v := 4) dX1_settingNamed_53 (by decide) ?_
            refine r_goto (pc := 54) C (tgt := 58) dX1_settingNamed_54 rfl ?_
            cases h
            exact r_ireti (pc := 58) C hq (Nat.zero_le _) (Nat.zero_le _) dX1_settingNamed_58
        · rw [if_neg c8] at h
          refine r_iconst (pc := 42) C (v := 3) dX1_settingNamed_42 (by decide) ?_
          cases h
          exact r_ireti (pc := 43) C hq (Nat.zero_le _) (Nat.zero_le _) dX1_settingNamed_43
      · rw [if_neg c6] at h
        refine r_iconst (pc := 31) C (v := 2) dX1_settingNamed_31 (by decide) ?_
        cases h
        exact r_ireti (pc := 32) C hq (Nat.zero_le _) (Nat.zero_le _) dX1_settingNamed_32
    · rw [if_neg c4] at h
      refine r_iconst (pc := 20) C (v := 1) dX1_settingNamed_20 (by decide) ?_
      cases h
      exact r_ireti (pc := 21) C hq (Nat.zero_le _) (Nat.zero_le _) dX1_settingNamed_21
  · rw [if_neg c2] at h
    refine r_iconst (pc := 9) C (v := 0) dX1_settingNamed_9 (by decide) ?_
    cases h
    exact r_ireti (pc := 10) C hq (Nat.zero_le _) (Nat.zero_le _) dX1_settingNamed_10
def M_X1_settingNamed (k : Nat) (S : Nat → Nat → Int32) : Option (Int32) := M_X1_settingNamed_0 k S
set_option maxRecDepth 100000 in
set_option maxHeartbeats 4000000 in
theorem c_X1_settingNamed (E : ENV) (l : Launch) (k : Nat) (a : Nat → Nat) (S : Nat → Nat → Int32) {q : Int32} (hm : M_X1_settingNamed k S = some q) : CI E l yX1_settingNamed cX1_settingNamed 1 (some .int) rm_X1_settingNamed [.ref (a 0)] (wTk E a S) (fun r w' => r = q ∧ w' = (wTk E a S)) :=
  CI.of 0 (by decide) (Nat.le_of_ble_eq_true rfl) (fun p e s m below meth c A C _ => r_weak (lSub_s lSub_e) (N_X1_settingNamed_0 C a k S q  hm ⟨rfl, rfl⟩))
theorem hd_X7_isNumberIn : yX7_isNumberIn.cls = RX7 ∧ yX7_isNumberIn.cls ≠ "java/lang/invoke/MethodHandle" ∧ yX7_isNumberIn.cls ≠ "java/lang/invoke/VarHandle" ∧ (parseMethodDescriptor yX7_isNumberIn.desc).map (fun d => d.parameters.length) = some 1 := by decide +kernel
theorem g_X1_112 : GoodIn GW (wsV RX1 112 RX7 yX7_isNumberIn (wsG yX7_isNumberIn cX7_isNumberIn 2 (some .boolean))) := gw_V wm_3_142 wm_3_143 wm_3_144 wm_1_7 wm_3_145
theorem g_X1_97 : GoodIn GW (wsV RX1 97 RX7 yX7_fail (wsG yX7_fail cX7_fail 2 none)) := gw_V wm_3_138 wm_3_98 wm_3_99 wm_1_7 wm_3_100
-- ShardGuard$FleetText.takeShard(LShardGuard$Tokens;LShardGuard$Fleet;)I
theorem dX1_takeShard_0 : decode cX1_takeShard 0 = .ok (.iconst 0, 1) := by decide +kernel
theorem dX1_takeShard_1 : decode cX1_takeShard 1 = .ok (.istore_n 2, 1) := by decide +kernel
theorem dX1_takeShard_2 : decode cX1_takeShard 2 = .ok (.iconst 0, 1) := by decide +kernel
theorem dX1_takeShard_3 : decode cX1_takeShard 3 = .ok (.istore_n 3, 1) := by decide +kernel
theorem dX1_takeShard_4 : decode cX1_takeShard 4 = .ok (.iload_n 3, 1) := by decide +kernel
theorem dX1_takeShard_5 : decode cX1_takeShard 5 = .ok (.aload_n 1, 1) := by decide +kernel
theorem dX1_takeShard_6 : decode cX1_takeShard 6 = .ok (.getfield 108, 3) := by decide +kernel
theorem dX1_takeShard_9 : decode cX1_takeShard 9 = .ok (.if_icmp .ge 48, 3) := by decide +kernel
theorem dX1_takeShard_12 : decode cX1_takeShard 12 = .ok (.aload_n 0, 1) := by decide +kernel
theorem dX1_takeShard_13 : decode cX1_takeShard 13 = .ok (.iload_n 2, 1) := by decide +kernel
theorem dX1_takeShard_14 : decode cX1_takeShard 14 = .ok (.invokevirtual 112, 3) := by decide +kernel
theorem dX1_takeShard_17 : decode cX1_takeShard 17 = .ok (.ifCond .eq 8, 3) := by decide +kernel
theorem dX1_takeShard_20 : decode cX1_takeShard 20 = .ok (.aload_n 0, 1) := by decide +kernel
theorem dX1_takeShard_21 : decode cX1_takeShard 21 = .ok (.iconst 4, 1) := by decide +kernel
theorem dX1_takeShard_22 : decode cX1_takeShard 22 = .ok (.invokevirtual 97, 3) := by decide +kernel
theorem dX1_takeShard_25 : decode cX1_takeShard 25 = .ok (.aload_n 0, 1) := by decide +kernel
theorem dX1_takeShard_26 : decode cX1_takeShard 26 = .ok (.iconst 0, 1) := by decide +kernel
theorem dX1_takeShard_27 : decode cX1_takeShard 27 = .ok (.aload_n 1, 1) := by decide +kernel
theorem dX1_takeShard_28 : decode cX1_takeShard 28 = .ok (.getfield 116, 3) := by decide +kernel
theorem dX1_takeShard_31 : decode cX1_takeShard 31 = .ok (.iconst 1, 1) := by decide +kernel
theorem dX1_takeShard_32 : decode cX1_takeShard 32 = .ok (.isub, 1) := by decide +kernel
theorem dX1_takeShard_33 : decode cX1_takeShard 33 = .ok (.invokevirtual 35, 3) := by decide +kernel
theorem dX1_takeShard_36 : decode cX1_takeShard 36 = .ok (.istore 4, 2) := by decide +kernel
theorem dX1_takeShard_38 : decode cX1_takeShard 38 = .ok (.iload 4, 2) := by decide +kernel
theorem dX1_takeShard_40 : decode cX1_takeShard 40 = .ok (.iconst (-1), 1) := by decide +kernel
theorem dX1_takeShard_41 : decode cX1_takeShard 41 = .ok (.if_icmp .eq 10, 3) := by decide +kernel
theorem dX1_takeShard_44 : decode cX1_takeShard 44 = .ok (.iload_n 2, 1) := by decide +kernel
theorem dX1_takeShard_45 : decode cX1_takeShard 45 = .ok (.iconst 1, 1) := by decide +kernel
theorem dX1_takeShard_46 : decode cX1_takeShard 46 = .ok (.iload 4, 2) := by decide +kernel
theorem dX1_takeShard_48 : decode cX1_takeShard 48 = .ok (.ishl, 1) := by decide +kernel
theorem dX1_takeShard_49 : decode cX1_takeShard 49 = .ok (.ior, 1) := by decide +kernel
theorem dX1_takeShard_50 : decode cX1_takeShard 50 = .ok (.istore_n 2, 1) := by decide +kernel
theorem dX1_takeShard_51 : decode cX1_takeShard 51 = .ok (.iinc 3 1, 3) := by decide +kernel
theorem dX1_takeShard_54 : decode cX1_takeShard 54 = .ok (.goto (-50), 3) := by decide +kernel
theorem dX1_takeShard_57 : decode cX1_takeShard 57 = .ok (.iload_n 2, 1) := by decide +kernel
theorem dX1_takeShard_58 : decode cX1_takeShard 58 = .ok (.ireturn, 1) := by decide +kernel
def rm_X1_takeShard : Room := { frames := 3, cells := 0, slots := 0, locals := 65 }
def M_X1_takeShard_25 (k : Nat) (T : Nat → Nat → Int32) (κ4 : Int32 → Int32 → (Nat → Nat → Int32) → Option (Int32 × (Nat → Nat → Int32))) (x2 : Int32) (x3 : Int32) (S : Nat → Nat → Int32) : Option (Int32 × (Nat → Nat → Int32)) := (M_X7_takeNumber k S (0 : Int32) ((T 0 0) - (1 : Int32))).bind fun q1 => if q1.1 = (-1 : Int32) then (κ4 x2 (x3 + 1) q1.2) else (lt (x2 ||| ((1 : Int32) <<< (q1.1 &&& 31))) fun v3 => κ4 v3 (x3 + 1) q1.2)
set_option maxRecDepth 100000 in
set_option maxHeartbeats 4000000 in
theorem N_X1_takeShard_25 (C : CX E p l s m args meth c cX1_takeShard 5 RX1 (some .int) A) (a : Nat → Nat) (b : Nat → Nat) (k : Nat) (T : Nat → Nat → Int32) {post : Int32 → va_W → Prop} (κ4 : Int32 → Int32 → (Nat → Nat → Int32) → Option (Int32 × (Nat → Nat → Int32))) (hκ4 : ∀ (x2 : Int32) (x3 : Int32) (S : Nat → Nat → Int32) (q : Int32 × (Nat → Nat → Int32)), κ4 x2 x3 S = some q → post q.1 (wTk E a q.2 ++ wFl E b T) → WW E p l e rm_X1_takeShard s m args below meth c A 0 0 (QI E below post args s rm_X1_takeShard A) (wTk E a S ++ wFl E b T) 5 [some (.ref (a 0)), some (.ref (b 0)), some (.int x2), some (.int x3), none] 4 []) :
    ∀ (x2 : Int32) (x3 : Int32) (S : Nat → Nat → Int32) (q : Int32 × (Nat → Nat → Int32)), M_X1_takeShard_25 k T κ4 x2 x3 S = some q → post q.1 (wTk E a q.2 ++ wFl E b T) →
      WW E p l e rm_X1_takeShard s m args below meth c A 0 0 (QI E below post args s rm_X1_takeShard A) (wTk E a S ++ wFl E b T) 5 [some (.ref (a 0)), some (.ref (b 0)), some (.int x2), some (.int x3), none] 25 [] := by
  intro x2 x3 S q  h hq
  unfold M_X1_takeShard_25 at h
  refine r_aload_n (pc := 25) C (i := 0) dX1_takeShard_25 rfl rfl ?_
  refine r_iconst (pc := 26) C (v := 0) dX1_takeShard_26 (by decide) ?_
  refine r_aload_n (pc := 27) C (i := 1) dX1_takeShard_27 rfl rfl ?_
  refine r_get (pc := 28) C gwX0 3 rfl rfl 0 (by decide) wm_1_94 rfl dX1_takeShard_28 ?_
  refine r_iconst (pc := 31) C (v := 1) dX1_takeShard_31 (by decide) ?_
  refine r_isub (pc := 32) C dX1_takeShard_32 ?_
  obtain ⟨q1, hq1, h⟩ := bnd h
  refine r_callV_CI (Cn := RX7) (pc := 33) C [.int (0 : Int32), .int ((T 0 0) - (1 : Int32))] (c_X7_takeNumber E l k a S (0 : Int32) ((T 0 0) - (1 : Int32)) hq1) [0, 1, 2] (hp_X1_readWorkers_0 E a b S T) (by decide) 0 rfl rfl rfl g_X1_35 hd_X7_takeNumber ⟨Nat.le_of_ble_eq_true rfl, Nat.le_of_ble_eq_true rfl⟩ ⟨Nat.zero_le _, Nat.zero_le _⟩ (Nat.le_of_ble_eq_true rfl) rfl dX1_takeShard_33 (fun r w1 hw1 => ?_)
  obtain ⟨hr1, hw1⟩ := hw1
  subst hr1 hw1
  refine ⟨(wTk E a q1.2 ++ wFl E b T), by exact (pw_X1_readWorkers_0 E a b S T q1.2), ?_⟩
  refine r_istore (pc := 36) C (i := 4) dX1_takeShard_36 (by decide) rfl ?_
  refine r_iload (pc := 38) C (i := 4) dX1_takeShard_38 rfl ?_
  refine r_iconst (pc := 40) C (v := (-1)) dX1_takeShard_40 (by decide) ?_
  refine r_icmp_eq (pc := 41) C (tgt := 51) dX1_takeShard_41 rfl (fun c2 => ?_) (fun c2 => ?_)
  · rw [if_pos c2] at h
    refine r_iinc (pc := 51) C (v := (x3 + 1)) dX1_takeShard_51 rfl rfl (by decide) rfl ?_
    refine r_goto (pc := 54) C (tgt := 4) dX1_takeShard_54 rfl ?_
    refine r_weak (lSub_s (lSub_s (lSub_s (lSub_s (lSub_n lSub_e))))) ?_
    exact hκ4 x2 (x3 + 1) q1.2 q  h hq
  · rw [if_neg c2] at h
    refine r_iload_n (pc := 44) C (i := 2) dX1_takeShard_44 rfl rfl ?_
    refine r_iconst (pc := 45) C (v := 1) dX1_takeShard_45 (by decide) ?_
    refine r_iload (pc := 46) C (i := 4) dX1_takeShard_46 rfl ?_
    refine r_ishl (pc := 48) C dX1_takeShard_48 ?_
    refine r_ior (pc := 49) C dX1_takeShard_49 ?_
    obtain ⟨v3, hv3, h⟩ := lt_e h
    refine r_topi hv3 ?_
    refine r_istore_n (pc := 50) C (i := 2) dX1_takeShard_50 rfl (by decide) rfl ?_
    refine r_iinc (pc := 51) C (v := (x3 + 1)) dX1_takeShard_51 rfl rfl (by decide) rfl ?_
    refine r_goto (pc := 54) C (tgt := 4) dX1_takeShard_54 rfl ?_
    refine r_weak (lSub_s (lSub_s (lSub_s (lSub_s (lSub_n lSub_e))))) ?_
    exact hκ4 v3 (x3 + 1) q1.2 q  h hq
def M_X1_takeShard_4 (k : Nat) (T : Nat → Nat → Int32) : Nat → (Int32) → (Int32) → (Nat → Nat → Int32) → Option (Int32 × (Nat → Nat → Int32))
  | 0, _, _, _ => none
  | n + 1, x2, x3, S => if (T 0 1) ≤ x3 then (some (x2, S)) else ((M_X7_isNumberIn k S x2).bind fun q5 => if q5 = 0 then (M_X1_takeShard_25 k T (M_X1_takeShard_4 k T n) x2 x3 S) else ((M_X7_fail k S (4 : Int32)).bind fun q7 => M_X1_takeShard_25 k T (M_X1_takeShard_4 k T n) x2 x3 q7))
theorem M_X1_takeShard_4_s (k : Nat) (T : Nat → Nat → Int32) (n : Nat) (x2 : Int32) (x3 : Int32) (S : Nat → Nat → Int32) : M_X1_takeShard_4 k T (n + 1) x2 x3 S = (if (T 0 1) ≤ x3 then (some (x2, S)) else ((M_X7_isNumberIn k S x2).bind fun q5 => if q5 = 0 then (M_X1_takeShard_25 k T (M_X1_takeShard_4 k T n) x2 x3 S) else ((M_X7_fail k S (4 : Int32)).bind fun q7 => M_X1_takeShard_25 k T (M_X1_takeShard_4 k T n) x2 x3 q7))) := rfl
set_option maxRecDepth 100000 in
set_option maxHeartbeats 4000000 in
theorem N_X1_takeShard_4 (C : CX E p l s m args meth c cX1_takeShard 5 RX1 (some .int) A) (a : Nat → Nat) (b : Nat → Nat) (k : Nat) (T : Nat → Nat → Int32) {post : Int32 → va_W → Prop} :
    ∀ (n : Nat) (x2 : Int32) (x3 : Int32) (S : Nat → Nat → Int32) (q : Int32 × (Nat → Nat → Int32)), M_X1_takeShard_4 k T n x2 x3 S = some q → post q.1 (wTk E a q.2 ++ wFl E b T) →
      WW E p l e rm_X1_takeShard s m args below meth c A 0 0 (QI E below post args s rm_X1_takeShard A) (wTk E a S ++ wFl E b T) 5 [some (.ref (a 0)), some (.ref (b 0)), some (.int x2), some (.int x3), none] 4 [] := by
  intro n
  induction n with
  | zero => intro x2 x3 S q  h _; cases h
  | succ n ih =>
    intro x2 x3 S q  h hq
    rw [M_X1_takeShard_4_s] at h
    refine r_iload_n (pc := 4) C (i := 3) dX1_takeShard_4 rfl rfl ?_
    refine r_aload_n (pc := 5) C (i := 1) dX1_takeShard_5 rfl rfl ?_
    refine r_get (pc := 6) C gwX0 3 rfl rfl 1 (by decide) wm_1_97 rfl dX1_takeShard_6 ?_
    refine r_icmp_ge (pc := 9) C (tgt := 57) dX1_takeShard_9 rfl (fun c4 => ?_) (fun c4 => ?_)
    · rw [if_pos c4] at h
      refine r_iload_n (pc := 57) C (i := 2) dX1_takeShard_57 rfl rfl ?_
      cases h
      exact r_ireti (pc := 58) C hq (Nat.zero_le _) (Nat.zero_le _) dX1_takeShard_58
    · rw [if_neg c4] at h
      refine r_aload_n (pc := 12) C (i := 0) dX1_takeShard_12 rfl rfl ?_
      refine r_iload_n (pc := 13) C (i := 2) dX1_takeShard_13 rfl rfl ?_
      obtain ⟨q5, hq5, h⟩ := bnd h
      refine r_callVp_CI (Cn := RX7) (pc := 14) C [.int x2] (c_X7_isNumberIn E l k a S x2 hq5) [0, 1, 2] (hp_X1_readWorkers_0 E a b S T) (by decide) 0 rfl rfl rfl g_X1_112 hd_X7_isNumberIn ⟨Nat.le_of_ble_eq_true rfl, Nat.le_of_ble_eq_true rfl⟩ ⟨Nat.zero_le _, Nat.zero_le _⟩ (Nat.le_of_ble_eq_true rfl) rfl dX1_takeShard_14 (fun r hr => ?_)
      have hr := hr.symm
      subst hr
      refine r_if_eq (pc := 17) C (tgt := 25) dX1_takeShard_17 rfl (fun c6 => ?_) (fun c6 => ?_)
      · rw [if_pos c6] at h
        refine r_weak (lSub_s (lSub_s (lSub_s (lSub_s (lSub_n lSub_e))))) ?_
        exact N_X1_takeShard_25 C a b k T (M_X1_takeShard_4 k T n) ih x2 x3 S q  h hq
      · rw [if_neg c6] at h
        refine r_aload_n (pc := 20) C (i := 0) dX1_takeShard_20 rfl rfl ?_
        refine r_iconst (pc := 21) C (v := 4) dX1_takeShard_21 (by decide) ?_
        obtain ⟨q7, hq7, h⟩ := bnd h
        refine r_callV_CV (Cn := RX7) (pc := 22) C [.int (4 : Int32)] (c_X7_fail E l k a S (4 : Int32) hq7) [0, 1, 2] (hp_X1_readWorkers_0 E a b S T) (by decide) 0 rfl rfl rfl g_X1_97 hd_X7_fail ⟨Nat.le_of_ble_eq_true rfl, Nat.le_of_ble_eq_true rfl⟩ ⟨Nat.zero_le _, Nat.zero_le _⟩ (Nat.le_of_ble_eq_true rfl) rfl dX1_takeShard_22 (fun w1 hw1 => ?_)
        subst hw1
        refine ⟨(wTk E a q7 ++ wFl E b T), by exact (pw_X1_readWorkers_0 E a b S T q7), ?_⟩
        refine r_weak (lSub_s (lSub_s (lSub_s (lSub_s (lSub_n lSub_e))))) ?_
        exact N_X1_takeShard_25 C a b k T (M_X1_takeShard_4 k T n) ih x2 x3 q7 q  h hq
def M_X1_takeShard_0 (k : Nat) (T : Nat → Nat → Int32) (S : Nat → Nat → Int32) : Option (Int32 × (Nat → Nat → Int32)) := M_X1_takeShard_4 k T k (0 : Int32) (0 : Int32) S
set_option maxRecDepth 100000 in
set_option maxHeartbeats 4000000 in
theorem N_X1_takeShard_0 (C : CX E p l s m args meth c cX1_takeShard 5 RX1 (some .int) A) (a : Nat → Nat) (b : Nat → Nat) (k : Nat) (T : Nat → Nat → Int32) {post : Int32 → va_W → Prop} :
    ∀ (S : Nat → Nat → Int32) (q : Int32 × (Nat → Nat → Int32)), M_X1_takeShard_0 k T S = some q → post q.1 (wTk E a q.2 ++ wFl E b T) →
      WW E p l e rm_X1_takeShard s m args below meth c A 0 0 (QI E below post args s rm_X1_takeShard A) (wTk E a S ++ wFl E b T) 5 [some (.ref (a 0)), some (.ref (b 0)), none, none, none] 0 [] := by
  intro S q  h hq
  unfold M_X1_takeShard_0 at h
  refine r_iconst (pc := 0) C (v := 0) dX1_takeShard_0 (by decide) ?_
  refine r_istore_n (pc := 1) C (i := 2) dX1_takeShard_1 rfl (by decide) rfl ?_
  refine r_iconst (pc := 2) C (v := 0) dX1_takeShard_2 (by decide) ?_
  refine r_istore_n (pc := 3) C (i := 3) dX1_takeShard_3 rfl (by decide) rfl ?_
  refine r_weak (lSub_s (lSub_s (lSub_s (lSub_s (lSub_n lSub_e))))) ?_
  exact N_X1_takeShard_4 C a b k T k (0 : Int32) (0 : Int32) S q  h hq
def M_X1_takeShard (k : Nat) (S : Nat → Nat → Int32) (T : Nat → Nat → Int32) : Option (Int32 × (Nat → Nat → Int32)) := M_X1_takeShard_0 k T S
set_option maxRecDepth 100000 in
set_option maxHeartbeats 4000000 in
theorem c_X1_takeShard (E : ENV) (l : Launch) (k : Nat) (a : Nat → Nat) (b : Nat → Nat) (S : Nat → Nat → Int32) (T : Nat → Nat → Int32) {q : Int32 × (Nat → Nat → Int32)} (hm : M_X1_takeShard k S T = some q) : CI E l yX1_takeShard cX1_takeShard 5 (some .int) rm_X1_takeShard [.ref (a 0), .ref (b 0)] (wTk E a S ++ wFl E b T) (fun r w' => r = q.1 ∧ w' = (wTk E a q.2 ++ wFl E b T)) :=
  CI.of 3 (by decide) (Nat.le_of_ble_eq_true rfl) (fun p e s m below meth c A C _ => r_weak (lSub_s (lSub_s (lSub_n (lSub_n (lSub_n lSub_e))))) (N_X1_takeShard_0 C a b k T S q  hm ⟨rfl, rfl⟩))
end WALKS
