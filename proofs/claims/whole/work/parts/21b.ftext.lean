section WALKS
variable {E : ENV} {p : Program} {l : Launch} {e : Env} {s : State} {m : MethodId} {args : Array Value} {below : List Frame} {meth : Method} {c : Code} {A : Nat → Prop}
theorem hd_X0_addRequest : yX0_addRequest.cls = RX0 ∧ yX0_addRequest.cls ≠ "java/lang/invoke/MethodHandle" ∧ yX0_addRequest.cls ≠ "java/lang/invoke/VarHandle" ∧ (parseMethodDescriptor yX0_addRequest.desc).map (fun d => d.parameters.length) = some 3 := by decide +kernel
theorem g_X1_125 : GoodIn GW (wsV RX1 125 RX0 yX0_addRequest (wsG yX0_addRequest cX0_addRequest 5 (some .int))) := gw_V wm_3_155 wm_3_156 wm_3_157 wm_1_2 wm_3_158
theorem g_X1_62 : GoodIn GW (wsV RX1 62 RX7 yX7_advance (wsG yX7_advance cX7_advance 2 none)) := gw_V wm_3_122 wm_3_18 wm_3_19 wm_1_7 wm_3_20
-- ShardGuard$FleetText.readRequests(LShardGuard$Tokens;LShardGuard$Fleet;)V
theorem dX1_readRequests_0 : decode cX1_readRequests 0 = .ok (.iconst 0, 1) := by decide +kernel
theorem dX1_readRequests_1 : decode cX1_readRequests 1 = .ok (.istore_n 2, 1) := by decide +kernel
theorem dX1_readRequests_2 : decode cX1_readRequests 2 = .ok (.iload_n 2, 1) := by decide +kernel
theorem dX1_readRequests_3 : decode cX1_readRequests 3 = .ok (.bipush 60, 2) := by decide +kernel
theorem dX1_readRequests_5 : decode cX1_readRequests 5 = .ok (.if_icmp .gt 90, 3) := by decide +kernel
theorem dX1_readRequests_8 : decode cX1_readRequests 8 = .ok (.aload_n 0, 1) := by decide +kernel
theorem dX1_readRequests_9 : decode cX1_readRequests 9 = .ok (.ldc 118, 2) := by decide +kernel
theorem dX1_readRequests_11 : decode cX1_readRequests 11 = .ok (.invokevirtual 83, 3) := by decide +kernel
theorem dX1_readRequests_14 : decode cX1_readRequests 14 = .ok (.ifCond .eq 81, 3) := by decide +kernel
theorem dX1_readRequests_17 : decode cX1_readRequests 17 = .ok (.iload_n 2, 1) := by decide +kernel
theorem dX1_readRequests_18 : decode cX1_readRequests 18 = .ok (.bipush 60, 2) := by decide +kernel
theorem dX1_readRequests_20 : decode cX1_readRequests 20 = .ok (.if_icmp .ne 11, 3) := by decide +kernel
theorem dX1_readRequests_23 : decode cX1_readRequests 23 = .ok (.aload_n 0, 1) := by decide +kernel
theorem dX1_readRequests_24 : decode cX1_readRequests 24 = .ok (.iconst 3, 1) := by decide +kernel
theorem dX1_readRequests_25 : decode cX1_readRequests 25 = .ok (.invokevirtual 97, 3) := by decide +kernel
theorem dX1_readRequests_28 : decode cX1_readRequests 28 = .ok (.goto 61, 3) := by decide +kernel
theorem dX1_readRequests_31 : decode cX1_readRequests 31 = .ok (.aload_n 0, 1) := by decide +kernel
theorem dX1_readRequests_32 : decode cX1_readRequests 32 = .ok (.invokevirtual 62, 3) := by decide +kernel
theorem dX1_readRequests_35 : decode cX1_readRequests 35 = .ok (.aload_n 0, 1) := by decide +kernel
theorem dX1_readRequests_36 : decode cX1_readRequests 36 = .ok (.iconst 0, 1) := by decide +kernel
theorem dX1_readRequests_37 : decode cX1_readRequests 37 = .ok (.aload_n 1, 1) := by decide +kernel
theorem dX1_readRequests_38 : decode cX1_readRequests 38 = .ok (.getfield 120, 3) := by decide +kernel
theorem dX1_readRequests_41 : decode cX1_readRequests 41 = .ok (.iconst 1, 1) := by decide +kernel
theorem dX1_readRequests_42 : decode cX1_readRequests 42 = .ok (.isub, 1) := by decide +kernel
theorem dX1_readRequests_43 : decode cX1_readRequests 43 = .ok (.invokevirtual 35, 3) := by decide +kernel
theorem dX1_readRequests_46 : decode cX1_readRequests 46 = .ok (.istore_n 3, 1) := by decide +kernel
theorem dX1_readRequests_47 : decode cX1_readRequests 47 = .ok (.aload_n 0, 1) := by decide +kernel
theorem dX1_readRequests_48 : decode cX1_readRequests 48 = .ok (.iconst 1, 1) := by decide +kernel
theorem dX1_readRequests_49 : decode cX1_readRequests 49 = .ok (.bipush 20, 2) := by decide +kernel
theorem dX1_readRequests_51 : decode cX1_readRequests 51 = .ok (.invokevirtual 35, 3) := by decide +kernel
theorem dX1_readRequests_54 : decode cX1_readRequests 54 = .ok (.istore 4, 2) := by decide +kernel
theorem dX1_readRequests_56 : decode cX1_readRequests 56 = .ok (.aload_n 0, 1) := by decide +kernel
theorem dX1_readRequests_57 : decode cX1_readRequests 57 = .ok (.ldc 123, 2) := by decide +kernel
theorem dX1_readRequests_59 : decode cX1_readRequests 59 = .ok (.invokevirtual 83, 3) := by decide +kernel
theorem dX1_readRequests_62 : decode cX1_readRequests 62 = .ok (.istore 5, 2) := by decide +kernel
theorem dX1_readRequests_64 : decode cX1_readRequests 64 = .ok (.iload 5, 2) := by decide +kernel
theorem dX1_readRequests_66 : decode cX1_readRequests 66 = .ok (.ifCond .eq 7, 3) := by decide +kernel
theorem dX1_readRequests_69 : decode cX1_readRequests 69 = .ok (.aload_n 0, 1) := by decide +kernel
theorem dX1_readRequests_70 : decode cX1_readRequests 70 = .ok (.invokevirtual 62, 3) := by decide +kernel
theorem dX1_readRequests_73 : decode cX1_readRequests 73 = .ok (.aload_n 0, 1) := by decide +kernel
theorem dX1_readRequests_74 : decode cX1_readRequests 74 = .ok (.ldc 46, 2) := by decide +kernel
theorem dX1_readRequests_76 : decode cX1_readRequests 76 = .ok (.invokevirtual 31, 3) := by decide +kernel
theorem dX1_readRequests_79 : decode cX1_readRequests 79 = .ok (.aload_n 1, 1) := by decide +kernel
theorem dX1_readRequests_80 : decode cX1_readRequests 80 = .ok (.iload_n 3, 1) := by decide +kernel
theorem dX1_readRequests_81 : decode cX1_readRequests 81 = .ok (.iload 4, 2) := by decide +kernel
theorem dX1_readRequests_83 : decode cX1_readRequests 83 = .ok (.iload 5, 2) := by decide +kernel
theorem dX1_readRequests_85 : decode cX1_readRequests 85 = .ok (.invokevirtual 125, 3) := by decide +kernel
theorem dX1_readRequests_88 : decode cX1_readRequests 88 = .ok (.pop, 1) := by decide +kernel
theorem dX1_readRequests_89 : decode cX1_readRequests 89 = .ok (.iinc 2 1, 3) := by decide +kernel
theorem dX1_readRequests_92 : decode cX1_readRequests 92 = .ok (.goto (-90), 3) := by decide +kernel
theorem dX1_readRequests_95 : decode cX1_readRequests 95 = .ok (.return_, 1) := by decide +kernel
def rm_X1_readRequests : Room := { frames := 8, cells := 0, slots := 0, locals := 193 }
def M_X1_readRequests_73 (k : Nat) (κ2 : Int32 → (Nat → Nat → Int32) → (Nat → Nat → Int32) → Option ((Nat → Nat → Int32) × (Nat → Nat → Int32))) (x2 : Int32) (x3 : Int32) (x4 : Int32) (x5 : Int32) (S : Nat → Nat → Int32) (T : Nat → Nat → Int32) : Option ((Nat → Nat → Int32) × (Nat → Nat → Int32)) := (M_X7_take k S 3).bind fun q1 => (M_X0_addRequest k T x3 x4 x5).bind fun q2 => κ2 (x2 + 1) q1 q2.2
set_option maxRecDepth 100000 in
set_option maxHeartbeats 4000000 in
theorem N_X1_readRequests_73 (C : CX E p l s m args meth c cX1_readRequests 6 RX1 none A) (a : Nat → Nat) (b : Nat → Nat) (k : Nat) {post : va_W → Prop} (κ2 : Int32 → (Nat → Nat → Int32) → (Nat → Nat → Int32) → Option ((Nat → Nat → Int32) × (Nat → Nat → Int32))) (hκ2 : ∀ (x2 : Int32) (S : Nat → Nat → Int32) (T : Nat → Nat → Int32) (q : (Nat → Nat → Int32) × (Nat → Nat → Int32)), κ2 x2 S T = some q → post (wTk E a q.1 ++ wFl E b q.2) → WW E p l e rm_X1_readRequests s m args below meth c A 0 0 (QV E below post args s rm_X1_readRequests A) (wTk E a S ++ wFl E b T) 6 [some (.ref (a 0)), some (.ref (b 0)), some (.int x2), none, none, none] 2 []) :
    ∀ (x2 : Int32) (x3 : Int32) (x4 : Int32) (x5 : Int32) (S : Nat → Nat → Int32) (T : Nat → Nat → Int32) (q : (Nat → Nat → Int32) × (Nat → Nat → Int32)), M_X1_readRequests_73 k κ2 x2 x3 x4 x5 S T = some q → post (wTk E a q.1 ++ wFl E b q.2) →
      WW E p l e rm_X1_readRequests s m args below meth c A 0 0 (QV E below post args s rm_X1_readRequests A) (wTk E a S ++ wFl E b T) 6 [some (.ref (a 0)), some (.ref (b 0)), some (.int x2), some (.int x3), some (.int x4), some (.int x5)] 73 [] := by
  intro x2 x3 x4 x5 S T q  h hq
  unfold M_X1_readRequests_73 at h
  refine r_aload_n (pc := 73) C (i := 0) dX1_readRequests_73 rfl rfl ?_
  refine r_ldcS (pc := 74) C 3 rfl dX1_readRequests_74 ?_
  obtain ⟨q1, hq1, h⟩ := bnd h
  refine r_callV_CV (Cn := RX7) (pc := 76) C [.ref (eS E 3)] (c_X7_take E l k a S 3 (by decide) hq1) [0, 1, 2] (hp_X1_readWorkers_0 E a b S T) (by decide) 0 rfl rfl rfl g_X1_31 hd_X7_take ⟨Nat.le_of_ble_eq_true rfl, Nat.le_of_ble_eq_true rfl⟩ ⟨Nat.zero_le _, Nat.zero_le _⟩ (Nat.le_of_ble_eq_true rfl) rfl dX1_readRequests_76 (fun w1 hw1 => ?_)
  subst hw1
  refine ⟨(wTk E a q1 ++ wFl E b T), by exact (pw_X1_readWorkers_0 E a b S T q1), ?_⟩
  refine r_aload_n (pc := 79) C (i := 1) dX1_readRequests_79 rfl rfl ?_
  refine r_iload_n (pc := 80) C (i := 3) dX1_readRequests_80 rfl rfl ?_
  refine r_iload (pc := 81) C (i := 4) dX1_readRequests_81 rfl ?_
  refine r_iload (pc := 83) C (i := 5) dX1_readRequests_83 rfl ?_
  obtain ⟨q2, hq2, h⟩ := bnd h
  refine r_callV_CI (Cn := RX0) (pc := 85) C [.int x3, .int x4, .int x5] (c_X0_addRequest E l k b T x3 x4 x5 hq2) [3, 4, 5, 6, 7, 8, 9, 10, 11, 12, 13, 14, 15, 16, 17, 18, 19, 20] (hp_X1_readWorkers_1 E a b q1 T) (by decide) 0 rfl rfl rfl g_X1_125 hd_X0_addRequest ⟨Nat.le_of_ble_eq_true rfl, Nat.le_of_ble_eq_true rfl⟩ ⟨Nat.zero_le _, Nat.zero_le _⟩ (Nat.le_of_ble_eq_true rfl) rfl dX1_readRequests_85 (fun r w1 hw1 => ?_)
  obtain ⟨hr1, hw1⟩ := hw1
  subst hr1 hw1
  refine ⟨(wTk E a q1 ++ wFl E b q2.2), by exact (pw_X1_readWorkers_1 E a b q1 T q2.2), ?_⟩
  refine r_pop (pc := 88) C dX1_readRequests_88 rfl ?_
  refine r_iinc (pc := 89) C (v := (x2 + 1)) dX1_readRequests_89 rfl rfl (by decide) rfl ?_
  refine r_goto (pc := 92) C (tgt := 2) dX1_readRequests_92 rfl ?_
  refine r_weak (lSub_s (lSub_s (lSub_s (lSub_n (lSub_n (lSub_n lSub_e)))))) ?_
  exact hκ2 (x2 + 1) q1 q2.2 q  h hq
def M_X1_readRequests_2 (k : Nat) : Nat → (Int32) → (Nat → Nat → Int32) → (Nat → Nat → Int32) → Option ((Nat → Nat → Int32) × (Nat → Nat → Int32))
  | 0, _, _, _ => none
  | n + 1, x2, S, T => if (60 : Int32) < x2 then (some (S, T)) else ((M_X7_is k S 10).bind fun q4 => if q4 = 0 then (some (S, T)) else (if x2 = (60 : Int32) then ((M_X7_fail k S (3 : Int32)).bind fun q13 => M_X1_readRequests_2 k n (x2 + 1) q13 T) else ((M_X7_advance k S).bind fun q7 => (M_X7_takeNumber k q7 (0 : Int32) ((T 0 2) - (1 : Int32))).bind fun q8 => (M_X7_takeNumber k q8.2 (1 : Int32) (20 : Int32)).bind fun q9 => (M_X7_is k q9.2 11).bind fun q10 => if q10 = 0 then (M_X1_readRequests_73 k (M_X1_readRequests_2 k n) x2 q8.1 q9.1 q10 q9.2 T) else ((M_X7_advance k q9.2).bind fun q12 => M_X1_readRequests_73 k (M_X1_readRequests_2 k n) x2 q8.1 q9.1 q10 q12 T))))
theorem M_X1_readRequests_2_s (k : Nat) (n : Nat) (x2 : Int32) (S : Nat → Nat → Int32) (T : Nat → Nat → Int32) : M_X1_readRequests_2 k (n + 1) x2 S T = (if (60 : Int32) < x2 then (some (S, T)) else ((M_X7_is k S 10).bind fun q4 => if q4 = 0 then (some (S, T)) else (if x2 = (60 : Int32) then ((M_X7_fail k S (3 : Int32)).bind fun q13 => M_X1_readRequests_2 k n (x2 + 1) q13 T) else ((M_X7_advance k S).bind fun q7 => (M_X7_takeNumber k q7 (0 : Int32) ((T 0 2) - (1 : Int32))).bind fun q8 => (M_X7_takeNumber k q8.2 (1 : Int32) (20 : Int32)).bind fun q9 => (M_X7_is k q9.2 11).bind fun q10 => if q10 = 0 then (M_X1_readRequests_73 k (M_X1_readRequests_2 k n) x2 q8.1 q9.1 q10 q9.2 T) else ((M_X7_advance k q9.2).bind fun q12 => M_X1_readRequests_73 k (M_X1_readRequests_2 k n) x2 q8.1 q9.1 q10 q12 T))))) := rfl
set_option maxRecDepth 100000 in
set_option maxHeartbeats 4000000 in
theorem N_X1_readRequests_2 (C : CX E p l s m args meth c cX1_readRequests 6 RX1 none A) (a : Nat → Nat) (b : Nat → Nat) (k : Nat) {post : va_W → Prop} :
    ∀ (n : Nat) (x2 : Int32) (S : Nat → Nat → Int32) (T : Nat → Nat → Int32) (q : (Nat → Nat → Int32) × (Nat → Nat → Int32)), M_X1_readRequests_2 k n x2 S T = some q → post (wTk E a q.1 ++ wFl E b q.2) →
      WW E p l e rm_X1_readRequests s m args below meth c A 0 0 (QV E below post args s rm_X1_readRequests A) (wTk E a S ++ wFl E b T) 6 [some (.ref (a 0)), some (.ref (b 0)), some (.int x2), none, none, none] 2 [] := by
  intro n
  induction n with
  | zero => intro x2 S T q  h _; cases h
  | succ n ih =>
    intro x2 S T q  h hq
    rw [M_X1_readRequests_2_s] at h
    refine r_iload_n (pc := 2) C (i := 2) dX1_readRequests_2 rfl rfl ?_
    refine r_bipush (pc := 3) C (v := 60) dX1_readRequests_3 (by decide) ?_
    refine r_icmp_gt (pc := 5) C (tgt := 95) dX1_readRequests_5 rfl (fun c3 => ?_) (fun c3 => ?_)
    · rw [if_pos c3] at h
      cases h
      exact r_vret (pc := 95) C hq (Nat.zero_le _) (Nat.zero_le _) dX1_readRequests_95
    · rw [if_neg c3] at h
      refine r_aload_n (pc := 8) C (i := 0) dX1_readRequests_8 rfl rfl ?_
      refine r_ldcS (pc := 9) C 10 rfl dX1_readRequests_9 ?_
      obtain ⟨q4, hq4, h⟩ := bnd h
      refine r_callVp_CI (Cn := RX7) (pc := 11) C [.ref (eS E 10)] (c_X7_is E l k a S 10 (by decide) hq4) [0, 1, 2] (hp_X1_readWorkers_0 E a b S T) (by decide) 0 rfl rfl rfl g_X1_83 hd_X7_is ⟨Nat.le_of_ble_eq_true rfl, Nat.le_of_ble_eq_true rfl⟩ ⟨Nat.zero_le _, Nat.zero_le _⟩ (Nat.le_of_ble_eq_true rfl) rfl dX1_readRequests_11 (fun r hr => ?_)
      have hr := hr.symm
      subst hr
      refine r_if_eq (pc := 14) C (tgt := 95) dX1_readRequests_14 rfl (fun c5 => ?_) (fun c5 => ?_)
      · rw [if_pos c5] at h
        cases h
        exact r_vret (pc := 95) C hq (Nat.zero_le _) (Nat.zero_le _) dX1_readRequests_95
      · rw [if_neg c5] at h
        refine r_iload_n (pc := 17) C (i := 2) dX1_readRequests_17 rfl rfl ?_
        refine r_bipush (pc := 18) C (v := 60) dX1_readRequests_18 (by decide) ?_
        refine r_icmp_ne (pc := 20) C (tgt := 31) dX1_readRequests_20 rfl (fun c6 => ?_) (fun c6 => ?_)
        · rw [if_neg c6] at h
          refine r_aload_n (pc := 31) C (i := 0) dX1_readRequests_31 rfl rfl ?_
          obtain ⟨q7, hq7, h⟩ := bnd h
          refine r_callV_CV (Cn := RX7) (pc := 32) C [] (c_X7_advance E l k a S hq7) [0, 1, 2] (hp_X1_readWorkers_0 E a b S T) (by decide) 0 rfl rfl rfl g_X1_62 hd_X7_advance ⟨Nat.le_of_ble_eq_true rfl, Nat.le_of_ble_eq_true rfl⟩ ⟨Nat.zero_le _, Nat.zero_le _⟩ (Nat.le_of_ble_eq_true rfl) rfl dX1_readRequests_32 (fun w1 hw1 => ?_)
          subst hw1
          refine ⟨(wTk E a q7 ++ wFl E b T), by exact (pw_X1_readWorkers_0 E a b S T q7), ?_⟩
          refine r_aload_n (pc := 35) C (i := 0) dX1_readRequests_35 rfl rfl ?_
          refine r_iconst (pc := 36) C (v := 0) dX1_readRequests_36 (by decide) ?_
          refine r_aload_n (pc := 37) C (i := 1) dX1_readRequests_37 rfl rfl ?_
          refine r_get (pc := 38) C gwX0 3 rfl rfl 2 (by decide) wm_1_100 rfl dX1_readRequests_38 ?_
          refine r_iconst (pc := 41) C (v := 1) dX1_readRequests_41 (by decide) ?_
          refine r_isub (pc := 42) C dX1_readRequests_42 ?_
          obtain ⟨q8, hq8, h⟩ := bnd h
          refine r_callV_CI (Cn := RX7) (pc := 43) C [.int (0 : Int32), .int ((T 0 2) - (1 : Int32))] (c_X7_takeNumber E l k a q7 (0 : Int32) ((T 0 2) - (1 : Int32)) hq8) [0, 1, 2] (hp_X1_readWorkers_0 E a b q7 T) (by decide) 0 rfl rfl rfl g_X1_35 hd_X7_takeNumber ⟨Nat.le_of_ble_eq_true rfl, Nat.le_of_ble_eq_true rfl⟩ ⟨Nat.zero_le _, Nat.zero_le _⟩ (Nat.le_of_ble_eq_true rfl) rfl dX1_readRequests_43 (fun r w1 hw1 => ?_)
          obtain ⟨hr1, hw1⟩ := hw1
          subst hr1 hw1
          refine ⟨(wTk E a q8.2 ++ wFl E b T), by exact (pw_X1_readWorkers_0 E a b q7 T q8.2), ?_⟩
          refine r_istore_n (pc := 46) C (i := 3) dX1_readRequests_46 rfl (by decide) rfl ?_
          refine r_aload_n (pc := 47) C (i := 0) dX1_readRequests_47 rfl rfl ?_
          refine r_iconst (pc := 48) C (v := 1) dX1_readRequests_48 (by decide) ?_
          refine r_bipush (pc := 49) C (v := 20) dX1_readRequests_49 (by decide) ?_
          obtain ⟨q9, hq9, h⟩ := bnd h
          refine r_callV_CI (Cn := RX7) (pc := 51) C [.int (1 : Int32), .int (20 : Int32)] (c_X7_takeNumber E l k a q8.2 (1 : Int32) (20 : Int32) hq9) [0, 1, 2] (hp_X1_readWorkers_0 E a b q8.2 T) (by decide) 0 rfl rfl rfl g_X1_35 hd_X7_takeNumber ⟨Nat.le_of_ble_eq_true rfl, Nat.le_of_ble_eq_true rfl⟩ ⟨Nat.zero_le _, Nat.zero_le _⟩ (Nat.le_of_ble_eq_true rfl) rfl dX1_readRequests_51 (fun r w1 hw1 => ?_)
          obtain ⟨hr1, hw1⟩ := hw1
          subst hr1 hw1
          refine ⟨(wTk E a q9.2 ++ wFl E b T), by exact (pw_X1_readWorkers_0 E a b q8.2 T q9.2), ?_⟩
          refine r_istore (pc := 54) C (i := 4) dX1_readRequests_54 (by decide) rfl ?_
          refine r_aload_n (pc := 56) C (i := 0) dX1_readRequests_56 rfl rfl ?_
          refine r_ldcS (pc := 57) C 11 rfl dX1_readRequests_57 ?_
          obtain ⟨q10, hq10, h⟩ := bnd h
          refine r_callVp_CI (Cn := RX7) (pc := 59) C [.ref (eS E 11)] (c_X7_is E l k a q9.2 11 (by decide) hq10) [0, 1, 2] (hp_X1_readWorkers_0 E a b q9.2 T) (by decide) 0 rfl rfl rfl g_X1_83 hd_X7_is ⟨Nat.le_of_ble_eq_true rfl, Nat.le_of_ble_eq_true rfl⟩ ⟨Nat.zero_le _, Nat.zero_le _⟩ (Nat.le_of_ble_eq_true rfl) rfl dX1_readRequests_59 (fun r hr => ?_)
          have hr := hr.symm
          subst hr
          refine r_istore (pc := 62) C (i := 5) dX1_readRequests_62 (by decide) rfl ?_
          refine r_iload (pc := 64) C (i := 5) dX1_readRequests_64 rfl ?_
          refine r_if_eq (pc := 66) C (tgt := 73) dX1_readRequests_66 rfl (fun c11 => ?_) (fun c11 => ?_)
          · rw [if_pos c11] at h
            refine r_weak (lSub_s (lSub_s (lSub_s (lSub_s (lSub_s (lSub_s lSub_e)))))) ?_
            exact N_X1_readRequests_73 C a b k (M_X1_readRequests_2 k n) ih x2 q8.1 q9.1 q10 q9.2 T q  h hq
          · rw [if_neg c11] at h
            refine r_aload_n (pc := 69) C (i := 0) dX1_readRequests_69 rfl rfl ?_
            obtain ⟨q12, hq12, h⟩ := bnd h
            refine r_callV_CV (Cn := RX7) (pc := 70) C [] (c_X7_advance E l k a q9.2 hq12) [0, 1, 2] (hp_X1_readWorkers_0 E a b q9.2 T) (by decide) 0 rfl rfl rfl g_X1_62 hd_X7_advance ⟨Nat.le_of_ble_eq_true rfl, Nat.le_of_ble_eq_true rfl⟩ ⟨Nat.zero_le _, Nat.zero_le _⟩ (Nat.le_of_ble_eq_true rfl) rfl dX1_readRequests_70 (fun w1 hw1 => ?_)
            subst hw1
            refine ⟨(wTk E a q12 ++ wFl E b T), by exact (pw_X1_readWorkers_0 E a b q9.2 T q12), ?_⟩
            refine r_weak (lSub_s (lSub_s (lSub_s (lSub_s (lSub_s (lSub_s lSub_e)))))) ?_
            exact N_X1_readRequests_73 C a b k (M_X1_readRequests_2 k n) ih x2 q8.1 q9.1 q10 q12 T q  h hq
        · rw [if_pos c6] at h
          refine r_aload_n (pc := 23) C (i := 0) dX1_readRequests_23 rfl rfl ?_
          refine r_iconst (pc := 24) C (v := 3) dX1_readRequests_24 (by decide) ?_
          obtain ⟨q13, hq13, h⟩ := bnd h
          refine r_callV_CV (Cn := RX7) (pc := 25) C [.int (3 : Int32)] (c_X7_fail E l k a S (3 : Int32) hq13) [0, 1, 2] (hp_X1_readWorkers_0 E a b S T) (by decide) 0 rfl rfl rfl g_X1_97 hd_X7_fail ⟨Nat.le_of_ble_eq_true rfl, Nat.le_of_ble_eq_true rfl⟩ ⟨Nat.zero_le _, Nat.zero_le _⟩ (Nat.le_of_ble_eq_true rfl) rfl dX1_readRequests_25 (fun w1 hw1 => ?_)
          subst hw1
          refine ⟨(wTk E a q13 ++ wFl E b T), by exact (pw_X1_readWorkers_0 E a b S T q13), ?_⟩
          refine r_goto (pc := 28) C (tgt := 89) dX1_readRequests_28 rfl ?_
          refine r_iinc (pc := 89) C (v := (x2 + 1)) dX1_readRequests_89 rfl rfl (by decide) rfl ?_
          refine r_goto (pc := 92) C (tgt := 2) dX1_readRequests_92 rfl ?_
          refine r_weak (lSub_s (lSub_s (lSub_s (lSub_n (lSub_n (lSub_n lSub_e)))))) ?_
          exact ih (x2 + 1) q13 T q  h hq
def M_X1_readRequests_0 (k : Nat) (S : Nat → Nat → Int32) (T : Nat → Nat → Int32) : Option ((Nat → Nat → Int32) × (Nat → Nat → Int32)) := M_X1_readRequests_2 k k (0 : Int32) S T
set_option maxRecDepth 100000 in
set_option maxHeartbeats 4000000 in
theorem N_X1_readRequests_0 (C : CX E p l s m args meth c cX1_readRequests 6 RX1 none A) (a : Nat → Nat) (b : Nat → Nat) (k : Nat) {post : va_W → Prop} :
    ∀ (S : Nat → Nat → Int32) (T : Nat → Nat → Int32) (q : (Nat → Nat → Int32) × (Nat → Nat → Int32)), M_X1_readRequests_0 k S T = some q → post (wTk E a q.1 ++ wFl E b q.2) →
      WW E p l e rm_X1_readRequests s m args below meth c A 0 0 (QV E below post args s rm_X1_readRequests A) (wTk E a S ++ wFl E b T) 6 [some (.ref (a 0)), some (.ref (b 0)), none, none, none, none] 0 [] := by
  intro S T q  h hq
  unfold M_X1_readRequests_0 at h
  refine r_iconst (pc := 0) C (v := 0) dX1_readRequests_0 (by decide) ?_
  refine r_istore_n (pc := 1) C (i := 2) dX1_readRequests_1 rfl (by decide) rfl ?_
  refine r_weak (lSub_s (lSub_s (lSub_s (lSub_n (lSub_n (lSub_n lSub_e)))))) ?_
  exact N_X1_readRequests_2 C a b k k (0 : Int32) S T q  h hq
def M_X1_readRequests (k : Nat) (S : Nat → Nat → Int32) (T : Nat → Nat → Int32) : Option ((Nat → Nat → Int32) × (Nat → Nat → Int32)) := M_X1_readRequests_0 k S T
set_option maxRecDepth 100000 in
set_option maxHeartbeats 4000000 in
theorem c_X1_readRequests (E : ENV) (l : Launch) (k : Nat) (a : Nat → Nat) (b : Nat → Nat) (S : Nat → Nat → Int32) (T : Nat → Nat → Int32) {q : (Nat → Nat → Int32) × (Nat → Nat → Int32)} (hm : M_X1_readRequests k S T = some q) : CV E l yX1_readRequests cX1_readRequests 6 none rm_X1_readRequests [.ref (a 0), .ref (b 0)] (wTk E a S ++ wFl E b T) (fun w' => w' = (wTk E a q.1 ++ wFl E b q.2)) :=
  CV.of 4 (by decide) (Nat.le_of_ble_eq_true rfl) (fun p e s m below meth c A C _ => r_weak (lSub_s (lSub_s (lSub_n (lSub_n (lSub_n (lSub_n lSub_e)))))) (N_X1_readRequests_0 C a b k S T q  hm rfl))
theorem hd_X9_leastSetting : yX9_leastSetting.cls = RX9 ∧ yX9_leastSetting.cls ≠ "java/lang/invoke/MethodHandle" ∧ yX9_leastSetting.cls ≠ "java/lang/invoke/VarHandle" ∧ (parseMethodDescriptor yX9_leastSetting.desc).map (fun d => d.parameters.length) = some 1 := by decide +kernel
theorem gn_X9_leastSetting : GoodIn GW (wsG yX9_leastSetting cX9_leastSetting 1 (some .int)) := gw_sub (gw_G wm_3_125)
theorem hd_X9_greatestSetting : yX9_greatestSetting.cls = RX9 ∧ yX9_greatestSetting.cls ≠ "java/lang/invoke/MethodHandle" ∧ yX9_greatestSetting.cls ≠ "java/lang/invoke/VarHandle" ∧ (parseMethodDescriptor yX9_greatestSetting.desc).map (fun d => d.parameters.length) = some 1 := by decide +kernel
theorem gn_X9_greatestSetting : GoodIn GW (wsG yX9_greatestSetting cX9_greatestSetting 1 (some .int)) := gw_sub (gw_G wm_3_130)
theorem g_X1_76 : GoodIn GW (wsV RX1 76 RX5 yX5_put (wsG yX5_put cX5_put 3 none)) := gw_V wm_3_133 wm_1_234 wm_1_235 wm_1_3 wm_1_236
theorem hd_X1_settingNamed : yX1_settingNamed.cls = RX1 ∧ yX1_settingNamed.cls ≠ "java/lang/invoke/MethodHandle" ∧ yX1_settingNamed.cls ≠ "java/lang/invoke/VarHandle" ∧ (parseMethodDescriptor yX1_settingNamed.desc).map (fun d => d.parameters.length) = some 1 := by decide +kernel
theorem g_X1_58 : GoodIn GW (va_wsS RX1 58 yX1_settingNamed (wsG yX1_settingNamed cX1_settingNamed 1 (some .int))) := gw_S wm_3_113 wm_3_114 wm_1_15 wm_3_115
-- ShardGuard$FleetText.readSettings(LShardGuard$Tokens;LShardGuard$Fleet;)V
set_option maxHeartbeats 8000000 in
theorem hp_X1_readSettings_0 (E : ENV) (a : Nat → Nat) (b : Nat → Nat) (S : Nat → Nat → Int32) (T : Nat → Nat → Int32) : ([4, 5] : List Nat).map (fun i => (wTk E a S ++ wFl E b T)[i]?) = (wRow E (fun i => b (i + 1)) 5 (T 1)).map some := rfl
set_option maxHeartbeats 8000000 in
theorem pw_X1_readSettings_0 (E : ENV) (a : Nat → Nat) (b : Nat → Nat) (S : Nat → Nat → Int32) (T : Nat → Nat → Int32) (X0 : Nat → Int32) : putW (wTk E a S ++ wFl E b T) [4, 5] (wRow E (fun i => b (i + 1)) 5 X0) = some (wTk E a S ++ wFl E b (va_up T 1 X0)) := rfl
theorem dX1_readSettings_0 : decode cX1_readSettings 0 = .ok (.aload_n 0, 1) := by decide +kernel
theorem dX1_readSettings_1 : decode cX1_readSettings 1 = .ok (.invokestatic 58, 3) := by decide +kernel
theorem dX1_readSettings_4 : decode cX1_readSettings 4 = .ok (.istore_n 2, 1) := by decide +kernel
theorem dX1_readSettings_5 : decode cX1_readSettings 5 = .ok (.iconst 0, 1) := by decide +kernel
theorem dX1_readSettings_6 : decode cX1_readSettings 6 = .ok (.istore_n 3, 1) := by decide +kernel
theorem dX1_readSettings_7 : decode cX1_readSettings 7 = .ok (.iload_n 3, 1) := by decide +kernel
theorem dX1_readSettings_8 : decode cX1_readSettings 8 = .ok (.sipush 700, 3) := by decide +kernel
theorem dX1_readSettings_11 : decode cX1_readSettings 11 = .ok (.if_icmp .ge 49, 3) := by decide +kernel
theorem dX1_readSettings_14 : decode cX1_readSettings 14 = .ok (.iload_n 2, 1) := by decide +kernel
theorem dX1_readSettings_15 : decode cX1_readSettings 15 = .ok (.iconst (-1), 1) := by decide +kernel
theorem dX1_readSettings_16 : decode cX1_readSettings 16 = .ok (.if_icmp .eq 44, 3) := by decide +kernel
theorem dX1_readSettings_19 : decode cX1_readSettings 19 = .ok (.aload_n 0, 1) := by decide +kernel
theorem dX1_readSettings_20 : decode cX1_readSettings 20 = .ok (.invokevirtual 62, 3) := by decide +kernel
theorem dX1_readSettings_23 : decode cX1_readSettings 23 = .ok (.aload_n 1, 1) := by decide +kernel
theorem dX1_readSettings_24 : decode cX1_readSettings 24 = .ok (.getfield 65, 3) := by decide +kernel
theorem dX1_readSettings_27 : decode cX1_readSettings 27 = .ok (.iload_n 2, 1) := by decide +kernel
theorem dX1_readSettings_28 : decode cX1_readSettings 28 = .ok (.aload_n 0, 1) := by decide +kernel
theorem dX1_readSettings_29 : decode cX1_readSettings 29 = .ok (.iload_n 2, 1) := by decide +kernel
theorem dX1_readSettings_30 : decode cX1_readSettings 30 = .ok (.invokestatic 69, 3) := by decide +kernel
theorem dX1_readSettings_33 : decode cX1_readSettings 33 = .ok (.iload_n 2, 1) := by decide +kernel
theorem dX1_readSettings_34 : decode cX1_readSettings 34 = .ok (.invokestatic 73, 3) := by decide +kernel
theorem dX1_readSettings_37 : decode cX1_readSettings 37 = .ok (.invokevirtual 35, 3) := by decide +kernel
theorem dX1_readSettings_40 : decode cX1_readSettings 40 = .ok (.invokevirtual 76, 3) := by decide +kernel
theorem dX1_readSettings_43 : decode cX1_readSettings 43 = .ok (.aload_n 0, 1) := by decide +kernel
theorem dX1_readSettings_44 : decode cX1_readSettings 44 = .ok (.ldc 46, 2) := by decide +kernel
theorem dX1_readSettings_46 : decode cX1_readSettings 46 = .ok (.invokevirtual 31, 3) := by decide +kernel
theorem dX1_readSettings_49 : decode cX1_readSettings 49 = .ok (.aload_n 0, 1) := by decide +kernel
theorem dX1_readSettings_50 : decode cX1_readSettings 50 = .ok (.invokestatic 58, 3) := by decide +kernel
theorem dX1_readSettings_53 : decode cX1_readSettings 53 = .ok (.istore_n 2, 1) := by decide +kernel
theorem dX1_readSettings_54 : decode cX1_readSettings 54 = .ok (.iinc 3 1, 3) := by decide +kernel
theorem dX1_readSettings_57 : decode cX1_readSettings 57 = .ok (.goto (-50), 3) := by decide +kernel
theorem dX1_readSettings_60 : decode cX1_readSettings 60 = .ok (.return_, 1) := by decide +kernel
def rm_X1_readSettings : Room := { frames := 8, cells := 0, slots := 0, locals := 193 }
def M_X1_readSettings_7 (k : Nat) : Nat → (Int32) → (Int32) → (Nat → Nat → Int32) → (Nat → Nat → Int32) → Option ((Nat → Nat → Int32) × (Nat → Nat → Int32))
  | 0, _, _, _, _ => none
  | n + 1, x2, x3, S, T => if (700 : Int32) ≤ x3 then (some (S, T)) else (if x2 = (-1 : Int32) then (some (S, T)) else ((M_X7_advance k S).bind fun q3 => (M_X9_leastSetting k x2).bind fun q4 => (M_X9_greatestSetting k x2).bind fun q5 => (M_X7_takeNumber k q3 q4 q5).bind fun q6 => (M_X5_put k 5 (T 1) x2 q6.1).bind fun q7 => lt (va_up T 1 q7) fun F8 => (M_X7_take k q6.2 3).bind fun q9 => (M_X1_settingNamed k q9).bind fun q10 => M_X1_readSettings_7 k n q10 (x3 + 1) q9 F8))
theorem M_X1_readSettings_7_s (k : Nat) (n : Nat) (x2 : Int32) (x3 : Int32) (S : Nat → Nat → Int32) (T : Nat → Nat → Int32) : M_X1_readSettings_7 k (n + 1) x2 x3 S T = (if (700 : Int32) ≤ x3 then (some (S, T)) else (if x2 = (-1 : Int32) then (some (S, T)) else ((M_X7_advance k S).bind fun q3 => (M_X9_leastSetting k x2).bind fun q4 => (M_X9_greatestSetting k x2).bind fun q5 => (M_X7_takeNumber k q3 q4 q5).bind fun q6 => (M_X5_put k 5 (T 1) x2 q6.1).bind fun q7 => lt (va_up T 1 q7) fun F8 => (M_X7_take k q6.2 3).bind fun q9 => (M_X1_settingNamed k q9).bind fun q10 => M_X1_readSettings_7 k n q10 (x3 + 1) q9 F8))) := rfl
set_option maxRecDepth 100000 in
set_option maxHeartbeats 4000000 in
theorem N_X1_readSettings_7 (C : CX E p l s m args meth c cX1_readSettings 4 RX1 none A) (a : Nat → Nat) (b : Nat → Nat) (k : Nat) {post : va_W → Prop} :
    ∀ (n : Nat) (x2 : Int32) (x3 : Int32) (S : Nat → Nat → Int32) (T : Nat → Nat → Int32) (q : (Nat → Nat → Int32) × (Nat → Nat → Int32)), M_X1_readSettings_7 k n x2 x3 S T = some q → post (wTk E a q.1 ++ wFl E b q.2) →
      WW E p l e rm_X1_readSettings s m args below meth c A 0 0 (QV E below post args s rm_X1_readSettings A) (wTk E a S ++ wFl E b T) 4 [some (.ref (a 0)), some (.ref (b 0)), some (.int x2), some (.int x3)] 7 [] := by
  intro n
  induction n with
  | zero => intro x2 x3 S T q  h _; cases h
  | succ n ih =>
    intro x2 x3 S T q  h hq
    rw [M_X1_readSettings_7_s] at h
    refine r_iload_n (pc := 7) C (i := 3) dX1_readSettings_7 rfl rfl ?_
    refine r_sipush (pc := 8) C (v := 700) dX1_readSettings_8 (by decide) ?_
    refine r_icmp_ge (pc := 11) C (tgt := 60) dX1_readSettings_11 rfl (fun c1 => ?_) (fun c1 => ?_)
    · rw [if_pos c1] at h
      cases h
      exact r_vret (pc := 60) C hq (Nat.zero_le _) (Nat.zero_le _) dX1_readSettings_60
    · rw [if_neg c1] at h
      refine r_iload_n (pc := 14) C (i := 2) dX1_readSettings_14 rfl rfl ?_
      refine r_iconst (pc := 15) C (v := (-1)) dX1_readSettings_15 (by decide) ?_
      refine r_icmp_eq (pc := 16) C (tgt := 60) dX1_readSettings_16 rfl (fun c2 => ?_) (fun c2 => ?_)
      · rw [if_pos c2] at h
        cases h
        exact r_vret (pc := 60) C hq (Nat.zero_le _) (Nat.zero_le _) dX1_readSettings_60
      · rw [if_neg c2] at h
        refine r_aload_n (pc := 19) C (i := 0) dX1_readSettings_19 rfl rfl ?_
        obtain ⟨q3, hq3, h⟩ := bnd h
        refine r_callV_CV (Cn := RX7) (pc := 20) C [] (c_X7_advance E l k a S hq3) [0, 1, 2] (hp_X1_readWorkers_0 E a b S T) (by decide) 0 rfl rfl rfl g_X1_62 hd_X7_advance ⟨Nat.le_of_ble_eq_true rfl, Nat.le_of_ble_eq_true rfl⟩ ⟨Nat.zero_le _, Nat.zero_le _⟩ (Nat.le_of_ble_eq_true rfl) rfl dX1_readSettings_20 (fun w1 hw1 => ?_)
        subst hw1
        refine ⟨(wTk E a q3 ++ wFl E b T), by exact (pw_X1_readWorkers_0 E a b S T q3), ?_⟩
        refine r_aload_n (pc := 23) C (i := 1) dX1_readSettings_23 rfl rfl ?_
        refine r_get (pc := 24) C gwX0 3 rfl rfl 6 (by decide) wm_1_109 rfl dX1_readSettings_24 ?_
        refine r_iload_n (pc := 27) C (i := 2) dX1_readSettings_27 rfl rfl ?_
        refine r_aload_n (pc := 28) C (i := 0) dX1_readSettings_28 rfl rfl ?_
        refine r_iload_n (pc := 29) C (i := 2) dX1_readSettings_29 rfl rfl ?_
        obtain ⟨q4, hq4, h⟩ := bnd h
        refine r_callSNp_CI (pc := 30) C [.int x2] (c_X9_leastSetting E l k x2 hq4) [] rfl (by decide) gn_X9_leastSetting wm_1_1 wm_3_124 (C.2.2.2.2.2.2.1.nest 5 rfl) hd_X9_leastSetting.2 ⟨Nat.le_of_ble_eq_true rfl, Nat.le_of_ble_eq_true rfl⟩ ⟨Nat.zero_le _, Nat.zero_le _⟩ (Nat.le_of_ble_eq_true rfl) rfl dX1_readSettings_30 (fun r hr => ?_)
        have hr := hr.symm
        subst hr
        refine r_iload_n (pc := 33) C (i := 2) dX1_readSettings_33 rfl rfl ?_
        obtain ⟨q5, hq5, h⟩ := bnd h
        refine r_callSNp_CI (pc := 34) C [.int x2] (c_X9_greatestSetting E l k x2 hq5) [] rfl (by decide) gn_X9_greatestSetting wm_1_1 wm_3_129 (C.2.2.2.2.2.2.1.nest 6 rfl) hd_X9_greatestSetting.2 ⟨Nat.le_of_ble_eq_true rfl, Nat.le_of_ble_eq_true rfl⟩ ⟨Nat.zero_le _, Nat.zero_le _⟩ (Nat.le_of_ble_eq_true rfl) rfl dX1_readSettings_34 (fun r hr => ?_)
        have hr := hr.symm
        subst hr
        obtain ⟨q6, hq6, h⟩ := bnd h
        refine r_callV_CI (Cn := RX7) (pc := 37) C [.int q4, .int q5] (c_X7_takeNumber E l k a q3 q4 q5 hq6) [0, 1, 2] (hp_X1_readWorkers_0 E a b q3 T) (by decide) 0 rfl rfl rfl g_X1_35 hd_X7_takeNumber ⟨Nat.le_of_ble_eq_true rfl, Nat.le_of_ble_eq_true rfl⟩ ⟨Nat.zero_le _, Nat.zero_le _⟩ (Nat.le_of_ble_eq_true rfl) rfl dX1_readSettings_37 (fun r w1 hw1 => ?_)
        obtain ⟨hr1, hw1⟩ := hw1
        subst hr1 hw1
        refine ⟨(wTk E a q6.2 ++ wFl E b T), by exact (pw_X1_readWorkers_0 E a b q3 T q6.2), ?_⟩
        obtain ⟨q7, hq7, h⟩ := bnd h
        obtain ⟨F8, hF8, h⟩ := lt_e h
        refine r_callV_CV (Cn := RX5) (pc := 40) C [.int x2, .int q6.1] (c_X5_put E l k (fun i => b (i + 1)) 5 (T 1) x2 q6.1 hq7) [4, 5] (hp_X1_readSettings_0 E a b q6.2 T) (by decide) 0 rfl rfl rfl g_X1_76 hd_X5_put ⟨Nat.le_of_ble_eq_true rfl, Nat.le_of_ble_eq_true rfl⟩ ⟨Nat.zero_le _, Nat.zero_le _⟩ (Nat.le_of_ble_eq_true rfl) rfl dX1_readSettings_40 (fun w1 hw1 => ?_)
        subst hw1
        refine ⟨(wTk E a q6.2 ++ wFl E b F8), by rw [hF8]; exact (pw_X1_readSettings_0 E a b q6.2 T q7), ?_⟩
        refine r_aload_n (pc := 43) C (i := 0) dX1_readSettings_43 rfl rfl ?_
        refine r_ldcS (pc := 44) C 3 rfl dX1_readSettings_44 ?_
        obtain ⟨q9, hq9, h⟩ := bnd h
        refine r_callV_CV (Cn := RX7) (pc := 46) C [.ref (eS E 3)] (c_X7_take E l k a q6.2 3 (by decide) hq9) [0, 1, 2] (hp_X1_readWorkers_0 E a b q6.2 F8) (by decide) 0 rfl rfl rfl g_X1_31 hd_X7_take ⟨Nat.le_of_ble_eq_true rfl, Nat.le_of_ble_eq_true rfl⟩ ⟨Nat.zero_le _, Nat.zero_le _⟩ (Nat.le_of_ble_eq_true rfl) rfl dX1_readSettings_46 (fun w1 hw1 => ?_)
        subst hw1
        refine ⟨(wTk E a q9 ++ wFl E b F8), by exact (pw_X1_readWorkers_0 E a b q6.2 F8 q9), ?_⟩
        refine r_aload_n (pc := 49) C (i := 0) dX1_readSettings_49 rfl rfl ?_
        obtain ⟨q10, hq10, h⟩ := bnd h
        refine r_callSp_CI (pc := 50) C [.ref (a 0)] (c_X1_settingNamed E l k a q9 hq10) [0, 1, 2] (hp_X1_readWorkers_0 E a b q9 F8) (by decide) g_X1_58 hd_X1_settingNamed.2 ⟨Nat.le_of_ble_eq_true rfl, Nat.le_of_ble_eq_true rfl⟩ ⟨Nat.zero_le _, Nat.zero_le _⟩ (Nat.le_of_ble_eq_true rfl) rfl dX1_readSettings_50 (fun r hr => ?_)
        have hr := hr.symm
        subst hr
        refine r_istore_n (pc := 53) C (i := 2) dX1_readSettings_53 rfl (by decide) rfl ?_
        refine r_iinc (pc := 54) C (v := (x3 + 1)) dX1_readSettings_54 rfl rfl (by decide) rfl ?_
        refine r_goto (pc := 57) C (tgt := 7) dX1_readSettings_57 rfl ?_
        refine r_weak (lSub_s (lSub_s (lSub_s (lSub_s lSub_e)))) ?_
        exact ih q10 (x3 + 1) q9 F8 q  h hq
def M_X1_readSettings_0 (k : Nat) (S : Nat → Nat → Int32) (T : Nat → Nat → Int32) : Option ((Nat → Nat → Int32) × (Nat → Nat → Int32)) := (M_X1_settingNamed k S).bind fun q11 => M_X1_readSettings_7 k k q11 (0 : Int32) S T
set_option maxRecDepth 100000 in
set_option maxHeartbeats 4000000 in
theorem N_X1_readSettings_0 (C : CX E p l s m args meth c cX1_readSettings 4 RX1 none A) (a : Nat → Nat) (b : Nat → Nat) (k : Nat) {post : va_W → Prop} :
    ∀ (S : Nat → Nat → Int32) (T : Nat → Nat → Int32) (q : (Nat → Nat → Int32) × (Nat → Nat → Int32)), M_X1_readSettings_0 k S T = some q → post (wTk E a q.1 ++ wFl E b q.2) →
      WW E p l e rm_X1_readSettings s m args below meth c A 0 0 (QV E below post args s rm_X1_readSettings A) (wTk E a S ++ wFl E b T) 4 [some (.ref (a 0)), some (.ref (b 0)), none, none] 0 [] := by
  intro S T q  h hq
  unfold M_X1_readSettings_0 at h
  refine r_aload_n (pc := 0) C (i := 0) dX1_readSettings_0 rfl rfl ?_
  obtain ⟨q11, hq11, h⟩ := bnd h
  refine r_callSp_CI (pc := 1) C [.ref (a 0)] (c_X1_settingNamed E l k a S hq11) [0, 1, 2] (hp_X1_readWorkers_0 E a b S T) (by decide) g_X1_58 hd_X1_settingNamed.2 ⟨Nat.le_of_ble_eq_true rfl, Nat.le_of_ble_eq_true rfl⟩ ⟨Nat.zero_le _, Nat.zero_le _⟩ (Nat.le_of_ble_eq_true rfl) rfl dX1_readSettings_1 (fun r hr => ?_)
  have hr := hr.symm
  subst hr
  refine r_istore_n (pc := 4) C (i := 2) dX1_readSettings_4 rfl (by decide) rfl ?_
  refine r_iconst (pc := 5) C (v := 0) dX1_readSettings_5 (by decide) ?_
  refine r_istore_n (pc := 6) C (i := 3) dX1_readSettings_6 rfl (by decide) rfl ?_
  refine r_weak (lSub_s (lSub_s (lSub_s (lSub_s lSub_e)))) ?_
  exact N_X1_readSettings_7 C a b k k q11 (0 : Int32) S T q  h hq
def M_X1_readSettings (k : Nat) (S : Nat → Nat → Int32) (T : Nat → Nat → Int32) : Option ((Nat → Nat → Int32) × (Nat → Nat → Int32)) := M_X1_readSettings_0 k S T
set_option maxRecDepth 100000 in
set_option maxHeartbeats 4000000 in
theorem c_X1_readSettings (E : ENV) (l : Launch) (k : Nat) (a : Nat → Nat) (b : Nat → Nat) (S : Nat → Nat → Int32) (T : Nat → Nat → Int32) {q : (Nat → Nat → Int32) × (Nat → Nat → Int32)} (hm : M_X1_readSettings k S T = some q) : CV E l yX1_readSettings cX1_readSettings 4 none rm_X1_readSettings [.ref (a 0), .ref (b 0)] (wTk E a S ++ wFl E b T) (fun w' => w' = (wTk E a q.1 ++ wFl E b q.2)) :=
  CV.of 2 (by decide) (Nat.le_of_ble_eq_true rfl) (fun p e s m below meth c A C _ => r_weak (lSub_s (lSub_s (lSub_n (lSub_n lSub_e)))) (N_X1_readSettings_0 C a b k S T q  hm rfl))
theorem hd_X1_takeShard : yX1_takeShard.cls = RX1 ∧ yX1_takeShard.cls ≠ "java/lang/invoke/MethodHandle" ∧ yX1_takeShard.cls ≠ "java/lang/invoke/VarHandle" ∧ (parseMethodDescriptor yX1_takeShard.desc).map (fun d => d.parameters.length) = some 2 := by decide +kernel
theorem g_X1_101 : GoodIn GW (va_wsS RX1 101 yX1_takeShard (wsG yX1_takeShard cX1_takeShard 5 (some .int))) := gw_S wm_3_139 wm_3_140 wm_1_15 wm_3_141
theorem hd_X0_addTenant : yX0_addTenant.cls = RX0 ∧ yX0_addTenant.cls ≠ "java/lang/invoke/MethodHandle" ∧ yX0_addTenant.cls ≠ "java/lang/invoke/VarHandle" ∧ (parseMethodDescriptor yX0_addTenant.desc).map (fun d => d.parameters.length) = some 1 := by decide +kernel
theorem g_X1_105 : GoodIn GW (wsV RX1 105 RX0 yX0_addTenant (wsG yX0_addTenant cX0_addTenant 2 none)) := gw_V wm_3_146 wm_3_147 wm_3_148 wm_1_2 wm_3_149
-- ShardGuard$FleetText.readTenants(LShardGuard$Tokens;LShardGuard$Fleet;)V
set_option maxHeartbeats 8000000 in
theorem hp_X1_read_0 (E : ENV) (a : Nat → Nat) (b : Nat → Nat) (S : Nat → Nat → Int32) (T : Nat → Nat → Int32) : ([0, 1, 2, 3, 4, 5, 6, 7, 8, 9, 10, 11, 12, 13, 14, 15, 16, 17, 18, 19, 20] : List Nat).map (fun i => (wTk E a S ++ wFl E b T)[i]?) = (wTk E a S ++ wFl E b T).map some := (seg_map2 (seg_mapL ([] : va_W) (wTk E a S) (wFl E b T) rfl 3 rfl [0, 1, 2] rfl) (seg_mapE (wTk E a S) (wFl E b T) rfl 18 rfl [3, 4, 5, 6, 7, 8, 9, 10, 11, 12, 13, 14, 15, 16, 17, 18, 19, 20] rfl))
set_option maxHeartbeats 8000000 in
theorem pw_X1_readTenants_0 (E : ENV) (a : Nat → Nat) (b : Nat → Nat) (S : Nat → Nat → Int32) (T : Nat → Nat → Int32) (X0 : Nat → Nat → Int32) : putW (wTk E a S ++ wFl E b T) [0, 1, 2, 3, 4, 5, 6, 7, 8, 9, 10, 11, 12, 13, 14, 15, 16, 17, 18, 19, 20] (wTk E a X0 ++ wFl E b T) = some (wTk E a X0 ++ wFl E b T) := seg_put2 ([] : va_W) (wTk E a S) (wTk E a X0) (wFl E b T) rfl 3 rfl rfl [0, 1, 2] rfl (seg_putE ((wTk E a X0)) (wFl E b T) (wFl E b T) rfl rfl 18 rfl rfl [3, 4, 5, 6, 7, 8, 9, 10, 11, 12, 13, 14, 15, 16, 17, 18, 19, 20] rfl)
theorem dX1_readTenants_0 : decode cX1_readTenants 0 = .ok (.iconst 0, 1) := by decide +kernel
theorem dX1_readTenants_1 : decode cX1_readTenants 1 = .ok (.istore_n 2, 1) := by decide +kernel
theorem dX1_readTenants_2 : decode cX1_readTenants 2 = .ok (.iload_n 2, 1) := by decide +kernel
theorem dX1_readTenants_3 : decode cX1_readTenants 3 = .ok (.bipush 12, 2) := by decide +kernel
theorem dX1_readTenants_5 : decode cX1_readTenants 5 = .ok (.if_icmp .gt 51, 3) := by decide +kernel
theorem dX1_readTenants_8 : decode cX1_readTenants 8 = .ok (.aload_n 0, 1) := by decide +kernel
theorem dX1_readTenants_9 : decode cX1_readTenants 9 = .ok (.ldc 95, 2) := by decide +kernel
theorem dX1_readTenants_11 : decode cX1_readTenants 11 = .ok (.invokevirtual 83, 3) := by decide +kernel
theorem dX1_readTenants_14 : decode cX1_readTenants 14 = .ok (.ifCond .eq 42, 3) := by decide +kernel
theorem dX1_readTenants_17 : decode cX1_readTenants 17 = .ok (.iload_n 2, 1) := by decide +kernel
theorem dX1_readTenants_18 : decode cX1_readTenants 18 = .ok (.bipush 12, 2) := by decide +kernel
theorem dX1_readTenants_20 : decode cX1_readTenants 20 = .ok (.if_icmp .ne 11, 3) := by decide +kernel
theorem dX1_readTenants_23 : decode cX1_readTenants 23 = .ok (.aload_n 0, 1) := by decide +kernel
theorem dX1_readTenants_24 : decode cX1_readTenants 24 = .ok (.iconst 3, 1) := by decide +kernel
theorem dX1_readTenants_25 : decode cX1_readTenants 25 = .ok (.invokevirtual 97, 3) := by decide +kernel
theorem dX1_readTenants_28 : decode cX1_readTenants 28 = .ok (.goto 22, 3) := by decide +kernel
theorem dX1_readTenants_31 : decode cX1_readTenants 31 = .ok (.aload_n 0, 1) := by decide +kernel
theorem dX1_readTenants_32 : decode cX1_readTenants 32 = .ok (.invokevirtual 62, 3) := by decide +kernel
theorem dX1_readTenants_35 : decode cX1_readTenants 35 = .ok (.aload_n 1, 1) := by decide +kernel
theorem dX1_readTenants_36 : decode cX1_readTenants 36 = .ok (.aload_n 0, 1) := by decide +kernel
theorem dX1_readTenants_37 : decode cX1_readTenants 37 = .ok (.aload_n 1, 1) := by decide +kernel
theorem dX1_readTenants_38 : decode cX1_readTenants 38 = .ok (.invokestatic 101, 3) := by decide +kernel
theorem dX1_readTenants_41 : decode cX1_readTenants 41 = .ok (.invokevirtual 105, 3) := by decide +kernel
theorem dX1_readTenants_44 : decode cX1_readTenants 44 = .ok (.aload_n 0, 1) := by decide +kernel
theorem dX1_readTenants_45 : decode cX1_readTenants 45 = .ok (.ldc 46, 2) := by decide +kernel
theorem dX1_readTenants_47 : decode cX1_readTenants 47 = .ok (.invokevirtual 31, 3) := by decide +kernel
theorem dX1_readTenants_50 : decode cX1_readTenants 50 = .ok (.iinc 2 1, 3) := by decide +kernel
theorem dX1_readTenants_53 : decode cX1_readTenants 53 = .ok (.goto (-51), 3) := by decide +kernel
theorem dX1_readTenants_56 : decode cX1_readTenants 56 = .ok (.return_, 1) := by decide +kernel
def rm_X1_readTenants : Room := { frames := 8, cells := 0, slots := 0, locals := 193 }
def M_X1_readTenants_2 (k : Nat) : Nat → (Int32) → (Nat → Nat → Int32) → (Nat → Nat → Int32) → Option ((Nat → Nat → Int32) × (Nat → Nat → Int32))
  | 0, _, _, _ => none
  | n + 1, x2, S, T => if (12 : Int32) < x2 then (some (S, T)) else ((M_X7_is k S 9).bind fun q2 => if q2 = 0 then (some (S, T)) else (if x2 = (12 : Int32) then ((M_X7_fail k S (3 : Int32)).bind fun q9 => M_X1_readTenants_2 k n (x2 + 1) q9 T) else ((M_X7_advance k S).bind fun q5 => (M_X1_takeShard k q5 T).bind fun q6 => (M_X0_addTenant k T q6.1).bind fun q7 => (M_X7_take k q6.2 3).bind fun q8 => M_X1_readTenants_2 k n (x2 + 1) q8 q7)))
theorem M_X1_readTenants_2_s (k : Nat) (n : Nat) (x2 : Int32) (S : Nat → Nat → Int32) (T : Nat → Nat → Int32) : M_X1_readTenants_2 k (n + 1) x2 S T = (if (12 : Int32) < x2 then (some (S, T)) else ((M_X7_is k S 9).bind fun q2 => if q2 = 0 then (some (S, T)) else (if x2 = (12 : Int32) then ((M_X7_fail k S (3 : Int32)).bind fun q9 => M_X1_readTenants_2 k n (x2 + 1) q9 T) else ((M_X7_advance k S).bind fun q5 => (M_X1_takeShard k q5 T).bind fun q6 => (M_X0_addTenant k T q6.1).bind fun q7 => (M_X7_take k q6.2 3).bind fun q8 => M_X1_readTenants_2 k n (x2 + 1) q8 q7)))) := rfl
set_option maxRecDepth 100000 in
set_option maxHeartbeats 4000000 in
theorem N_X1_readTenants_2 (C : CX E p l s m args meth c cX1_readTenants 3 RX1 none A) (a : Nat → Nat) (b : Nat → Nat) (k : Nat) {post : va_W → Prop} :
    ∀ (n : Nat) (x2 : Int32) (S : Nat → Nat → Int32) (T : Nat → Nat → Int32) (q : (Nat → Nat → Int32) × (Nat → Nat → Int32)), M_X1_readTenants_2 k n x2 S T = some q → post (wTk E a q.1 ++ wFl E b q.2) →
      WW E p l e rm_X1_readTenants s m args below meth c A 0 0 (QV E below post args s rm_X1_readTenants A) (wTk E a S ++ wFl E b T) 3 [some (.ref (a 0)), some (.ref (b 0)), some (.int x2)] 2 [] := by
  intro n
  induction n with
  | zero => intro x2 S T q  h _; cases h
  | succ n ih =>
    intro x2 S T q  h hq
    rw [M_X1_readTenants_2_s] at h
    refine r_iload_n (pc := 2) C (i := 2) dX1_readTenants_2 rfl rfl ?_
    refine r_bipush (pc := 3) C (v := 12) dX1_readTenants_3 (by decide) ?_
    refine r_icmp_gt (pc := 5) C (tgt := 56) dX1_readTenants_5 rfl (fun c1 => ?_) (fun c1 => ?_)
    · rw [if_pos c1] at h
      cases h
      exact r_vret (pc := 56) C hq (Nat.zero_le _) (Nat.zero_le _) dX1_readTenants_56
    · rw [if_neg c1] at h
      refine r_aload_n (pc := 8) C (i := 0) dX1_readTenants_8 rfl rfl ?_
      refine r_ldcS (pc := 9) C 9 rfl dX1_readTenants_9 ?_
      obtain ⟨q2, hq2, h⟩ := bnd h
      refine r_callVp_CI (Cn := RX7) (pc := 11) C [.ref (eS E 9)] (c_X7_is E l k a S 9 (by decide) hq2) [0, 1, 2] (hp_X1_readWorkers_0 E a b S T) (by decide) 0 rfl rfl rfl g_X1_83 hd_X7_is ⟨Nat.le_of_ble_eq_true rfl, Nat.le_of_ble_eq_true rfl⟩ ⟨Nat.zero_le _, Nat.zero_le _⟩ (Nat.le_of_ble_eq_true rfl) rfl dX1_readTenants_11 (fun r hr => ?_)
      have hr := hr.symm
      subst hr
      refine r_if_eq (pc := 14) C (tgt := 56) dX1_readTenants_14 rfl (fun c3 => ?_) (fun c3 => ?_)
      · rw [if_pos c3] at h
        cases h
        exact r_vret (pc := 56) C hq (Nat.zero_le _) (Nat.zero_le _) dX1_readTenants_56
      · rw [if_neg c3] at h
        refine r_iload_n (pc := 17) C (i := 2) dX1_readTenants_17 rfl rfl ?_
        refine r_bipush (pc := 18) C (v := 12) dX1_readTenants_18 (by decide) ?_
        refine r_icmp_ne (pc := 20) C (tgt := 31) dX1_readTenants_20 rfl (fun c4 => ?_) (fun c4 => ?_)
        · rw [if_neg c4] at h
          refine r_aload_n (pc := 31) C (i := 0) dX1_readTenants_31 rfl rfl ?_
          obtain ⟨q5, hq5, h⟩ := bnd h
          refine r_callV_CV (Cn := RX7) (pc := 32) C [] (c_X7_advance E l k a S hq5) [0, 1, 2] (hp_X1_readWorkers_0 E a b S T) (by decide) 0 rfl rfl rfl g_X1_62 hd_X7_advance ⟨Nat.le_of_ble_eq_true rfl, Nat.le_of_ble_eq_true rfl⟩ ⟨Nat.zero_le _, Nat.zero_le _⟩ (Nat.le_of_ble_eq_true rfl) rfl dX1_readTenants_32 (fun w1 hw1 => ?_)
          subst hw1
          refine ⟨(wTk E a q5 ++ wFl E b T), by exact (pw_X1_readWorkers_0 E a b S T q5), ?_⟩
          refine r_aload_n (pc := 35) C (i := 1) dX1_readTenants_35 rfl rfl ?_
          refine r_aload_n (pc := 36) C (i := 0) dX1_readTenants_36 rfl rfl ?_
          refine r_aload_n (pc := 37) C (i := 1) dX1_readTenants_37 rfl rfl ?_
          obtain ⟨q6, hq6, h⟩ := bnd h
          refine r_callS_CI (pc := 38) C [.ref (a 0), .ref (b 0)] (c_X1_takeShard E l k a b q5 T hq6) [0, 1, 2, 3, 4, 5, 6, 7, 8, 9, 10, 11, 12, 13, 14, 15, 16, 17, 18, 19, 20] (hp_X1_read_0 E a b q5 T) (by decide) g_X1_101 hd_X1_takeShard.2 ⟨Nat.le_of_ble_eq_true rfl, Nat.le_of_ble_eq_true rfl⟩ ⟨Nat.zero_le _, Nat.zero_le _⟩ (Nat.le_of_ble_eq_true rfl) rfl dX1_readTenants_38 (fun r w1 hw1 => ?_)
          obtain ⟨hr1, hw1⟩ := hw1
          subst hr1 hw1
          refine ⟨(wTk E a q6.2 ++ wFl E b T), by exact (pw_X1_readTenants_0 E a b q5 T q6.2), ?_⟩
          obtain ⟨q7, hq7, h⟩ := bnd h
          refine r_callV_CV (Cn := RX0) (pc := 41) C [.int q6.1] (c_X0_addTenant E l k b T q6.1 hq7) [3, 4, 5, 6, 7, 8, 9, 10, 11, 12, 13, 14, 15, 16, 17, 18, 19, 20] (hp_X1_readWorkers_1 E a b q6.2 T) (by decide) 0 rfl rfl rfl g_X1_105 hd_X0_addTenant ⟨Nat.le_of_ble_eq_true rfl, Nat.le_of_ble_eq_true rfl⟩ ⟨Nat.zero_le _, Nat.zero_le _⟩ (Nat.le_of_ble_eq_true rfl) rfl dX1_readTenants_41 (fun w1 hw1 => ?_)
          subst hw1
          refine ⟨(wTk E a q6.2 ++ wFl E b q7), by exact (pw_X1_readWorkers_1 E a b q6.2 T q7), ?_⟩
          refine r_aload_n (pc := 44) C (i := 0) dX1_readTenants_44 rfl rfl ?_
          refine r_ldcS (pc := 45) C 3 rfl dX1_readTenants_45 ?_
          obtain ⟨q8, hq8, h⟩ := bnd h
          refine r_callV_CV (Cn := RX7) (pc := 47) C [.ref (eS E 3)] (c_X7_take E l k a q6.2 3 (by decide) hq8) [0, 1, 2] (hp_X1_readWorkers_0 E a b q6.2 q7) (by decide) 0 rfl rfl rfl g_X1_31 hd_X7_take ⟨Nat.le_of_ble_eq_true rfl, Nat.le_of_ble_eq_true rfl⟩ ⟨Nat.zero_le _, Nat.zero_le _⟩ (Nat.le_of_ble_eq_true rfl) rfl dX1_readTenants_47 (fun w1 hw1 => ?_)
          subst hw1
          refine ⟨(wTk E a q8 ++ wFl E b q7), by exact (pw_X1_readWorkers_0 E a b q6.2 q7 q8), ?_⟩
          refine r_iinc (pc := 50) C (v := (x2 + 1)) dX1_readTenants_50 rfl rfl (by decide) rfl ?_
          refine r_goto (pc := 53) C (tgt := 2) dX1_readTenants_53 rfl ?_
          refine r_weak (lSub_s (lSub_s (lSub_s lSub_e))) ?_
          exact ih (x2 + 1) q8 q7 q  h hq
        · rw [if_pos c4] at h
          refine r_aload_n (pc := 23) C (i := 0) dX1_readTenants_23 rfl rfl ?_
          refine r_iconst (pc := 24) C (v := 3) dX1_readTenants_24 (by decide) ?_
          obtain ⟨q9, hq9, h⟩ := bnd h
          refine r_callV_CV (Cn := RX7) (pc := 25) C [.int (3 : Int32)] (c_X7_fail E l k a S (3 : Int32) hq9) [0, 1, 2] (hp_X1_readWorkers_0 E a b S T) (by decide) 0 rfl rfl rfl g_X1_97 hd_X7_fail ⟨Nat.le_of_ble_eq_true rfl, Nat.le_of_ble_eq_true rfl⟩ ⟨Nat.zero_le _, Nat.zero_le _⟩ (Nat.le_of_ble_eq_true rfl) rfl dX1_readTenants_25 (fun w1 hw1 => ?_)
          subst hw1
          refine ⟨(wTk E a q9 ++ wFl E b T), by exact (pw_X1_readWorkers_0 E a b S T q9), ?_⟩
          refine r_goto (pc := 28) C (tgt := 50) dX1_readTenants_28 rfl ?_
          refine r_iinc (pc := 50) C (v := (x2 + 1)) dX1_readTenants_50 rfl rfl (by decide) rfl ?_
          refine r_goto (pc := 53) C (tgt := 2) dX1_readTenants_53 rfl ?_
          refine r_weak (lSub_s (lSub_s (lSub_s lSub_e))) ?_
          exact ih (x2 + 1) q9 T q  h hq
def M_X1_readTenants_0 (k : Nat) (S : Nat → Nat → Int32) (T : Nat → Nat → Int32) : Option ((Nat → Nat → Int32) × (Nat → Nat → Int32)) := M_X1_readTenants_2 k k (0 : Int32) S T
set_option maxRecDepth 100000 in
set_option maxHeartbeats 4000000 in
theorem N_X1_readTenants_0 (C : CX E p l s m args meth c cX1_readTenants 3 RX1 none A) (a : Nat → Nat) (b : Nat → Nat) (k : Nat) {post : va_W → Prop} :
    ∀ (S : Nat → Nat → Int32) (T : Nat → Nat → Int32) (q : (Nat → Nat → Int32) × (Nat → Nat → Int32)), M_X1_readTenants_0 k S T = some q → post (wTk E a q.1 ++ wFl E b q.2) →
      WW E p l e rm_X1_readTenants s m args below meth c A 0 0 (QV E below post args s rm_X1_readTenants A) (wTk E a S ++ wFl E b T) 3 [some (.ref (a 0)), some (.ref (b 0)), none] 0 [] := by
  intro S T q  h hq
  unfold M_X1_readTenants_0 at h
  refine r_iconst (pc := 0) C (v := 0) dX1_readTenants_0 (by decide) ?_
  refine r_istore_n (pc := 1) C (i := 2) dX1_readTenants_1 rfl (by decide) rfl ?_
  refine r_weak (lSub_s (lSub_s (lSub_s lSub_e))) ?_
  exact N_X1_readTenants_2 C a b k k (0 : Int32) S T q  h hq
def M_X1_readTenants (k : Nat) (S : Nat → Nat → Int32) (T : Nat → Nat → Int32) : Option ((Nat → Nat → Int32) × (Nat → Nat → Int32)) := M_X1_readTenants_0 k S T
set_option maxRecDepth 100000 in
set_option maxHeartbeats 4000000 in
theorem c_X1_readTenants (E : ENV) (l : Launch) (k : Nat) (a : Nat → Nat) (b : Nat → Nat) (S : Nat → Nat → Int32) (T : Nat → Nat → Int32) {q : (Nat → Nat → Int32) × (Nat → Nat → Int32)} (hm : M_X1_readTenants k S T = some q) : CV E l yX1_readTenants cX1_readTenants 3 none rm_X1_readTenants [.ref (a 0), .ref (b 0)] (wTk E a S ++ wFl E b T) (fun w' => w' = (wTk E a q.1 ++ wFl E b q.2)) :=
  CV.of 1 (by decide) (Nat.le_of_ble_eq_true rfl) (fun p e s m below meth c A C _ => r_weak (lSub_s (lSub_s (lSub_n lSub_e))) (N_X1_readTenants_0 C a b k S T q  hm rfl))
theorem hd_X1_readWorkers : yX1_readWorkers.cls = RX1 ∧ yX1_readWorkers.cls ≠ "java/lang/invoke/MethodHandle" ∧ yX1_readWorkers.cls ≠ "java/lang/invoke/VarHandle" ∧ (parseMethodDescriptor yX1_readWorkers.desc).map (fun d => d.parameters.length) = some 2 := by decide +kernel
theorem g_X1_9 : GoodIn GW (va_wsS RX1 9 yX1_readWorkers (wsG yX1_readWorkers cX1_readWorkers 4 none)) := gw_S wm_3_33 wm_3_34 wm_1_15 wm_3_35
theorem hd_X1_readSettings : yX1_readSettings.cls = RX1 ∧ yX1_readSettings.cls ≠ "java/lang/invoke/MethodHandle" ∧ yX1_readSettings.cls ≠ "java/lang/invoke/VarHandle" ∧ (parseMethodDescriptor yX1_readSettings.desc).map (fun d => d.parameters.length) = some 2 := by decide +kernel
theorem g_X1_15 : GoodIn GW (va_wsS RX1 15 yX1_readSettings (wsG yX1_readSettings cX1_readSettings 4 none)) := gw_S wm_3_110 wm_3_111 wm_1_15 wm_3_112
theorem hd_X1_readTenants : yX1_readTenants.cls = RX1 ∧ yX1_readTenants.cls ≠ "java/lang/invoke/MethodHandle" ∧ yX1_readTenants.cls ≠ "java/lang/invoke/VarHandle" ∧ (parseMethodDescriptor yX1_readTenants.desc).map (fun d => d.parameters.length) = some 2 := by decide +kernel
theorem g_X1_18 : GoodIn GW (va_wsS RX1 18 yX1_readTenants (wsG yX1_readTenants cX1_readTenants 3 none)) := gw_S wm_3_134 wm_3_135 wm_1_15 wm_3_136
theorem hd_X1_readRequests : yX1_readRequests.cls = RX1 ∧ yX1_readRequests.cls ≠ "java/lang/invoke/MethodHandle" ∧ yX1_readRequests.cls ≠ "java/lang/invoke/VarHandle" ∧ (parseMethodDescriptor yX1_readRequests.desc).map (fun d => d.parameters.length) = some 2 := by decide +kernel
theorem g_X1_21 : GoodIn GW (va_wsS RX1 21 yX1_readRequests (wsG yX1_readRequests cX1_readRequests 6 none)) := gw_S wm_3_150 wm_3_151 wm_1_15 wm_3_152
theorem hd_X7_takeEnd : yX7_takeEnd.cls = RX7 ∧ yX7_takeEnd.cls ≠ "java/lang/invoke/MethodHandle" ∧ yX7_takeEnd.cls ≠ "java/lang/invoke/VarHandle" ∧ (parseMethodDescriptor yX7_takeEnd.desc).map (fun d => d.parameters.length) = some 0 := by decide +kernel
theorem g_X1_24 : GoodIn GW (wsV RX1 24 RX7 yX7_takeEnd (wsG yX7_takeEnd cX7_takeEnd 1 none)) := gw_V wm_3_180 wm_3_181 wm_3_182 wm_1_7 wm_3_183
-- ShardGuard$FleetText.read(LShardGuard$Tokens;LShardGuard$Fleet;)V
set_option maxHeartbeats 8000000 in
theorem pw_X1_read_0 (E : ENV) (a : Nat → Nat) (b : Nat → Nat) (S : Nat → Nat → Int32) (T : Nat → Nat → Int32) (X0 : Nat → Nat → Int32) (X1 : Nat → Nat → Int32) : putW (wTk E a S ++ wFl E b T) [0, 1, 2, 3, 4, 5, 6, 7, 8, 9, 10, 11, 12, 13, 14, 15, 16, 17, 18, 19, 20] (wTk E a X0 ++ wFl E b X1) = some (wTk E a X0 ++ wFl E b X1) := seg_put2 ([] : va_W) (wTk E a S) (wTk E a X0) (wFl E b T) rfl 3 rfl rfl [0, 1, 2] rfl (seg_putE ((wTk E a X0)) (wFl E b T) (wFl E b X1) rfl rfl 18 rfl rfl [3, 4, 5, 6, 7, 8, 9, 10, 11, 12, 13, 14, 15, 16, 17, 18, 19, 20] rfl)
theorem dX1_read_0 : decode cX1_read 0 = .ok (.aload_n 0, 1) := by decide +kernel
theorem dX1_read_1 : decode cX1_read 1 = .ok (.aload_n 1, 1) := by decide +kernel
theorem dX1_read_2 : decode cX1_read 2 = .ok (.invokestatic 9, 3) := by decide +kernel
theorem dX1_read_5 : decode cX1_read 5 = .ok (.aload_n 0, 1) := by decide +kernel
theorem dX1_read_6 : decode cX1_read 6 = .ok (.aload_n 1, 1) := by decide +kernel
theorem dX1_read_7 : decode cX1_read 7 = .ok (.invokestatic 15, 3) := by decide +kernel
theorem dX1_read_10 : decode cX1_read 10 = .ok (.aload_n 0, 1) := by decide +kernel
theorem dX1_read_11 : decode cX1_read 11 = .ok (.aload_n 1, 1) := by decide +kernel
theorem dX1_read_12 : decode cX1_read 12 = .ok (.invokestatic 18, 3) := by decide +kernel
theorem dX1_read_15 : decode cX1_read 15 = .ok (.aload_n 0, 1) := by decide +kernel
theorem dX1_read_16 : decode cX1_read 16 = .ok (.aload_n 1, 1) := by decide +kernel
theorem dX1_read_17 : decode cX1_read 17 = .ok (.invokestatic 21, 3) := by decide +kernel
theorem dX1_read_20 : decode cX1_read 20 = .ok (.aload_n 0, 1) := by decide +kernel
theorem dX1_read_21 : decode cX1_read 21 = .ok (.invokevirtual 24, 3) := by decide +kernel
theorem dX1_read_24 : decode cX1_read 24 = .ok (.return_, 1) := by decide +kernel
def rm_X1_read : Room := { frames := 9, cells := 0, slots := 0, locals := 218 }
def M_X1_read_0 (k : Nat) (S : Nat → Nat → Int32) (T : Nat → Nat → Int32) : Option ((Nat → Nat → Int32) × (Nat → Nat → Int32)) := (M_X1_readWorkers k S T).bind fun q1 => (M_X1_readSettings k q1.1 q1.2).bind fun q2 => (M_X1_readTenants k q2.1 q2.2).bind fun q3 => (M_X1_readRequests k q3.1 q3.2).bind fun q4 => (M_X7_takeEnd k q4.1).bind fun q5 => some (q5, q4.2)
set_option maxRecDepth 100000 in
set_option maxHeartbeats 4000000 in
theorem N_X1_read_0 (C : CX E p l s m args meth c cX1_read 2 RX1 none A) (a : Nat → Nat) (b : Nat → Nat) (k : Nat) {post : va_W → Prop} :
    ∀ (S : Nat → Nat → Int32) (T : Nat → Nat → Int32) (q : (Nat → Nat → Int32) × (Nat → Nat → Int32)), M_X1_read_0 k S T = some q → post (wTk E a q.1 ++ wFl E b q.2) →
      WW E p l e rm_X1_read s m args below meth c A 0 0 (QV E below post args s rm_X1_read A) (wTk E a S ++ wFl E b T) 2 [some (.ref (a 0)), some (.ref (b 0))] 0 [] := by
  intro S T q  h hq
  unfold M_X1_read_0 at h
  refine r_aload_n (pc := 0) C (i := 0) dX1_read_0 rfl rfl ?_
  refine r_aload_n (pc := 1) C (i := 1) dX1_read_1 rfl rfl ?_
  obtain ⟨q1, hq1, h⟩ := bnd h
  refine r_callS_CV (pc := 2) C [.ref (a 0), .ref (b 0)] (c_X1_readWorkers E l k a b S T hq1) [0, 1, 2, 3, 4, 5, 6, 7, 8, 9, 10, 11, 12, 13, 14, 15, 16, 17, 18, 19, 20] (hp_X1_read_0 E a b S T) (by decide) g_X1_9 hd_X1_readWorkers.2 ⟨Nat.le_of_ble_eq_true rfl, Nat.le_of_ble_eq_true rfl⟩ ⟨Nat.zero_le _, Nat.zero_le _⟩ (Nat.le_of_ble_eq_true rfl) rfl dX1_read_2 (fun w1 hw1 => ?_)
  subst hw1
  refine ⟨(wTk E a q1.1 ++ wFl E b q1.2), by exact (pw_X1_read_0 E a b S T q1.1 q1.2), ?_⟩
  refine r_aload_n (pc := 5) C (i := 0) dX1_read_5 rfl rfl ?_
  refine r_aload_n (pc := 6) C (i := 1) dX1_read_6 rfl rfl ?_
  obtain ⟨q2, hq2, h⟩ := bnd h
  refine r_callS_CV (pc := 7) C [.ref (a 0), .ref (b 0)] (c_X1_readSettings E l k a b q1.1 q1.2 hq2) [0, 1, 2, 3, 4, 5, 6, 7, 8, 9, 10, 11, 12, 13, 14, 15, 16, 17, 18, 19, 20] (hp_X1_read_0 E a b q1.1 q1.2) (by decide) g_X1_15 hd_X1_readSettings.2 ⟨Nat.le_of_ble_eq_true rfl, Nat.le_of_ble_eq_true rfl⟩ ⟨Nat.zero_le _, Nat.zero_le _⟩ (Nat.le_of_ble_eq_true rfl) rfl dX1_read_7 (fun w1 hw1 => ?_)
  subst hw1
  refine ⟨(wTk E a q2.1 ++ wFl E b q2.2), by exact (pw_X1_read_0 E a b q1.1 q1.2 q2.1 q2.2), ?_⟩
  refine r_aload_n (pc := 10) C (i := 0) dX1_read_10 rfl rfl ?_
  refine r_aload_n (pc := 11) C (i := 1) dX1_read_11 rfl rfl ?_
  obtain ⟨q3, hq3, h⟩ := bnd h
  refine r_callS_CV (pc := 12) C [.ref (a 0), .ref (b 0)] (c_X1_readTenants E l k a b q2.1 q2.2 hq3) [0, 1, 2, 3, 4, 5, 6, 7, 8, 9, 10, 11, 12, 13, 14, 15, 16, 17, 18, 19, 20] (hp_X1_read_0 E a b q2.1 q2.2) (by decide) g_X1_18 hd_X1_readTenants.2 ⟨Nat.le_of_ble_eq_true rfl, Nat.le_of_ble_eq_true rfl⟩ ⟨Nat.zero_le _, Nat.zero_le _⟩ (Nat.le_of_ble_eq_true rfl) rfl dX1_read_12 (fun w1 hw1 => ?_)
  subst hw1
  refine ⟨(wTk E a q3.1 ++ wFl E b q3.2), by exact (pw_X1_read_0 E a b q2.1 q2.2 q3.1 q3.2), ?_⟩
  refine r_aload_n (pc := 15) C (i := 0) dX1_read_15 rfl rfl ?_
  refine r_aload_n (pc := 16) C (i := 1) dX1_read_16 rfl rfl ?_
  obtain ⟨q4, hq4, h⟩ := bnd h
  refine r_callS_CV (pc := 17) C [.ref (a 0), .ref (b 0)] (c_X1_readRequests E l k a b q3.1 q3.2 hq4) [0, 1, 2, 3, 4, 5, 6, 7, 8, 9, 10, 11, 12, 13, 14, 15, 16, 17, 18, 19, 20] (hp_X1_read_0 E a b q3.1 q3.2) (by decide) g_X1_21 hd_X1_readRequests.2 ⟨Nat.le_of_ble_eq_true rfl, Nat.le_of_ble_eq_true rfl⟩ ⟨Nat.zero_le _, Nat.zero_le _⟩ (Nat.le_of_ble_eq_true rfl) rfl dX1_read_17 (fun w1 hw1 => ?_)
  subst hw1
  refine ⟨(wTk E a q4.1 ++ wFl E b q4.2), by exact (pw_X1_read_0 E a b q3.1 q3.2 q4.1 q4.2), ?_⟩
  refine r_aload_n (pc := 20) C (i := 0) dX1_read_20 rfl rfl ?_
  obtain ⟨q5, hq5, h⟩ := bnd h
  refine r_callV_CV (Cn := RX7) (pc := 21) C [] (c_X7_takeEnd E l k a q4.1 hq5) [0, 1, 2] (hp_X1_readWorkers_0 E a b q4.1 q4.2) (by decide) 0 rfl rfl rfl g_X1_24 hd_X7_takeEnd ⟨Nat.le_of_ble_eq_true rfl, Nat.le_of_ble_eq_true rfl⟩ ⟨Nat.zero_le _, Nat.zero_le _⟩ (Nat.le_of_ble_eq_true rfl) rfl dX1_read_21 (fun w1 hw1 => ?_)
  subst hw1
  refine ⟨(wTk E a q5 ++ wFl E b q4.2), by exact (pw_X1_readWorkers_0 E a b q4.1 q4.2 q5), ?_⟩
  cases h
  exact r_vret (pc := 24) C hq (Nat.zero_le _) (Nat.zero_le _) dX1_read_24
def M_X1_read (k : Nat) (S : Nat → Nat → Int32) (T : Nat → Nat → Int32) : Option ((Nat → Nat → Int32) × (Nat → Nat → Int32)) := M_X1_read_0 k S T
set_option maxRecDepth 100000 in
set_option maxHeartbeats 4000000 in
theorem c_X1_read (E : ENV) (l : Launch) (k : Nat) (a : Nat → Nat) (b : Nat → Nat) (S : Nat → Nat → Int32) (T : Nat → Nat → Int32) {q : (Nat → Nat → Int32) × (Nat → Nat → Int32)} (hm : M_X1_read k S T = some q) : CV E l yX1_read cX1_read 2 none rm_X1_read [.ref (a 0), .ref (b 0)] (wTk E a S ++ wFl E b T) (fun w' => w' = (wTk E a q.1 ++ wFl E b q.2)) :=
  CV.of 0 (by decide) (Nat.le_of_ble_eq_true rfl) (fun p e s m below meth c A C _ => r_weak (lSub_s (lSub_s lSub_e)) (N_X1_read_0 C a b k S T q  hm rfl))
end WALKS
