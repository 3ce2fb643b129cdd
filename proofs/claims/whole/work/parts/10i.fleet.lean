section WALKS
variable {E : ENV} {p : Program} {l : Launch} {e : Env} {s : State} {m : MethodId} {args : Array Value} {below : List Frame} {meth : Method} {c : Code} {A : Nat → Prop}
theorem hd_X0_endQuarantines : yX0_endQuarantines.cls = RX0 ∧ yX0_endQuarantines.cls ≠ "java/lang/invoke/MethodHandle" ∧ yX0_endQuarantines.cls ≠ "java/lang/invoke/VarHandle" ∧ (parseMethodDescriptor yX0_endQuarantines.desc).map (fun d => d.parameters.length) = some 0 := by decide +kernel
theorem g_X0_150 : GoodIn GW (wsV RX0 150 RX0 yX0_endQuarantines (wsG yX0_endQuarantines cX0_endQuarantines 2 none)) := gw_V wm_4_208 wm_4_210 wm_0_16 wm_1_2 wm_4_211
theorem hd_X0_beginQuarantines : yX0_beginQuarantines.cls = RX0 ∧ yX0_beginQuarantines.cls ≠ "java/lang/invoke/MethodHandle" ∧ yX0_beginQuarantines.cls ≠ "java/lang/invoke/VarHandle" ∧ (parseMethodDescriptor yX0_beginQuarantines.desc).map (fun d => d.parameters.length) = some 0 := by decide +kernel
theorem g_X0_153 : GoodIn GW (wsV RX0 153 RX0 yX0_beginQuarantines (wsG yX0_beginQuarantines cX0_beginQuarantines 2 none)) := gw_V wm_4_212 wm_4_214 wm_0_17 wm_1_2 wm_4_215
theorem hd_X0_waitingAt : yX0_waitingAt.cls = RX0 ∧ yX0_waitingAt.cls ≠ "java/lang/invoke/MethodHandle" ∧ yX0_waitingAt.cls ≠ "java/lang/invoke/VarHandle" ∧ (parseMethodDescriptor yX0_waitingAt.desc).map (fun d => d.parameters.length) = some 2 := by decide +kernel
theorem g_X0_141 : GoodIn GW (wsV RX0 141 RX0 yX0_waitingAt (wsG yX0_waitingAt cX0_waitingAt 6 (some .int))) := gw_V wm_4_195 wm_4_78 wm_4_79 wm_1_2 wm_4_80
theorem hd_X0_retryKiller : yX0_retryKiller.cls = RX0 ∧ yX0_retryKiller.cls ≠ "java/lang/invoke/MethodHandle" ∧ yX0_retryKiller.cls ≠ "java/lang/invoke/VarHandle" ∧ (parseMethodDescriptor yX0_retryKiller.desc).map (fun d => d.parameters.length) = some 1 := by decide +kernel
theorem g_X0_144 : GoodIn GW (wsV RX0 144 RX0 yX0_retryKiller (wsG yX0_retryKiller cX0_retryKiller 2 none)) := gw_V wm_4_196 wm_4_198 wm_0_14 wm_1_2 wm_4_199
theorem hd_X0_routeQueue : yX0_routeQueue.cls = RX0 ∧ yX0_routeQueue.cls ≠ "java/lang/invoke/MethodHandle" ∧ yX0_routeQueue.cls ≠ "java/lang/invoke/VarHandle" ∧ (parseMethodDescriptor yX0_routeQueue.desc).map (fun d => d.parameters.length) = some 1 := by decide +kernel
theorem g_X0_147 : GoodIn GW (wsV RX0 147 RX0 yX0_routeQueue (wsG yX0_routeQueue cX0_routeQueue 5 none)) := gw_V wm_4_204 wm_4_205 wm_4_206 wm_1_2 wm_4_207
theorem hd_X0_startWorkers : yX0_startWorkers.cls = RX0 ∧ yX0_startWorkers.cls ≠ "java/lang/invoke/MethodHandle" ∧ yX0_startWorkers.cls ≠ "java/lang/invoke/VarHandle" ∧ (parseMethodDescriptor yX0_startWorkers.desc).map (fun d => d.parameters.length) = some 0 := by decide +kernel
theorem g_X0_132 : GoodIn GW (wsV RX0 132 RX0 yX0_startWorkers (wsG yX0_startWorkers cX0_startWorkers 2 none)) := gw_V wm_4_154 wm_4_156 wm_0_9 wm_1_2 wm_4_157
theorem hd_X0_routeParked : yX0_routeParked.cls = RX0 ∧ yX0_routeParked.cls ≠ "java/lang/invoke/MethodHandle" ∧ yX0_routeParked.cls ≠ "java/lang/invoke/VarHandle" ∧ (parseMethodDescriptor yX0_routeParked.desc).map (fun d => d.parameters.length) = some 0 := by decide +kernel
theorem g_X0_135 : GoodIn GW (wsV RX0 135 RX0 yX0_routeParked (wsG yX0_routeParked cX0_routeParked 4 none)) := gw_V wm_4_159 wm_4_161 wm_0_10 wm_1_2 wm_4_162
theorem hd_X0_work : yX0_work.cls = RX0 ∧ yX0_work.cls ≠ "java/lang/invoke/MethodHandle" ∧ yX0_work.cls ≠ "java/lang/invoke/VarHandle" ∧ (parseMethodDescriptor yX0_work.desc).map (fun d => d.parameters.length) = some 0 := by decide +kernel
theorem g_X0_138 : GoodIn GW (wsV RX0 138 RX0 yX0_work (wsG yX0_work cX0_work 8 (some .int))) := gw_V wm_4_171 wm_4_173 wm_0_12 wm_1_2 wm_4_174
-- ShardGuard$Fleet.tick()V
theorem dX0_tick_0 : decode cX0_tick 0 = .ok (.aload_n 0, 1) := by decide +kernel
theorem dX0_tick_1 : decode cX0_tick 1 = .ok (.dup, 1) := by decide +kernel
theorem dX0_tick_2 : decode cX0_tick 2 = .ok (.getfield 55, 3) := by decide +kernel
theorem dX0_tick_5 : decode cX0_tick 5 = .ok (.iconst 1, 1) := by decide +kernel
theorem dX0_tick_6 : decode cX0_tick 6 = .ok (.iadd, 1) := by decide +kernel
theorem dX0_tick_7 : decode cX0_tick 7 = .ok (.putfield 55, 3) := by decide +kernel
theorem dX0_tick_10 : decode cX0_tick 10 = .ok (.aload_n 0, 1) := by decide +kernel
theorem dX0_tick_11 : decode cX0_tick 11 = .ok (.invokevirtual 132, 3) := by decide +kernel
theorem dX0_tick_14 : decode cX0_tick 14 = .ok (.aload_n 0, 1) := by decide +kernel
theorem dX0_tick_15 : decode cX0_tick 15 = .ok (.invokevirtual 135, 3) := by decide +kernel
theorem dX0_tick_18 : decode cX0_tick 18 = .ok (.aload_n 0, 1) := by decide +kernel
theorem dX0_tick_19 : decode cX0_tick 19 = .ok (.invokevirtual 138, 3) := by decide +kernel
theorem dX0_tick_22 : decode cX0_tick 22 = .ok (.istore_n 1, 1) := by decide +kernel
theorem dX0_tick_23 : decode cX0_tick 23 = .ok (.iconst 0, 1) := by decide +kernel
theorem dX0_tick_24 : decode cX0_tick 24 = .ok (.istore_n 2, 1) := by decide +kernel
theorem dX0_tick_25 : decode cX0_tick 25 = .ok (.iload_n 2, 1) := by decide +kernel
theorem dX0_tick_26 : decode cX0_tick 26 = .ok (.aload_n 0, 1) := by decide +kernel
theorem dX0_tick_27 : decode cX0_tick 27 = .ok (.getfield 45, 3) := by decide +kernel
theorem dX0_tick_30 : decode cX0_tick 30 = .ok (.if_icmp .ge 32, 3) := by decide +kernel
theorem dX0_tick_33 : decode cX0_tick 33 = .ok (.iload_n 1, 1) := by decide +kernel
theorem dX0_tick_34 : decode cX0_tick 34 = .ok (.iload_n 2, 1) := by decide +kernel
theorem dX0_tick_35 : decode cX0_tick 35 = .ok (.invokestatic 107, 3) := by decide +kernel
theorem dX0_tick_38 : decode cX0_tick 38 = .ok (.ifCond .eq 18, 3) := by decide +kernel
theorem dX0_tick_41 : decode cX0_tick 41 = .ok (.aload_n 0, 1) := by decide +kernel
theorem dX0_tick_42 : decode cX0_tick 42 = .ok (.aload_n 0, 1) := by decide +kernel
theorem dX0_tick_43 : decode cX0_tick 43 = .ok (.iload_n 2, 1) := by decide +kernel
theorem dX0_tick_44 : decode cX0_tick 44 = .ok (.iconst 0, 1) := by decide +kernel
theorem dX0_tick_45 : decode cX0_tick 45 = .ok (.invokevirtual 141, 3) := by decide +kernel
theorem dX0_tick_48 : decode cX0_tick 48 = .ok (.invokevirtual 144, 3) := by decide +kernel
theorem dX0_tick_51 : decode cX0_tick 51 = .ok (.aload_n 0, 1) := by decide +kernel
theorem dX0_tick_52 : decode cX0_tick 52 = .ok (.iload_n 2, 1) := by decide +kernel
theorem dX0_tick_53 : decode cX0_tick 53 = .ok (.invokevirtual 147, 3) := by decide +kernel
theorem dX0_tick_56 : decode cX0_tick 56 = .ok (.iinc 2 1, 3) := by decide +kernel
theorem dX0_tick_59 : decode cX0_tick 59 = .ok (.goto (-34), 3) := by decide +kernel
theorem dX0_tick_62 : decode cX0_tick 62 = .ok (.aload_n 0, 1) := by decide +kernel
theorem dX0_tick_63 : decode cX0_tick 63 = .ok (.invokevirtual 150, 3) := by decide +kernel
theorem dX0_tick_66 : decode cX0_tick 66 = .ok (.aload_n 0, 1) := by decide +kernel
theorem dX0_tick_67 : decode cX0_tick 67 = .ok (.invokevirtual 153, 3) := by decide +kernel
theorem dX0_tick_70 : decode cX0_tick 70 = .ok (.return_, 1) := by decide +kernel
def rm_X0_tick : Room := { frames := 5, cells := 0, slots := 0, locals := 167 }
def M_X0_tick_25 (k : Nat) : Nat → (Int32) → (Int32) → (Nat → Nat → Int32) → Option ((Nat → Nat → Int32))
  | 0, _, _, _ => none
  | n + 1, x1, x2, S => if (S 0 0) ≤ x2 then ((M_X0_endQuarantines k S).bind fun q2 => (M_X0_beginQuarantines k q2).bind fun q3 => some q3) else ((M_X0_has k x1 x2).bind fun q4 => if q4 = 0 then (M_X0_tick_25 k n x1 (x2 + 1) S) else ((M_X0_waitingAt k S x2 (0 : Int32)).bind fun q6 => (M_X0_retryKiller k S q6).bind fun q7 => (M_X0_routeQueue k q7 x2).bind fun q8 => M_X0_tick_25 k n x1 (x2 + 1) q8))
theorem M_X0_tick_25_s (k : Nat) (n : Nat) (x1 : Int32) (x2 : Int32) (S : Nat → Nat → Int32) : M_X0_tick_25 k (n + 1) x1 x2 S = (if (S 0 0) ≤ x2 then ((M_X0_endQuarantines k S).bind fun q2 => (M_X0_beginQuarantines k q2).bind fun q3 => some q3) else ((M_X0_has k x1 x2).bind fun q4 => if q4 = 0 then (M_X0_tick_25 k n x1 (x2 + 1) S) else ((M_X0_waitingAt k S x2 (0 : Int32)).bind fun q6 => (M_X0_retryKiller k S q6).bind fun q7 => (M_X0_routeQueue k q7 x2).bind fun q8 => M_X0_tick_25 k n x1 (x2 + 1) q8))) := rfl
set_option maxRecDepth 100000 in
set_option maxHeartbeats 4000000 in
theorem N_X0_tick_25 (C : CX E p l s m args meth c cX0_tick 3 RX0 none A) (a : Nat → Nat) (k : Nat) {post : va_W → Prop} :
    ∀ (n : Nat) (x1 : Int32) (x2 : Int32) (S : Nat → Nat → Int32) (q : (Nat → Nat → Int32)), M_X0_tick_25 k n x1 x2 S = some q → post (wFl E a q) →
      WW E p l e rm_X0_tick s m args below meth c A 0 0 (QV E below post args s rm_X0_tick A) (wFl E a S) 3 [some (.ref (a 0)), some (.int x1), some (.int x2)] 25 [] := by
  intro n
  induction n with
  | zero => intro x1 x2 S q  h _; cases h
  | succ n ih =>
    intro x1 x2 S q  h hq
    rw [M_X0_tick_25_s] at h
    refine r_iload_n (pc := 25) C (i := 2) dX0_tick_25 rfl rfl ?_
    refine r_aload_n (pc := 26) C (i := 0) dX0_tick_26 rfl rfl ?_
    refine r_get (pc := 27) C gwX0 0 rfl rfl 0 (by decide) wm_1_92 rfl dX0_tick_27 ?_
    refine r_icmp_ge (pc := 30) C (tgt := 62) dX0_tick_30 rfl (fun c1 => ?_) (fun c1 => ?_)
    · rw [if_pos c1] at h
      refine r_aload_n (pc := 62) C (i := 0) dX0_tick_62 rfl rfl ?_
      obtain ⟨q2, hq2, h⟩ := bnd h
      refine r_callV_CV (Cn := RX0) (pc := 63) C [] (c_X0_endQuarantines E l k a S hq2) [0, 1, 2, 3, 4, 5, 6, 7, 8, 9, 10, 11, 12, 13, 14, 15, 16, 17] (hp_X0_isCutOff_0 E a S) (by decide) 0 rfl rfl rfl g_X0_150 hd_X0_endQuarantines ⟨Nat.le_of_ble_eq_true rfl, Nat.le_of_ble_eq_true rfl⟩ ⟨Nat.zero_le _, Nat.zero_le _⟩ (Nat.le_of_ble_eq_true rfl) rfl dX0_tick_63 (fun w1 hw1 => ?_)
      subst hw1
      refine ⟨(wFl E a q2), by exact (pw_X0_finish_0 E a S q2), ?_⟩
      refine r_aload_n (pc := 66) C (i := 0) dX0_tick_66 rfl rfl ?_
      obtain ⟨q3, hq3, h⟩ := bnd h
      refine r_callV_CV (Cn := RX0) (pc := 67) C [] (c_X0_beginQuarantines E l k a q2 hq3) [0, 1, 2, 3, 4, 5, 6, 7, 8, 9, 10, 11, 12, 13, 14, 15, 16, 17] (hp_X0_isCutOff_0 E a q2) (by decide) 0 rfl rfl rfl g_X0_153 hd_X0_beginQuarantines ⟨Nat.le_of_ble_eq_true rfl, Nat.le_of_ble_eq_true rfl⟩ ⟨Nat.zero_le _, Nat.zero_le _⟩ (Nat.le_of_ble_eq_true rfl) rfl dX0_tick_67 (fun w1 hw1 => ?_)
      subst hw1
      refine ⟨(wFl E a q3), by exact (pw_X0_finish_0 E a q2 q3), ?_⟩
      cases h
      exact r_vret (pc := 70) C hq (Nat.zero_le _) (Nat.zero_le _) dX0_tick_70
    · rw [if_neg c1] at h
      refine r_iload_n (pc := 33) C (i := 1) dX0_tick_33 rfl rfl ?_
      refine r_iload_n (pc := 34) C (i := 2) dX0_tick_34 rfl rfl ?_
      obtain ⟨q4, hq4, h⟩ := bnd h
      refine r_callSp_CI (pc := 35) C [.int x1, .int x2] (c_X0_has E l k x1 x2 hq4) [] rfl (by decide) g_X0_107 hd_X0_has.2 ⟨Nat.le_of_ble_eq_true rfl, Nat.le_of_ble_eq_true rfl⟩ ⟨Nat.zero_le _, Nat.zero_le _⟩ (Nat.le_of_ble_eq_true rfl) rfl dX0_tick_35 (fun r hr => ?_)
      have hr := hr.symm
      subst hr
      refine r_if_eq (pc := 38) C (tgt := 56) dX0_tick_38 rfl (fun c5 => ?_) (fun c5 => ?_)
      · rw [if_pos c5] at h
        refine r_iinc (pc := 56) C (v := (x2 + 1)) dX0_tick_56 rfl rfl (by decide) rfl ?_
        refine r_goto (pc := 59) C (tgt := 25) dX0_tick_59 rfl ?_
        refine r_weak (lSub_s (lSub_s (lSub_s lSub_e))) ?_
        exact ih x1 (x2 + 1) S q  h hq
      · rw [if_neg c5] at h
        refine r_aload_n (pc := 41) C (i := 0) dX0_tick_41 rfl rfl ?_
        refine r_aload_n (pc := 42) C (i := 0) dX0_tick_42 rfl rfl ?_
        refine r_iload_n (pc := 43) C (i := 2) dX0_tick_43 rfl rfl ?_
        refine r_iconst (pc := 44) C (v := 0) dX0_tick_44 (by decide) ?_
        obtain ⟨q6, hq6, h⟩ := bnd h
        refine r_callVp_CI (Cn := RX0) (pc := 45) C [.int x2, .int (0 : Int32)] (c_X0_waitingAt E l k a S x2 (0 : Int32) hq6) [0, 1, 2, 3, 4, 5, 6, 7, 8, 9, 10, 11, 12, 13, 14, 15, 16, 17] (hp_X0_isCutOff_0 E a S) (by decide) 0 rfl rfl rfl g_X0_141 hd_X0_waitingAt ⟨Nat.le_of_ble_eq_true rfl, Nat.le_of_ble_eq_true rfl⟩ ⟨Nat.zero_le _, Nat.zero_le _⟩ (Nat.le_of_ble_eq_true rfl) rfl dX0_tick_45 (fun r hr => ?_)
        have hr := hr.symm
        subst hr
        obtain ⟨q7, hq7, h⟩ := bnd h
        refine r_callV_CV (Cn := RX0) (pc := 48) C [.int q6] (c_X0_retryKiller E l k a S q6 hq7) [0, 1, 2, 3, 4, 5, 6, 7, 8, 9, 10, 11, 12, 13, 14, 15, 16, 17] (hp_X0_isCutOff_0 E a S) (by decide) 0 rfl rfl rfl g_X0_144 hd_X0_retryKiller ⟨Nat.le_of_ble_eq_true rfl, Nat.le_of_ble_eq_true rfl⟩ ⟨Nat.zero_le _, Nat.zero_le _⟩ (Nat.le_of_ble_eq_true rfl) rfl dX0_tick_48 (fun w1 hw1 => ?_)
        subst hw1
        refine ⟨(wFl E a q7), by exact (pw_X0_finish_0 E a S q7), ?_⟩
        refine r_aload_n (pc := 51) C (i := 0) dX0_tick_51 rfl rfl ?_
        refine r_iload_n (pc := 52) C (i := 2) dX0_tick_52 rfl rfl ?_
        obtain ⟨q8, hq8, h⟩ := bnd h
        refine r_callV_CV (Cn := RX0) (pc := 53) C [.int x2] (c_X0_routeQueue E l k a q7 x2 hq8) [0, 1, 2, 3, 4, 5, 6, 7, 8, 9, 10, 11, 12, 13, 14, 15, 16, 17] (hp_X0_isCutOff_0 E a q7) (by decide) 0 rfl rfl rfl g_X0_147 hd_X0_routeQueue ⟨Nat.le_of_ble_eq_true rfl, Nat.le_of_ble_eq_true rfl⟩ ⟨Nat.zero_le _, Nat.zero_le _⟩ (Nat.le_of_ble_eq_true rfl) rfl dX0_tick_53 (fun w1 hw1 => ?_)
        subst hw1
        refine ⟨(wFl E a q8), by exact (pw_X0_finish_0 E a q7 q8), ?_⟩
        refine r_iinc (pc := 56) C (v := (x2 + 1)) dX0_tick_56 rfl rfl (by decide) rfl ?_
        refine r_goto (pc := 59) C (tgt := 25) dX0_tick_59 rfl ?_
        refine r_weak (lSub_s (lSub_s (lSub_s lSub_e))) ?_
        exact ih x1 (x2 + 1) q8 q  h hq
def M_X0_tick_0 (k : Nat) (S : Nat → Nat → Int32) : Option ((Nat → Nat → Int32)) := lt (va_up S 0 (upd (S 0) 4 ((S 0 4) + (1 : Int32)))) fun F9 => (M_X0_startWorkers k F9).bind fun q10 => (M_X0_routeParked k q10).bind fun q11 => (M_X0_work k q11).bind fun q12 => M_X0_tick_25 k k q12.1 (0 : Int32) q12.2
set_option maxRecDepth 100000 in
set_option maxHeartbeats 4000000 in
theorem N_X0_tick_0 (C : CX E p l s m args meth c cX0_tick 3 RX0 none A) (a : Nat → Nat) (k : Nat) {post : va_W → Prop} :
    ∀ (S : Nat → Nat → Int32) (q : (Nat → Nat → Int32)), M_X0_tick_0 k S = some q → post (wFl E a q) →
      WW E p l e rm_X0_tick s m args below meth c A 0 0 (QV E below post args s rm_X0_tick A) (wFl E a S) 3 [some (.ref (a 0)), none, none] 0 [] := by
  intro S q  h hq
  unfold M_X0_tick_0 at h
  refine r_aload_n (pc := 0) C (i := 0) dX0_tick_0 rfl rfl ?_
  refine r_dup (pc := 1) C dX0_tick_1 rfl ?_
  refine r_get (pc := 2) C gwX0 0 rfl rfl 4 (by decide) wm_1_104 rfl dX0_tick_2 ?_
  refine r_iconst (pc := 5) C (v := 1) dX0_tick_5 (by decide) ?_
  refine r_iadd (pc := 6) C dX0_tick_6 ?_
  obtain ⟨F9, hF9, h⟩ := lt_e h
  refine r_put (pc := 7) C gwX0 tyX0 tyX0_ok nmX0 0 rfl rfl 4 (by decide) wm_1_104 rfl rfl rfl rfl (Nat.le_of_ble_eq_true rfl) (w' := (wFl E a F9)) (by rw [hF9]; rfl) dX0_tick_7 ?_
  refine r_aload_n (pc := 10) C (i := 0) dX0_tick_10 rfl rfl ?_
  obtain ⟨q10, hq10, h⟩ := bnd h
  refine r_callV_CV (Cn := RX0) (pc := 11) C [] (c_X0_startWorkers E l k a F9 hq10) [0, 1, 2, 3, 4, 5, 6, 7, 8, 9, 10, 11, 12, 13, 14, 15, 16, 17] (hp_X0_isCutOff_0 E a F9) (by decide) 0 rfl rfl rfl g_X0_132 hd_X0_startWorkers ⟨Nat.le_of_ble_eq_true rfl, Nat.le_of_ble_eq_true rfl⟩ ⟨Nat.zero_le _, Nat.zero_le _⟩ (Nat.le_of_ble_eq_true rfl) rfl dX0_tick_11 (fun w1 hw1 => ?_)
  subst hw1
  refine ⟨(wFl E a q10), by exact (pw_X0_finish_0 E a F9 q10), ?_⟩
  refine r_aload_n (pc := 14) C (i := 0) dX0_tick_14 rfl rfl ?_
  obtain ⟨q11, hq11, h⟩ := bnd h
  refine r_callV_CV (Cn := RX0) (pc := 15) C [] (c_X0_routeParked E l k a q10 hq11) [0, 1, 2, 3, 4, 5, 6, 7, 8, 9, 10, 11, 12, 13, 14, 15, 16, 17] (hp_X0_isCutOff_0 E a q10) (by decide) 0 rfl rfl rfl g_X0_135 hd_X0_routeParked ⟨Nat.le_of_ble_eq_true rfl, Nat.le_of_ble_eq_true rfl⟩ ⟨Nat.zero_le _, Nat.zero_le _⟩ (Nat.le_of_ble_eq_true rfl) rfl dX0_tick_15 (fun w1 hw1 => ?_)
  subst hw1
  refine ⟨(wFl E a q11), by exact (pw_X0_finish_0 E a q10 q11), ?_⟩
  refine r_aload_n (pc := 18) C (i := 0) dX0_tick_18 rfl rfl ?_
  obtain ⟨q12, hq12, h⟩ := bnd h
  refine r_callV_CI (Cn := RX0) (pc := 19) C [] (c_X0_work E l k a q11 hq12) [0, 1, 2, 3, 4, 5, 6, 7, 8, 9, 10, 11, 12, 13, 14, 15, 16, 17] (hp_X0_isCutOff_0 E a q11) (by decide) 0 rfl rfl rfl g_X0_138 hd_X0_work ⟨Nat.le_of_ble_eq_true rfl, Nat.le_of_ble_eq_true rfl⟩ ⟨Nat.zero_le _, Nat.zero_le _⟩ (Nat.le_of_ble_eq_true rfl) rfl dX0_tick_19 (fun r w1 hw1 => ?_)
  obtain ⟨hr1, hw1⟩ := hw1
  subst hr1 hw1
  refine ⟨(wFl E a q12.2), by exact (pw_X0_finish_0 E a q11 q12.2), ?_⟩
  refine r_istore_n (pc := 22) C (i := 1) dX0_tick_22 rfl (by decide) rfl ?_
  refine r_iconst (pc := 23) C (v := 0) dX0_tick_23 (by decide) ?_
  refine r_istore_n (pc := 24) C (i := 2) dX0_tick_24 rfl (by decide) rfl ?_
  refine r_weak (lSub_s (lSub_s (lSub_s lSub_e))) ?_
  exact N_X0_tick_25 C a k k q12.1 (0 : Int32) q12.2 q  h hq
def M_X0_tick (k : Nat) (S : Nat → Nat → Int32) : Option ((Nat → Nat → Int32)) := M_X0_tick_0 k S
set_option maxRecDepth 100000 in
set_option maxHeartbeats 4000000 in
theorem c_X0_tick (E : ENV) (l : Launch) (k : Nat) (a : Nat → Nat) (S : Nat → Nat → Int32) {q : (Nat → Nat → Int32)} (hm : M_X0_tick k S = some q) : CV E l yX0_tick cX0_tick 3 none rm_X0_tick [.ref (a 0)] (wFl E a S) (fun w' => w' = (wFl E a q)) :=
  CV.of 2 (by decide) (Nat.le_of_ble_eq_true rfl) (fun p e s m below meth c A C _ => r_weak (lSub_s (lSub_n (lSub_n lSub_e))) (N_X0_tick_0 C a k S q  hm rfl))
end WALKS
