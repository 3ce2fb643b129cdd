def rmV (f lo : Nat) : Room := { frames := f, cells := 0, slots := 0, locals := lo }
section WALKS
variable {E : ENV} {p : Program} {l : Launch} {e : Env} {s : State} {m : MethodId} {args : Array Value} {below : List Frame} {meth : Method} {c : Code} {A : Nat → Prop}
theorem hd_X4_factor : yX4_factor.cls = RX4 ∧ yX4_factor.cls ≠ "java/lang/invoke/MethodHandle" ∧ yX4_factor.cls ≠ "java/lang/invoke/VarHandle" ∧ (parseMethodDescriptor yX4_factor.desc).map (fun d => d.parameters.length) = some 3 := by decide +kernel
theorem g_X4_26 : GoodIn GW (va_wsS RX4 26 yX4_factor (wsG yX4_factor cX4_factor 6 (some .long))) := gw_S wm_5_112 wm_5_113 wm_1_24 wm_5_114
-- ShardGuard$QueryText.conjunction(LShardGuard$Tokens;LShardGuard$Fleet;I)J
theorem dX4_conjunction_0 : decode cX4_conjunction 0 = .ok (.aload_n 0, 1) := by decide +kernel
theorem dX4_conjunction_1 : decode cX4_conjunction 1 = .ok (.aload_n 1, 1) := by decide +kernel
theorem dX4_conjunction_2 : decode cX4_conjunction 2 = .ok (.iload_n 2, 1) := by decide +kernel
theorem dX4_conjunction_3 : decode cX4_conjunction 3 = .ok (.invokestatic 26, 3) := by decide +kernel
theorem dX4_conjunction_6 : decode cX4_conjunction 6 = .ok (.lstore_n 3, 1) := by decide +kernel
theorem dX4_conjunction_7 : decode cX4_conjunction 7 = .ok (.iconst 0, 1) := by decide +kernel
theorem dX4_conjunction_8 : decode cX4_conjunction 8 = .ok (.istore 5, 2) := by decide +kernel
theorem dX4_conjunction_10 : decode cX4_conjunction 10 = .ok (.iload 5, 2) := by decide +kernel
theorem dX4_conjunction_12 : decode cX4_conjunction 12 = .ok (.sipush 200, 3) := by decide +kernel
theorem dX4_conjunction_15 : decode cX4_conjunction 15 = .ok (.if_icmp .ge 31, 3) := by decide +kernel
theorem dX4_conjunction_18 : decode cX4_conjunction 18 = .ok (.aload_n 0, 1) := by decide +kernel
theorem dX4_conjunction_19 : decode cX4_conjunction 19 = .ok (.ldc 29, 2) := by decide +kernel
theorem dX4_conjunction_21 : decode cX4_conjunction 21 = .ok (.invokevirtual 17, 3) := by decide +kernel
theorem dX4_conjunction_24 : decode cX4_conjunction 24 = .ok (.ifCond .eq 22, 3) := by decide +kernel
theorem dX4_conjunction_27 : decode cX4_conjunction 27 = .ok (.aload_n 0, 1) := by decide +kernel
theorem dX4_conjunction_28 : decode cX4_conjunction 28 = .ok (.invokevirtual 23, 3) := by decide +kernel
theorem dX4_conjunction_31 : decode cX4_conjunction 31 = .ok (.lload_n 3, 1) := by decide +kernel
theorem dX4_conjunction_32 : decode cX4_conjunction 32 = .ok (.aload_n 0, 1) := by decide +kernel
theorem dX4_conjunction_33 : decode cX4_conjunction 33 = .ok (.aload_n 1, 1) := by decide +kernel
theorem dX4_conjunction_34 : decode cX4_conjunction 34 = .ok (.iload_n 2, 1) := by decide +kernel
theorem dX4_conjunction_35 : decode cX4_conjunction 35 = .ok (.invokestatic 26, 3) := by decide +kernel
theorem dX4_conjunction_38 : decode cX4_conjunction 38 = .ok (.land, 1) := by decide +kernel
theorem dX4_conjunction_39 : decode cX4_conjunction 39 = .ok (.lstore_n 3, 1) := by decide +kernel
theorem dX4_conjunction_40 : decode cX4_conjunction 40 = .ok (.iinc 5 1, 3) := by decide +kernel
theorem dX4_conjunction_43 : decode cX4_conjunction 43 = .ok (.goto (-33), 3) := by decide +kernel
theorem dX4_conjunction_46 : decode cX4_conjunction 46 = .ok (.lload_n 3, 1) := by decide +kernel
theorem dX4_conjunction_47 : decode cX4_conjunction 47 = .ok (.lreturn, 1) := by decide +kernel
def rm_X4_conjunction (f lo : Nat) : Room := { frames := 7 + f, cells := 0, slots := 0, locals := 172 + lo }
def M_X4_conjunction_10 (k : Nat) (φ : (Nat → Nat → Int32) → (Nat → Nat → Int32) → Int32 → Option (Int64 × (Nat → Nat → Int32))) (T : Nat → Nat → Int32) : Nat → (Int32) → (Int64) → (Int32) → (Nat → Nat → Int32) → Option (Int64 × (Nat → Nat → Int32))
  | 0, _, _, _, _ => none
  | n + 1, x2, z3, x5, S => if (200 : Int32) ≤ x5 then (some (z3, S)) else ((M_X7_is k S 52).bind fun q2 => if q2 = 0 then (some (z3, S)) else ((M_X7_advance k S).bind fun q4 => (φ q4 T x2).bind fun q5 => lt (z3 &&& q5.1) fun v6 => M_X4_conjunction_10 k φ T n x2 v6 (x5 + 1) q5.2))
theorem M_X4_conjunction_10_s (k : Nat) (φ : (Nat → Nat → Int32) → (Nat → Nat → Int32) → Int32 → Option (Int64 × (Nat → Nat → Int32))) (T : Nat → Nat → Int32) (n : Nat) (x2 : Int32) (z3 : Int64) (x5 : Int32) (S : Nat → Nat → Int32) : M_X4_conjunction_10 k φ T (n + 1) x2 z3 x5 S = (if (200 : Int32) ≤ x5 then (some (z3, S)) else ((M_X7_is k S 52).bind fun q2 => if q2 = 0 then (some (z3, S)) else ((M_X7_advance k S).bind fun q4 => (φ q4 T x2).bind fun q5 => lt (z3 &&& q5.1) fun v6 => M_X4_conjunction_10 k φ T n x2 v6 (x5 + 1) q5.2))) := rfl
set_option maxRecDepth 100000 in
set_option maxHeartbeats 4000000 in
theorem N_X4_conjunction_10 (C : CX E p l s m args meth c cX4_conjunction 6 RX4 (some .long) A) (a : Nat → Nat) (b : Nat → Nat) (k : Nat) (φ : (Nat → Nat → Int32) → (Nat → Nat → Int32) → Int32 → Option (Int64 × (Nat → Nat → Int32))) (f lo : Nat) (hφ : ∀ (a : Nat → Nat) (b : Nat → Nat) (S : Nat → Nat → Int32) (T : Nat → Nat → Int32) (p0 : Int32) (q : Int64 × (Nat → Nat → Int32)), φ S T p0 = some q → CL E l yX4_factor cX4_factor 6 (some .long) (rmV f lo) [.ref (a 0), .ref (b 0), .int p0] (wTk E a S ++ wFl E b T) (fun r w' => r = q.1 ∧ w' = wTk E a q.2 ++ wFl E b T)) (T : Nat → Nat → Int32) {post : Int64 → va_W → Prop} :
    ∀ (n : Nat) (x2 : Int32) (z3 : Int64) (x5 : Int32) (S : Nat → Nat → Int32) (q : Int64 × (Nat → Nat → Int32)), M_X4_conjunction_10 k φ T n x2 z3 x5 S = some q → post q.1 (wTk E a q.2 ++ wFl E b T) →
      WW E p l e (rm_X4_conjunction f lo) s m args below meth c A 0 0 (QL E below post args s (rm_X4_conjunction f lo) A) (wTk E a S ++ wFl E b T) 6 [some (.ref (a 0)), some (.ref (b 0)), some (.int x2), some (.long z3), none, some (.int x5)] 10 [] := by
  intro n
  induction n with
  | zero => intro x2 z3 x5 S q  h _; cases h
  | succ n ih =>
    intro x2 z3 x5 S q  h hq
    rw [M_X4_conjunction_10_s] at h
    refine r_iload (pc := 10) C (i := 5) dX4_conjunction_10 rfl ?_
    refine r_sipush (pc := 12) C (v := 200) dX4_conjunction_12 (by decide) ?_
    refine r_icmp_ge (pc := 15) C (tgt := 46) dX4_conjunction_15 rfl (fun c1 => ?_) (fun c1 => ?_)
    · rw [if_pos c1] at h
      refine r_lload_n (pc := 46) C (i := 3) dX4_conjunction_46 rfl rfl ?_
      cases h
      exact r_lret (pc := 47) C hq (Nat.zero_le _) (Nat.zero_le _) dX4_conjunction_47
    · rw [if_neg c1] at h
      refine r_aload_n (pc := 18) C (i := 0) dX4_conjunction_18 rfl rfl ?_
      refine r_ldcS (pc := 19) C 52 rfl dX4_conjunction_19 ?_
      obtain ⟨q2, hq2, h⟩ := bnd h
      refine r_callVp_CI (Cn := RX7) (pc := 21) C [.ref (eS E 52)] (c_X7_is E l k a S 52 (by decide) hq2) [0, 1, 2] (hp_X1_readWorkers_0 E a b S T) (by decide) 0 rfl rfl rfl g_X4_17 hd_X7_is ⟨(by simp only [rm_X4_conjunction, rm_X7_is, rmV]; omega), (by simp only [rm_X4_conjunction, rm_X7_is, rmV]; omega)⟩ ⟨Nat.zero_le _, Nat.zero_le _⟩ (Nat.le_of_ble_eq_true rfl) rfl dX4_conjunction_21 (fun r hr => ?_)
      have hr := hr.symm
      subst hr
      refine r_if_eq (pc := 24) C (tgt := 46) dX4_conjunction_24 rfl (fun c3 => ?_) (fun c3 => ?_)
      · rw [if_pos c3] at h
        refine r_lload_n (pc := 46) C (i := 3) dX4_conjunction_46 rfl rfl ?_
        cases h
        exact r_lret (pc := 47) C hq (Nat.zero_le _) (Nat.zero_le _) dX4_conjunction_47
      · rw [if_neg c3] at h
        refine r_aload_n (pc := 27) C (i := 0) dX4_conjunction_27 rfl rfl ?_
        obtain ⟨q4, hq4, h⟩ := bnd h
        refine r_callV_CV (Cn := RX7) (pc := 28) C [] (c_X7_advance E l k a S hq4) [0, 1, 2] (hp_X1_readWorkers_0 E a b S T) (by decide) 0 rfl rfl rfl g_X4_23 hd_X7_advance ⟨(by simp only [rm_X4_conjunction, rm_X7_advance, rmV]; omega), (by simp only [rm_X4_conjunction, rm_X7_advance, rmV]; omega)⟩ ⟨Nat.zero_le _, Nat.zero_le _⟩ (Nat.le_of_ble_eq_true rfl) rfl dX4_conjunction_28 (fun w1 hw1 => ?_)
        subst hw1
        refine ⟨(wTk E a q4 ++ wFl E b T), by exact (pw_X1_readWorkers_0 E a b S T q4), ?_⟩
        refine r_lload_n (pc := 31) C (i := 3) dX4_conjunction_31 rfl rfl ?_
        refine r_aload_n (pc := 32) C (i := 0) dX4_conjunction_32 rfl rfl ?_
        refine r_aload_n (pc := 33) C (i := 1) dX4_conjunction_33 rfl rfl ?_
        refine r_iload_n (pc := 34) C (i := 2) dX4_conjunction_34 rfl rfl ?_
        obtain ⟨q5, hq5, h⟩ := bnd h
        refine r_callS_CL (pc := 35) C [.ref (a 0), .ref (b 0), .int x2] (hφ a b q4 T x2 _ hq5) [0, 1, 2, 3, 4, 5, 6, 7, 8, 9, 10, 11, 12, 13, 14, 15, 16, 17, 18, 19, 20] (hp_X1_read_0 E a b q4 T) (by decide) g_X4_26 hd_X4_factor.2 ⟨(by simp only [rm_X4_conjunction, rmV]; omega), (by simp only [rm_X4_conjunction, rmV]; omega)⟩ ⟨Nat.zero_le _, Nat.zero_le _⟩ (Nat.le_of_ble_eq_true rfl) rfl dX4_conjunction_35 (fun r w1 hw1 => ?_)
        obtain ⟨hr1, hw1⟩ := hw1
        subst hr1 hw1
        refine ⟨(wTk E a q5.2 ++ wFl E b T), by exact (pw_X1_readTenants_0 E a b q4 T q5.2), ?_⟩
        refine r_land (pc := 38) C dX4_conjunction_38 ?_
        obtain ⟨v6, hv6, h⟩ := lt_e h
        refine r_topl hv6 ?_
        refine r_lstore_n (pc := 39) C (i := 3) dX4_conjunction_39 rfl (by decide) rfl ?_
        refine r_iinc (pc := 40) C (v := (x5 + 1)) dX4_conjunction_40 rfl rfl (by decide) rfl ?_
        refine r_goto (pc := 43) C (tgt := 10) dX4_conjunction_43 rfl ?_
        refine r_weak (lSub_s (lSub_s (lSub_s (lSub_s (lSub_n (lSub_s lSub_e)))))) ?_
        exact ih x2 v6 (x5 + 1) q5.2 q  h hq
def M_X4_conjunction_0 (k : Nat) (φ : (Nat → Nat → Int32) → (Nat → Nat → Int32) → Int32 → Option (Int64 × (Nat → Nat → Int32))) (T : Nat → Nat → Int32) (p0 : Int32) (S : Nat → Nat → Int32) : Option (Int64 × (Nat → Nat → Int32)) := (φ S T p0).bind fun q7 => M_X4_conjunction_10 k φ T k p0 q7.1 (0 : Int32) q7.2
set_option maxRecDepth 100000 in
set_option maxHeartbeats 4000000 in
theorem N_X4_conjunction_0 (C : CX E p l s m args meth c cX4_conjunction 6 RX4 (some .long) A) (a : Nat → Nat) (b : Nat → Nat) (k : Nat) (φ : (Nat → Nat → Int32) → (Nat → Nat → Int32) → Int32 → Option (Int64 × (Nat → Nat → Int32))) (f lo : Nat) (hφ : ∀ (a : Nat → Nat) (b : Nat → Nat) (S : Nat → Nat → Int32) (T : Nat → Nat → Int32) (p0 : Int32) (q : Int64 × (Nat → Nat → Int32)), φ S T p0 = some q → CL E l yX4_factor cX4_factor 6 (some .long) (rmV f lo) [.ref (a 0), .ref (b 0), .int p0] (wTk E a S ++ wFl E b T) (fun r w' => r = q.1 ∧ w' = wTk E a q.2 ++ wFl E b T)) (T : Nat → Nat → Int32) {post : Int64 → va_W → Prop} :
    ∀ (p0 : Int32) (S : Nat → Nat → Int32) (q : Int64 × (Nat → Nat → Int32)), M_X4_conjunction_0 k φ T p0 S = some q → post q.1 (wTk E a q.2 ++ wFl E b T) →
      WW E p l e (rm_X4_conjunction f lo) s m args below meth c A 0 0 (QL E below post args s (rm_X4_conjunction f lo) A) (wTk E a S ++ wFl E b T) 6 [some (.ref (a 0)), some (.ref (b 0)), some (.int p0), none, none, none] 0 [] := by
  intro p0 S q  h hq
  unfold M_X4_conjunction_0 at h
  refine r_aload_n (pc := 0) C (i := 0) dX4_conjunction_0 rfl rfl ?_
  refine r_aload_n (pc := 1) C (i := 1) dX4_conjunction_1 rfl rfl ?_
  refine r_iload_n (pc := 2) C (i := 2) dX4_conjunction_2 rfl rfl ?_
  obtain ⟨q7, hq7, h⟩ := bnd h
  refine r_callS_CL (pc := 3) C [.ref (a 0), .ref (b 0), .int p0] (hφ a b S T p0 _ hq7) [0, 1, 2, 3, 4, 5, 6, 7, 8, 9, 10, 11, 12, 13, 14, 15, 16, 17, 18, 19, 20] (hp_X1_read_0 E a b S T) (by decide) g_X4_26 hd_X4_factor.2 ⟨(by simp only [rm_X4_conjunction, rmV]; omega), (by simp only [rm_X4_conjunction, rmV]; omega)⟩ ⟨Nat.zero_le _, Nat.zero_le _⟩ (Nat.le_of_ble_eq_true rfl) rfl dX4_conjunction_3 (fun r w1 hw1 => ?_)
  obtain ⟨hr1, hw1⟩ := hw1
  subst hr1 hw1
  refine ⟨(wTk E a q7.2 ++ wFl E b T), by exact (pw_X1_readTenants_0 E a b S T q7.2), ?_⟩
  refine r_lstore_n (pc := 6) C (i := 3) dX4_conjunction_6 rfl (by decide) rfl ?_
  refine r_iconst (pc := 7) C (v := 0) dX4_conjunction_7 (by decide) ?_
  refine r_istore (pc := 8) C (i := 5) dX4_conjunction_8 (by decide) rfl ?_
  refine r_weak (lSub_s (lSub_s (lSub_s (lSub_s (lSub_n (lSub_s lSub_e)))))) ?_
  exact N_X4_conjunction_10 C a b k φ f lo hφ T k p0 q7.1 (0 : Int32) q7.2 q  h hq
def M_X4_conjunction (k : Nat) (φ : (Nat → Nat → Int32) → (Nat → Nat → Int32) → Int32 → Option (Int64 × (Nat → Nat → Int32))) (S : Nat → Nat → Int32) (T : Nat → Nat → Int32) (p0 : Int32) : Option (Int64 × (Nat → Nat → Int32)) := M_X4_conjunction_0 k φ T p0 S
set_option maxRecDepth 100000 in
set_option maxHeartbeats 4000000 in
theorem c_X4_conjunction (E : ENV) (l : Launch) (k : Nat) (φ : (Nat → Nat → Int32) → (Nat → Nat → Int32) → Int32 → Option (Int64 × (Nat → Nat → Int32))) (f lo : Nat) (hφ : ∀ (a : Nat → Nat) (b : Nat → Nat) (S : Nat → Nat → Int32) (T : Nat → Nat → Int32) (p0 : Int32) (q : Int64 × (Nat → Nat → Int32)), φ S T p0 = some q → CL E l yX4_factor cX4_factor 6 (some .long) (rmV f lo) [.ref (a 0), .ref (b 0), .int p0] (wTk E a S ++ wFl E b T) (fun r w' => r = q.1 ∧ w' = wTk E a q.2 ++ wFl E b T)) (a : Nat → Nat) (b : Nat → Nat) (S : Nat → Nat → Int32) (T : Nat → Nat → Int32) (p0 : Int32) {q : Int64 × (Nat → Nat → Int32)} (hm : M_X4_conjunction k φ S T p0 = some q) : CL E l yX4_conjunction cX4_conjunction 6 (some .long) (rm_X4_conjunction f lo) [.ref (a 0), .ref (b 0), .int p0] (wTk E a S ++ wFl E b T) (fun r w' => r = q.1 ∧ w' = (wTk E a q.2 ++ wFl E b T)) :=
  CL.of 3 (by decide) (Nat.le_of_ble_eq_true rfl) (fun p e s m below meth c A C _ => r_weak (lSub_s (lSub_s (lSub_s (lSub_n (lSub_n (lSub_n lSub_e)))))) (N_X4_conjunction_0 C a b k φ f lo hφ T p0 S q  hm ⟨rfl, rfl⟩))
theorem hd_X4_conjunction : yX4_conjunction.cls = RX4 ∧ yX4_conjunction.cls ≠ "java/lang/invoke/MethodHandle" ∧ yX4_conjunction.cls ≠ "java/lang/invoke/VarHandle" ∧ (parseMethodDescriptor yX4_conjunction.desc).map (fun d => d.parameters.length) = some 3 := by decide +kernel
theorem g_X4_9 : GoodIn GW (va_wsS RX4 9 yX4_conjunction (wsG yX4_conjunction cX4_conjunction 6 (some .long))) := gw_S wm_5_109 wm_5_110 wm_1_24 wm_5_111
-- ShardGuard$QueryText.test(LShardGuard$Tokens;LShardGuard$Fleet;I)J
theorem dX4_test_0 : decode cX4_test 0 = .ok (.aload_n 0, 1) := by decide +kernel
theorem dX4_test_1 : decode cX4_test 1 = .ok (.aload_n 1, 1) := by decide +kernel
theorem dX4_test_2 : decode cX4_test 2 = .ok (.iload_n 2, 1) := by decide +kernel
theorem dX4_test_3 : decode cX4_test 3 = .ok (.invokestatic 9, 3) := by decide +kernel
theorem dX4_test_6 : decode cX4_test 6 = .ok (.lstore_n 3, 1) := by decide +kernel
theorem dX4_test_7 : decode cX4_test 7 = .ok (.iconst 0, 1) := by decide +kernel
theorem dX4_test_8 : decode cX4_test 8 = .ok (.istore 5, 2) := by decide +kernel
theorem dX4_test_10 : decode cX4_test 10 = .ok (.iload 5, 2) := by decide +kernel
theorem dX4_test_12 : decode cX4_test 12 = .ok (.sipush 200, 3) := by decide +kernel
theorem dX4_test_15 : decode cX4_test 15 = .ok (.if_icmp .ge 31, 3) := by decide +kernel
theorem dX4_test_18 : decode cX4_test 18 = .ok (.aload_n 0, 1) := by decide +kernel
theorem dX4_test_19 : decode cX4_test 19 = .ok (.ldc 15, 2) := by decide +kernel
theorem dX4_test_21 : decode cX4_test 21 = .ok (.invokevirtual 17, 3) := by decide +kernel
theorem dX4_test_24 : decode cX4_test 24 = .ok (.ifCond .eq 22, 3) := by decide +kernel
theorem dX4_test_27 : decode cX4_test 27 = .ok (.aload_n 0, 1) := by decide +kernel
theorem dX4_test_28 : decode cX4_test 28 = .ok (.invokevirtual 23, 3) := by decide +kernel
theorem dX4_test_31 : decode cX4_test 31 = .ok (.lload_n 3, 1) := by decide +kernel
theorem dX4_test_32 : decode cX4_test 32 = .ok (.aload_n 0, 1) := by decide +kernel
theorem dX4_test_33 : decode cX4_test 33 = .ok (.aload_n 1, 1) := by decide +kernel
theorem dX4_test_34 : decode cX4_test 34 = .ok (.iload_n 2, 1) := by decide +kernel
theorem dX4_test_35 : decode cX4_test 35 = .ok (.invokestatic 9, 3) := by decide +kernel
theorem dX4_test_38 : decode cX4_test 38 = .ok (.lor, 1) := by decide +kernel
theorem dX4_test_39 : decode cX4_test 39 = .ok (.lstore_n 3, 1) := by decide +kernel
theorem dX4_test_40 : decode cX4_test 40 = .ok (.iinc 5 1, 3) := by decide +kernel
theorem dX4_test_43 : decode cX4_test 43 = .ok (.goto (-33), 3) := by decide +kernel
theorem dX4_test_46 : decode cX4_test 46 = .ok (.lload_n 3, 1) := by decide +kernel
theorem dX4_test_47 : decode cX4_test 47 = .ok (.lreturn, 1) := by decide +kernel
def rm_X4_test (f lo : Nat) : Room := { frames := 8 + f, cells := 0, slots := 0, locals := 197 + lo }
def M_X4_test_10 (k : Nat) (φ : (Nat → Nat → Int32) → (Nat → Nat → Int32) → Int32 → Option (Int64 × (Nat → Nat → Int32))) (T : Nat → Nat → Int32) : Nat → (Int32) → (Int64) → (Int32) → (Nat → Nat → Int32) → Option (Int64 × (Nat → Nat → Int32))
  | 0, _, _, _, _ => none
  | n + 1, x2, z3, x5, S => if (200 : Int32) ≤ x5 then (some (z3, S)) else ((M_X7_is k S 53).bind fun q2 => if q2 = 0 then (some (z3, S)) else ((M_X7_advance k S).bind fun q4 => (M_X4_conjunction k φ q4 T x2).bind fun q5 => lt (z3 ||| q5.1) fun v6 => M_X4_test_10 k φ T n x2 v6 (x5 + 1) q5.2))
theorem M_X4_test_10_s (k : Nat) (φ : (Nat → Nat → Int32) → (Nat → Nat → Int32) → Int32 → Option (Int64 × (Nat → Nat → Int32))) (T : Nat → Nat → Int32) (n : Nat) (x2 : Int32) (z3 : Int64) (x5 : Int32) (S : Nat → Nat → Int32) : M_X4_test_10 k φ T (n + 1) x2 z3 x5 S = (if (200 : Int32) ≤ x5 then (some (z3, S)) else ((M_X7_is k S 53).bind fun q2 => if q2 = 0 then (some (z3, S)) else ((M_X7_advance k S).bind fun q4 => (M_X4_conjunction k φ q4 T x2).bind fun q5 => lt (z3 ||| q5.1) fun v6 => M_X4_test_10 k φ T n x2 v6 (x5 + 1) q5.2))) := rfl
set_option maxRecDepth 100000 in
set_option maxHeartbeats 4000000 in
theorem N_X4_test_10 (C : CX E p l s m args meth c cX4_test 6 RX4 (some .long) A) (a : Nat → Nat) (b : Nat → Nat) (k : Nat) (φ : (Nat → Nat → Int32) → (Nat → Nat → Int32) → Int32 → Option (Int64 × (Nat → Nat → Int32))) (f lo : Nat) (hφ : ∀ (a : Nat → Nat) (b : Nat → Nat) (S : Nat → Nat → Int32) (T : Nat → Nat → Int32) (p0 : Int32) (q : Int64 × (Nat → Nat → Int32)), φ S T p0 = some q → CL E l yX4_factor cX4_factor 6 (some .long) (rmV f lo) [.ref (a 0), .ref (b 0), .int p0] (wTk E a S ++ wFl E b T) (fun r w' => r = q.1 ∧ w' = wTk E a q.2 ++ wFl E b T)) (T : Nat → Nat → Int32) {post : Int64 → va_W → Prop} :
    ∀ (n : Nat) (x2 : Int32) (z3 : Int64) (x5 : Int32) (S : Nat → Nat → Int32) (q : Int64 × (Nat → Nat → Int32)), M_X4_test_10 k φ T n x2 z3 x5 S = some q → post q.1 (wTk E a q.2 ++ wFl E b T) →
      WW E p l e (rm_X4_test f lo) s m args below meth c A 0 0 (QL E below post args s (rm_X4_test f lo) A) (wTk E a S ++ wFl E b T) 6 [some (.ref (a 0)), some (.ref (b 0)), some (.int x2), some (.long z3), none, some (.int x5)] 10 [] := by
  intro n
  induction n with
  | zero => intro x2 z3 x5 S q  h _; cases h
  | succ n ih =>
    intro x2 z3 x5 S q  h hq
    rw [M_X4_test_10_s] at h
    refine r_iload (pc := 10) C (i := 5) dX4_test_10 rfl ?_
    refine r_sipush (pc := 12) C (v := 200) dX4_test_12 (by decide) ?_
    refine r_icmp_ge (pc := 15) C (tgt := 46) dX4_test_15 rfl (fun c1 => ?_) (fun c1 => ?_)
    · rw [if_pos c1] at h
      refine r_lload_n (pc := 46) C (i := 3) dX4_test_46 rfl rfl ?_
      cases h
      exact r_lret (pc := 47) C hq (Nat.zero_le _) (Nat.zero_le _) dX4_test_47
    · rw [if_neg c1] at h
      refine r_aload_n (pc := 18) C (i := 0) dX4_test_18 rfl rfl ?_
      refine r_ldcS (pc := 19) C 53 rfl dX4_test_19 ?_
      obtain ⟨q2, hq2, h⟩ := bnd h
      refine r_callVp_CI (Cn := RX7) (pc := 21) C [.ref (eS E 53)] (c_X7_is E l k a S 53 (by decide) hq2) [0, 1, 2] (hp_X1_readWorkers_0 E a b S T) (by decide) 0 rfl rfl rfl g_X4_17 hd_X7_is ⟨(by simp only [rm_X4_test, rm_X7_is, rmV]; omega), (by simp only [rm_X4_test, rm_X7_is, rmV]; omega)⟩ ⟨Nat.zero_le _, Nat.zero_le _⟩ (Nat.le_of_ble_eq_true rfl) rfl dX4_test_21 (fun r hr => ?_)
      have hr := hr.symm
      subst hr
      refine r_if_eq (pc := 24) C (tgt := 46) dX4_test_24 rfl (fun c3 => ?_) (fun c3 => ?_)
      · rw [if_pos c3] at h
        refine r_lload_n (pc := 46) C (i := 3) dX4_test_46 rfl rfl ?_
        cases h
        exact r_lret (pc := 47) C hq (Nat.zero_le _) (Nat.zero_le _) dX4_test_47
      · rw [if_neg c3] at h
        refine r_aload_n (pc := 27) C (i := 0) dX4_test_27 rfl rfl ?_
        obtain ⟨q4, hq4, h⟩ := bnd h
        refine r_callV_CV (Cn := RX7) (pc := 28) C [] (c_X7_advance E l k a S hq4) [0, 1, 2] (hp_X1_readWorkers_0 E a b S T) (by decide) 0 rfl rfl rfl g_X4_23 hd_X7_advance ⟨(by simp only [rm_X4_test, rm_X7_advance, rmV]; omega), (by simp only [rm_X4_test, rm_X7_advance, rmV]; omega)⟩ ⟨Nat.zero_le _, Nat.zero_le _⟩ (Nat.le_of_ble_eq_true rfl) rfl dX4_test_28 (fun w1 hw1 => ?_)
        subst hw1
        refine ⟨(wTk E a q4 ++ wFl E b T), by exact (pw_X1_readWorkers_0 E a b S T q4), ?_⟩
        refine r_lload_n (pc := 31) C (i := 3) dX4_test_31 rfl rfl ?_
        refine r_aload_n (pc := 32) C (i := 0) dX4_test_32 rfl rfl ?_
        refine r_aload_n (pc := 33) C (i := 1) dX4_test_33 rfl rfl ?_
        refine r_iload_n (pc := 34) C (i := 2) dX4_test_34 rfl rfl ?_
        obtain ⟨q5, hq5, h⟩ := bnd h
        refine r_callS_CL (pc := 35) C [.ref (a 0), .ref (b 0), .int x2] (c_X4_conjunction E l k φ f lo hφ a b q4 T x2 hq5) [0, 1, 2, 3, 4, 5, 6, 7, 8, 9, 10, 11, 12, 13, 14, 15, 16, 17, 18, 19, 20] (hp_X1_read_0 E a b q4 T) (by decide) g_X4_9 hd_X4_conjunction.2 ⟨(by simp only [rm_X4_test, rm_X4_conjunction, rmV]; omega), (by simp only [rm_X4_test, rm_X4_conjunction, rmV]; omega)⟩ ⟨Nat.zero_le _, Nat.zero_le _⟩ (Nat.le_of_ble_eq_true rfl) rfl dX4_test_35 (fun r w1 hw1 => ?_)
        obtain ⟨hr1, hw1⟩ := hw1
        subst hr1 hw1
        refine ⟨(wTk E a q5.2 ++ wFl E b T), by exact (pw_X1_readTenants_0 E a b q4 T q5.2), ?_⟩
        refine r_lor (pc := 38) C dX4_test_38 ?_
        obtain ⟨v6, hv6, h⟩ := lt_e h
        refine r_topl hv6 ?_
        refine r_lstore_n (pc := 39) C (i := 3) dX4_test_39 rfl (by decide) rfl ?_
        refine r_iinc (pc := 40) C (v := (x5 + 1)) dX4_test_40 rfl rfl (by decide) rfl ?_
        refine r_goto (pc := 43) C (tgt := 10) dX4_test_43 rfl ?_
        refine r_weak (lSub_s (lSub_s (lSub_s (lSub_s (lSub_n (lSub_s lSub_e)))))) ?_
        exact ih x2 v6 (x5 + 1) q5.2 q  h hq
def M_X4_test_0 (k : Nat) (φ : (Nat → Nat → Int32) → (Nat → Nat → Int32) → Int32 → Option (Int64 × (Nat → Nat → Int32))) (T : Nat → Nat → Int32) (p0 : Int32) (S : Nat → Nat → Int32) : Option (Int64 × (Nat → Nat → Int32)) := (M_X4_conjunction k φ S T p0).bind fun q7 => M_X4_test_10 k φ T k p0 q7.1 (0 : Int32) q7.2
set_option maxRecDepth 100000 in
set_option maxHeartbeats 4000000 in
theorem N_X4_test_0 (C : CX E p l s m args meth c cX4_test 6 RX4 (some .long) A) (a : Nat → Nat) (b : Nat → Nat) (k : Nat) (φ : (Nat → Nat → Int32) → (Nat → Nat → Int32) → Int32 → Option (Int64 × (Nat → Nat → Int32))) (f lo : Nat) (hφ : ∀ (a : Nat → Nat) (b : Nat → Nat) (S : Nat → Nat → Int32) (T : Nat → Nat → Int32) (p0 : Int32) (q : Int64 × (Nat → Nat → Int32)), φ S T p0 = some q → CL E l yX4_factor cX4_factor 6 (some .long) (rmV f lo) [.ref (a 0), .ref (b 0), .int p0] (wTk E a S ++ wFl E b T) (fun r w' => r = q.1 ∧ w' = wTk E a q.2 ++ wFl E b T)) (T : Nat → Nat → Int32) {post : Int64 → va_W → Prop} :
    ∀ (p0 : Int32) (S : Nat → Nat → Int32) (q : Int64 × (Nat → Nat → Int32)), M_X4_test_0 k φ T p0 S = some q → post q.1 (wTk E a q.2 ++ wFl E b T) →
      WW E p l e (rm_X4_test f lo) s m args below meth c A 0 0 (QL E below post args s (rm_X4_test f lo) A) (wTk E a S ++ wFl E b T) 6 [some (.ref (a 0)), some (.ref (b 0)), some (.int p0), none, none, none] 0 [] := by
  intro p0 S q  h hq
  unfold M_X4_test_0 at h
  refine r_aload_n (pc := 0) C (i := 0) dX4_test_0 rfl rfl ?_
  refine r_aload_n (pc := 1) C (i := 1) dX4_test_1 rfl rfl ?_
  refine r_iload_n (pc := 2) C (i := 2) dX4_test_2 rfl rfl ?_
  obtain ⟨q7, hq7, h⟩ := bnd h
  refine r_callS_CL (pc := 3) C [.ref (a 0), .ref (b 0), .int p0] (c_X4_conjunction E l k φ f lo hφ a b S T p0 hq7) [0, 1, 2, 3, 4, 5, 6, 7, 8, 9, 10, 11, 12, 13, 14, 15, 16, 17, 18, 19, 20] (hp_X1_read_0 E a b S T) (by decide) g_X4_9 hd_X4_conjunction.2 ⟨(by simp only [rm_X4_test, rm_X4_conjunction, rmV]; omega), (by simp only [rm_X4_test, rm_X4_conjunction, rmV]; omega)⟩ ⟨Nat.zero_le _, Nat.zero_le _⟩ (Nat.le_of_ble_eq_true rfl) rfl dX4_test_3 (fun r w1 hw1 => ?_)
  obtain ⟨hr1, hw1⟩ := hw1
  subst hr1 hw1
  refine ⟨(wTk E a q7.2 ++ wFl E b T), by exact (pw_X1_readTenants_0 E a b S T q7.2), ?_⟩
  refine r_lstore_n (pc := 6) C (i := 3) dX4_test_6 rfl (by decide) rfl ?_
  refine r_iconst (pc := 7) C (v := 0) dX4_test_7 (by decide) ?_
  refine r_istore (pc := 8) C (i := 5) dX4_test_8 (by decide) rfl ?_
  refine r_weak (lSub_s (lSub_s (lSub_s (lSub_s (lSub_n (lSub_s lSub_e)))))) ?_
  exact N_X4_test_10 C a b k φ f lo hφ T k p0 q7.1 (0 : Int32) q7.2 q  h hq
def M_X4_test (k : Nat) (φ : (Nat → Nat → Int32) → (Nat → Nat → Int32) → Int32 → Option (Int64 × (Nat → Nat → Int32))) (S : Nat → Nat → Int32) (T : Nat → Nat → Int32) (p0 : Int32) : Option (Int64 × (Nat → Nat → Int32)) := M_X4_test_0 k φ T p0 S
set_option maxRecDepth 100000 in
set_option maxHeartbeats 4000000 in
theorem c_X4_test (E : ENV) (l : Launch) (k : Nat) (φ : (Nat → Nat → Int32) → (Nat → Nat → Int32) → Int32 → Option (Int64 × (Nat → Nat → Int32))) (f lo : Nat) (hφ : ∀ (a : Nat → Nat) (b : Nat → Nat) (S : Nat → Nat → Int32) (T : Nat → Nat → Int32) (p0 : Int32) (q : Int64 × (Nat → Nat → Int32)), φ S T p0 = some q → CL E l yX4_factor cX4_factor 6 (some .long) (rmV f lo) [.ref (a 0), .ref (b 0), .int p0] (wTk E a S ++ wFl E b T) (fun r w' => r = q.1 ∧ w' = wTk E a q.2 ++ wFl E b T)) (a : Nat → Nat) (b : Nat → Nat) (S : Nat → Nat → Int32) (T : Nat → Nat → Int32) (p0 : Int32) {q : Int64 × (Nat → Nat → Int32)} (hm : M_X4_test k φ S T p0 = some q) : CL E l yX4_test cX4_test 6 (some .long) (rm_X4_test f lo) [.ref (a 0), .ref (b 0), .int p0] (wTk E a S ++ wFl E b T) (fun r w' => r = q.1 ∧ w' = (wTk E a q.2 ++ wFl E b T)) :=
  CL.of 3 (by decide) (Nat.le_of_ble_eq_true rfl) (fun p e s m below meth c A C _ => r_weak (lSub_s (lSub_s (lSub_s (lSub_n (lSub_n (lSub_n lSub_e)))))) (N_X4_test_0 C a b k φ f lo hφ T p0 S q  hm ⟨rfl, rfl⟩))
theorem hd_X4_test : yX4_test.cls = RX4 ∧ yX4_test.cls ≠ "java/lang/invoke/MethodHandle" ∧ yX4_test.cls ≠ "java/lang/invoke/VarHandle" ∧ (parseMethodDescriptor yX4_test.desc).map (fun d => d.parameters.length) = some 3 := by decide +kernel
theorem g_X4_49 : GoodIn GW (va_wsS RX4 49 yX4_test (wsG yX4_test cX4_test 6 (some .long))) := gw_S wm_5_156 wm_5_107 wm_1_24 wm_5_108
theorem hd_X4_allRequests : yX4_allRequests.cls = RX4 ∧ yX4_allRequests.cls ≠ "java/lang/invoke/MethodHandle" ∧ yX4_allRequests.cls ≠ "java/lang/invoke/VarHandle" ∧ (parseMethodDescriptor yX4_allRequests.desc).map (fun d => d.parameters.length) = some 1 := by decide +kernel
theorem g_X4_43 : GoodIn GW (va_wsS RX4 43 yX4_allRequests (wsG yX4_allRequests cX4_allRequests 1 (some .long))) := gw_S wm_5_152 wm_5_153 wm_1_24 wm_5_154
theorem g_X4_39 : GoodIn GW (wsV RX4 39 RX7 yX7_fail (wsG yX7_fail cX7_fail 2 none)) := gw_V wm_5_151 wm_3_98 wm_3_99 wm_1_7 wm_3_100
theorem hd_X4_comparison : yX4_comparison.cls = RX4 ∧ yX4_comparison.cls ≠ "java/lang/invoke/MethodHandle" ∧ yX4_comparison.cls ≠ "java/lang/invoke/VarHandle" ∧ (parseMethodDescriptor yX4_comparison.desc).map (fun d => d.parameters.length) = some 2 := by decide +kernel
theorem g_X4_35 : GoodIn GW (va_wsS RX4 35 yX4_comparison (wsG yX4_comparison cX4_comparison 11 (some .long))) := gw_S wm_5_118 wm_5_119 wm_1_24 wm_5_120
-- ShardGuard$QueryText.factor(LShardGuard$Tokens;LShardGuard$Fleet;I)J
theorem dX4_factor_0 : decode cX4_factor 0 = .ok (.aload_n 0, 1) := by decide +kernel
theorem dX4_factor_1 : decode cX4_factor 1 = .ok (.ldc 31, 2) := by decide +kernel
theorem dX4_factor_3 : decode cX4_factor 3 = .ok (.invokevirtual 17, 3) := by decide +kernel
theorem dX4_factor_6 : decode cX4_factor 6 = .ok (.istore_n 3, 1) := by decide +kernel
theorem dX4_factor_7 : decode cX4_factor 7 = .ok (.iload_n 3, 1) := by decide +kernel
theorem dX4_factor_8 : decode cX4_factor 8 = .ok (.ifCond .ne 18, 3) := by decide +kernel
theorem dX4_factor_11 : decode cX4_factor 11 = .ok (.aload_n 0, 1) := by decide +kernel
theorem dX4_factor_12 : decode cX4_factor 12 = .ok (.ldc 33, 2) := by decide +kernel
theorem dX4_factor_14 : decode cX4_factor 14 = .ok (.invokevirtual 17, 3) := by decide +kernel
theorem dX4_factor_17 : decode cX4_factor 17 = .ok (.ifCond .ne 9, 3) := by decide +kernel
theorem dX4_factor_20 : decode cX4_factor 20 = .ok (.aload_n 0, 1) := by decide +kernel
theorem dX4_factor_21 : decode cX4_factor 21 = .ok (.aload_n 1, 1) := by decide +kernel
theorem dX4_factor_22 : decode cX4_factor 22 = .ok (.invokestatic 35, 3) := by decide +kernel
theorem dX4_factor_25 : decode cX4_factor 25 = .ok (.lreturn, 1) := by decide +kernel
theorem dX4_factor_26 : decode cX4_factor 26 = .ok (.iload_n 2, 1) := by decide +kernel
theorem dX4_factor_27 : decode cX4_factor 27 = .ok (.bipush 6, 2) := by decide +kernel
theorem dX4_factor_29 : decode cX4_factor 29 = .ok (.if_icmp .lt 10, 3) := by decide +kernel
theorem dX4_factor_32 : decode cX4_factor 32 = .ok (.aload_n 0, 1) := by decide +kernel
theorem dX4_factor_33 : decode cX4_factor 33 = .ok (.iconst 3, 1) := by decide +kernel
theorem dX4_factor_34 : decode cX4_factor 34 = .ok (.invokevirtual 39, 3) := by decide +kernel
theorem dX4_factor_37 : decode cX4_factor 37 = .ok (.lconst 0, 1) := by decide +kernel
theorem dX4_factor_38 : decode cX4_factor 38 = .ok (.lreturn, 1) := by decide +kernel
theorem dX4_factor_39 : decode cX4_factor 39 = .ok (.aload_n 0, 1) := by decide +kernel
theorem dX4_factor_40 : decode cX4_factor 40 = .ok (.invokevirtual 23, 3) := by decide +kernel
theorem dX4_factor_43 : decode cX4_factor 43 = .ok (.iload_n 3, 1) := by decide +kernel
theorem dX4_factor_44 : decode cX4_factor 44 = .ok (.ifCond .eq 21, 3) := by decide +kernel
theorem dX4_factor_47 : decode cX4_factor 47 = .ok (.aload_n 1, 1) := by decide +kernel
theorem dX4_factor_48 : decode cX4_factor 48 = .ok (.invokestatic 43, 3) := by decide +kernel
theorem dX4_factor_51 : decode cX4_factor 51 = .ok (.aload_n 0, 1) := by decide +kernel
theorem dX4_factor_52 : decode cX4_factor 52 = .ok (.aload_n 1, 1) := by decide +kernel
theorem dX4_factor_53 : decode cX4_factor 53 = .ok (.iload_n 2, 1) := by decide +kernel
theorem dX4_factor_54 : decode cX4_factor 54 = .ok (.iconst 1, 1) := by decide +kernel
theorem dX4_factor_55 : decode cX4_factor 55 = .ok (.iadd, 1) := by decide +kernel
theorem dX4_factor_56 : decode cX4_factor 56 = .ok (.invokestatic 26, 3) := by decide +kernel
theorem dX4_factor_59 : decode cX4_factor 59 = .ok (.ldc2_w 47, 3) := by decide +kernel
theorem dX4_factor_62 : decode cX4_factor 62 = .ok (.lxor, 1) := by decide +kernel
theorem dX4_factor_63 : decode cX4_factor 63 = .ok (.land, 1) := by decide +kernel
theorem dX4_factor_64 : decode cX4_factor 64 = .ok (.lreturn, 1) := by decide +kernel
theorem dX4_factor_65 : decode cX4_factor 65 = .ok (.aload_n 0, 1) := by decide +kernel
theorem dX4_factor_66 : decode cX4_factor 66 = .ok (.aload_n 1, 1) := by decide +kernel
theorem dX4_factor_67 : decode cX4_factor 67 = .ok (.iload_n 2, 1) := by decide +kernel
theorem dX4_factor_68 : decode cX4_factor 68 = .ok (.iconst 1, 1) := by decide +kernel
theorem dX4_factor_69 : decode cX4_factor 69 = .ok (.iadd, 1) := by decide +kernel
theorem dX4_factor_70 : decode cX4_factor 70 = .ok (.invokestatic 49, 3) := by decide +kernel
theorem dX4_factor_73 : decode cX4_factor 73 = .ok (.lstore 4, 2) := by decide +kernel
theorem dX4_factor_75 : decode cX4_factor 75 = .ok (.aload_n 0, 1) := by decide +kernel
theorem dX4_factor_76 : decode cX4_factor 76 = .ok (.ldc 52, 2) := by decide +kernel
theorem dX4_factor_78 : decode cX4_factor 78 = .ok (.invokevirtual 54, 3) := by decide +kernel
theorem dX4_factor_81 : decode cX4_factor 81 = .ok (.lload 4, 2) := by decide +kernel
theorem dX4_factor_83 : decode cX4_factor 83 = .ok (.lreturn, 1) := by decide +kernel
def rm_X4_factor (f lo : Nat) : Room := { frames := 10 + f, cells := 0, slots := 0, locals := 243 + lo }
def M_X4_factor_26 (k : Nat) (φ : (Nat → Nat → Int32) → (Nat → Nat → Int32) → Int32 → Option (Int64 × (Nat → Nat → Int32))) (T : Nat → Nat → Int32) (x2 : Int32) (x3 : Int32) (S : Nat → Nat → Int32) : Option (Int64 × (Nat → Nat → Int32)) := if x2 < (6 : Int32) then ((M_X7_advance k S).bind fun q2 => if x3 = 0 then ((M_X4_test k φ q2 T (x2 + (1 : Int32))).bind fun q4 => (M_X7_take k q4.2 51).bind fun q5 => some (q4.1, q5)) else ((M_X4_allRequests k T).bind fun q6 => (φ q2 T (x2 + (1 : Int32))).bind fun q7 => some ((q6 &&& (q7.1 ^^^ (-1 : Int64))), q7.2))) else ((M_X7_fail k S (3 : Int32)).bind fun q8 => some ((0 : Int64), q8))
set_option maxRecDepth 100000 in
set_option maxHeartbeats 4000000 in
theorem N_X4_factor_26 (C : CX E p l s m args meth c cX4_factor 6 RX4 (some .long) A) (a : Nat → Nat) (b : Nat → Nat) (k : Nat) (φ : (Nat → Nat → Int32) → (Nat → Nat → Int32) → Int32 → Option (Int64 × (Nat → Nat → Int32))) (f lo : Nat) (hφ : ∀ (a : Nat → Nat) (b : Nat → Nat) (S : Nat → Nat → Int32) (T : Nat → Nat → Int32) (p0 : Int32) (q : Int64 × (Nat → Nat → Int32)), φ S T p0 = some q → CL E l yX4_factor cX4_factor 6 (some .long) (rmV f lo) [.ref (a 0), .ref (b 0), .int p0] (wTk E a S ++ wFl E b T) (fun r w' => r = q.1 ∧ w' = wTk E a q.2 ++ wFl E b T)) (T : Nat → Nat → Int32) {post : Int64 → va_W → Prop} :
    ∀ (x2 : Int32) (x3 : Int32) (S : Nat → Nat → Int32) (q : Int64 × (Nat → Nat → Int32)), M_X4_factor_26 k φ T x2 x3 S = some q → post q.1 (wTk E a q.2 ++ wFl E b T) →
      WW E p l e (rm_X4_factor f lo) s m args below meth c A 0 0 (QL E below post args s (rm_X4_factor f lo) A) (wTk E a S ++ wFl E b T) 6 [some (.ref (a 0)), some (.ref (b 0)), some (.int x2), some (.int x3), none, none] 26 [] := by
  intro x2 x3 S q  h hq
  unfold M_X4_factor_26 at h
  refine r_iload_n (pc := 26) C (i := 2) dX4_factor_26 rfl rfl ?_
  refine r_bipush (pc := 27) C (v := 6) dX4_factor_27 (by decide) ?_
  refine r_icmp_lt (pc := 29) C (tgt := 39) dX4_factor_29 rfl (fun c1 => ?_) (fun c1 => ?_)
  · rw [if_pos c1] at h
    refine r_aload_n (pc := 39) C (i := 0) dX4_factor_39 rfl rfl ?_
    obtain ⟨q2, hq2, h⟩ := bnd h
    refine r_callV_CV (Cn := RX7) (pc := 40) C [] (c_X7_advance E l k a S hq2) [0, 1, 2] (hp_X1_readWorkers_0 E a b S T) (by decide) 0 rfl rfl rfl g_X4_23 hd_X7_advance ⟨(by simp only [rm_X4_factor, rm_X7_advance, rmV]; omega), (by simp only [rm_X4_factor, rm_X7_advance, rmV]; omega)⟩ ⟨Nat.zero_le _, Nat.zero_le _⟩ (Nat.le_of_ble_eq_true rfl) rfl dX4_factor_40 (fun w1 hw1 => ?_)
    subst hw1
    refine ⟨(wTk E a q2 ++ wFl E b T), by exact (pw_X1_readWorkers_0 E a b S T q2), ?_⟩
    refine r_iload_n (pc := 43) C (i := 3) dX4_factor_43 rfl rfl ?_
    refine r_if_eq (pc := 44) C (tgt := 65) dX4_factor_44 rfl (fun c3 => ?_) (fun c3 => ?_)
    · rw [if_pos c3] at h
      refine r_aload_n (pc := 65) C (i := 0) dX4_factor_65 rfl rfl ?_
      refine r_aload_n (pc := 66) C (i := 1) dX4_factor_66 rfl rfl ?_
      refine r_iload_n (pc := 67) C (i := 2) dX4_factor_67 rfl rfl ?_
      refine r_iconst (pc := 68) C (v := 1) dX4_factor_68 (by decide) ?_
      refine r_iadd (pc := 69) C dX4_factor_69 ?_
      obtain ⟨q4, hq4, h⟩ := bnd h
      refine r_callS_CL (pc := 70) C [.ref (a 0), .ref (b 0), .int (x2 + (1 : Int32))] (c_X4_test E l k φ f lo hφ a b q2 T (x2 + (1 : Int32)) hq4) [0, 1, 2, 3, 4, 5, 6, 7, 8, 9, 10, 11, 12, 13, 14, 15, 16, 17, 18, 19, 20] (hp_X1_read_0 E a b q2 T) (by decide) g_X4_49 hd_X4_test.2 ⟨(by simp only [rm_X4_factor, rm_X4_test, rmV]; omega), (by simp only [rm_X4_factor, rm_X4_test, rmV]; omega)⟩ ⟨Nat.zero_le _, Nat.zero_le _⟩ (Nat.le_of_ble_eq_true rfl) rfl dX4_factor_70 (fun r w1 hw1 => ?_)
      obtain ⟨hr1, hw1⟩ := hw1
      subst hr1 hw1
      refine ⟨(wTk E a q4.2 ++ wFl E b T), by exact (pw_X1_readTenants_0 E a b q2 T q4.2), ?_⟩
      refine r_lstore (pc := 73) C (i := 4) dX4_factor_73 (by decide) rfl ?_
      refine r_aload_n (pc := 75) C (i := 0) dX4_factor_75 rfl rfl ?_
      refine r_ldcS (pc := 76) C 51 rfl dX4_factor_76 ?_
      obtain ⟨q5, hq5, h⟩ := bnd h
      refine r_callV_CV (Cn := RX7) (pc := 78) C [.ref (eS E 51)] (c_X7_take E l k a q4.2 51 (by decide) hq5) [0, 1, 2] (hp_X1_readWorkers_0 E a b q4.2 T) (by decide) 0 rfl rfl rfl g_X4_54 hd_X7_take ⟨(by simp only [rm_X4_factor, rm_X7_take, rmV]; omega), (by simp only [rm_X4_factor, rm_X7_take, rmV]; omega)⟩ ⟨Nat.zero_le _, Nat.zero_le _⟩ (Nat.le_of_ble_eq_true rfl) rfl dX4_factor_78 (fun w1 hw1 => ?_)
      subst hw1
      refine ⟨(wTk E a q5 ++ wFl E b T), by exact (pw_X1_readWorkers_0 E a b q4.2 T q5), ?_⟩
      refine r_lload (pc := 81) C (i := 4) dX4_factor_81 rfl ?_
      cases h
      exact r_lret (pc := 83) C hq (Nat.zero_le _) (Nat.zero_le _) dX4_factor_83
    · rw [if_neg c3] at h
      refine r_aload_n (pc := 47) C (i := 1) dX4_factor_47 rfl rfl ?_
      obtain ⟨q6, hq6, h⟩ := bnd h
      refine r_callSp_CL (pc := 48) C [.ref (b 0)] (c_X4_allRequests E l k b T hq6) [3, 4, 5, 6, 7, 8, 9, 10, 11, 12, 13, 14, 15, 16, 17, 18, 19, 20] (hp_X1_readWorkers_1 E a b q2 T) (by decide) g_X4_43 hd_X4_allRequests.2 ⟨(by simp only [rm_X4_factor, rm_X4_allRequests, rmV]; omega), (by simp only [rm_X4_factor, rm_X4_allRequests, rmV]; omega)⟩ ⟨Nat.zero_le _, Nat.zero_le _⟩ (Nat.le_of_ble_eq_true rfl) rfl dX4_factor_48 (fun r hr => ?_)
      have hr := hr.symm
      subst hr
      refine r_aload_n (pc := 51) C (i := 0) dX4_factor_51 rfl rfl ?_
      refine r_aload_n (pc := 52) C (i := 1) dX4_factor_52 rfl rfl ?_
      refine r_iload_n (pc := 53) C (i := 2) dX4_factor_53 rfl rfl ?_
      refine r_iconst (pc := 54) C (v := 1) dX4_factor_54 (by decide) ?_
      refine r_iadd (pc := 55) C dX4_factor_55 ?_
      obtain ⟨q7, hq7, h⟩ := bnd h
      refine r_callS_CL (pc := 56) C [.ref (a 0), .ref (b 0), .int (x2 + (1 : Int32))] (hφ a b q2 T (x2 + (1 : Int32)) _ hq7) [0, 1, 2, 3, 4, 5, 6, 7, 8, 9, 10, 11, 12, 13, 14, 15, 16, 17, 18, 19, 20] (hp_X1_read_0 E a b q2 T) (by decide) g_X4_26 hd_X4_factor.2 ⟨(by simp only [rm_X4_factor, rmV]; omega), (by simp only [rm_X4_factor, rmV]; omega)⟩ ⟨Nat.zero_le _, Nat.zero_le _⟩ (Nat.le_of_ble_eq_true rfl) rfl dX4_factor_56 (fun r w1 hw1 => ?_)
      obtain ⟨hr1, hw1⟩ := hw1
      subst hr1 hw1
      refine ⟨(wTk E a q7.2 ++ wFl E b T), by exact (pw_X1_readTenants_0 E a b q2 T q7.2), ?_⟩
      refine r_ldc2 (pc := 59) C (v := -1) wm_5_155 dX4_factor_59 ?_
      refine r_lxor (pc := 62) C dX4_factor_62 ?_
      refine r_land (pc := 63) C dX4_factor_63 ?_
      have h := Option.some.inj h
      subst h
      exact r_lret (pc := 64) C hq (Nat.zero_le _) (Nat.zero_le _) dX4_factor_64
  · rw [if_neg c1] at h
    refine r_aload_n (pc := 32) C (i := 0) dX4_factor_32 rfl rfl ?_
    refine r_iconst (pc := 33) C (v := 3) dX4_factor_33 (by decide) ?_
    obtain ⟨q8, hq8, h⟩ := bnd h
    refine r_callV_CV (Cn := RX7) (pc := 34) C [.int (3 : Int32)] (c_X7_fail E l k a S (3 : Int32) hq8) [0, 1, 2] (hp_X1_readWorkers_0 E a b S T) (by decide) 0 rfl rfl rfl g_X4_39 hd_X7_fail ⟨(by simp only [rm_X4_factor, rm_X7_fail, rmV]; omega), (by simp only [rm_X4_factor, rm_X7_fail, rmV]; omega)⟩ ⟨Nat.zero_le _, Nat.zero_le _⟩ (Nat.le_of_ble_eq_true rfl) rfl dX4_factor_34 (fun w1 hw1 => ?_)
    subst hw1
    refine ⟨(wTk E a q8 ++ wFl E b T), by exact (pw_X1_readWorkers_0 E a b S T q8), ?_⟩
    refine r_lconst (pc := 37) C (v := 0) dX4_factor_37 (by decide) ?_
    cases h
    exact r_lret (pc := 38) C hq (Nat.zero_le _) (Nat.zero_le _) dX4_factor_38
def M_X4_factor_0 (k : Nat) (φ : (Nat → Nat → Int32) → (Nat → Nat → Int32) → Int32 → Option (Int64 × (Nat → Nat → Int32))) (T : Nat → Nat → Int32) (p0 : Int32) (S : Nat → Nat → Int32) : Option (Int64 × (Nat → Nat → Int32)) := (M_X7_is k S 37).bind fun q9 => if q9 = 0 then ((M_X7_is k S 38).bind fun q11 => if q11 = 0 then ((M_X4_comparison k S T).bind fun q13 => some (q13.1, q13.2)) else (M_X4_factor_26 k φ T p0 q9 S)) else (M_X4_factor_26 k φ T p0 q9 S)
set_option maxRecDepth 100000 in
set_option maxHeartbeats 4000000 in
theorem N_X4_factor_0 (C : CX E p l s m args meth c cX4_factor 6 RX4 (some .long) A) (a : Nat → Nat) (b : Nat → Nat) (k : Nat) (φ : (Nat → Nat → Int32) → (Nat → Nat → Int32) → Int32 → Option (Int64 × (Nat → Nat → Int32))) (f lo : Nat) (hφ : ∀ (a : Nat → Nat) (b : Nat → Nat) (S : Nat → Nat → Int32) (T : Nat → Nat → Int32) (p0 : Int32) (q : Int64 × (Nat → Nat → Int32)), φ S T p0 = some q → CL E l yX4_factor cX4_factor 6 (some .long) (rmV f lo) [.ref (a 0), .ref (b 0), .int p0] (wTk E a S ++ wFl E b T) (fun r w' => r = q.1 ∧ w' = wTk E a q.2 ++ wFl E b T)) (T : Nat → Nat → Int32) {post : Int64 → va_W → Prop} :
    ∀ (p0 : Int32) (S : Nat → Nat → Int32) (q : Int64 × (Nat → Nat → Int32)), M_X4_factor_0 k φ T p0 S = some q → post q.1 (wTk E a q.2 ++ wFl E b T) →
      WW E p l e (rm_X4_factor f lo) s m args below meth c A 0 0 (QL E below post args s (rm_X4_factor f lo) A) (wTk E a S ++ wFl E b T) 6 [some (.ref (a 0)), some (.ref (b 0)), some (.int p0), none, none, none] 0 [] := by
  intro p0 S q  h hq
  unfold M_X4_factor_0 at h
  refine r_aload_n (pc := 0) C (i := 0) dX4_factor_0 rfl rfl ?_
  refine r_ldcS (pc := 1) C 37 rfl dX4_factor_1 ?_
  obtain ⟨q9, hq9, h⟩ := bnd h
  refine r_callVp_CI (Cn := RX7) (pc := 3) C [.ref (eS E 37)] (c_X7_is E l k a S 37 (by decide) hq9) [0, 1, 2] (hp_X1_readWorkers_0 E a b S T) (by decide) 0 rfl rfl rfl g_X4_17 hd_X7_is ⟨(by simp only [rm_X4_factor, rm_X7_is, rmV]; omega), (by simp only [rm_X4_factor, rm_X7_is, rmV]; omega)⟩ ⟨Nat.zero_le _, Nat.zero_le _⟩ (Nat.le_of_ble_eq_true rfl) rfl dX4_factor_3 (fun r hr => ?_)
  have hr := hr.symm
  subst hr
  refine r_istore_n (pc := 6) C (i := 3) dX4_factor_6 rfl (by decide) rfl ?_
  refine r_iload_n (pc := 7) C (i := 3) dX4_factor_7 rfl rfl ?_
  refine r_if_ne (pc := 8) C (tgt := 26) dX4_factor_8 rfl (fun c10 => ?_) (fun c10 => ?_)
  · rw [if_neg c10] at h
    refine r_weak (lSub_s (lSub_s (lSub_s (lSub_s (lSub_n (lSub_n lSub_e)))))) ?_
    exact N_X4_factor_26 C a b k φ f lo hφ T p0 q9 S q  h hq
  · rw [if_pos c10] at h
    refine r_aload_n (pc := 11) C (i := 0) dX4_factor_11 rfl rfl ?_
    refine r_ldcS (pc := 12) C 38 rfl dX4_factor_12 ?_
    obtain ⟨q11, hq11, h⟩ := bnd h
    refine r_callVp_CI (Cn := RX7) (pc := 14) C [.ref (eS E 38)] (c_X7_is E l k a S 38 (by decide) hq11) [0, 1, 2] (hp_X1_readWorkers_0 E a b S T) (by decide) 0 rfl rfl rfl g_X4_17 hd_X7_is ⟨(by simp only [rm_X4_factor, rm_X7_is, rmV]; omega), (by simp only [rm_X4_factor, rm_X7_is, rmV]; omega)⟩ ⟨Nat.zero_le _, Nat.zero_le _⟩ (Nat.le_of_ble_eq_true rfl) rfl dX4_factor_14 (fun r hr => ?_)
    have hr := hr.symm
    subst hr
    refine r_if_ne (pc := 17) C (tgt := 26) dX4_factor_17 rfl (fun c12 => ?_) (fun c12 => ?_)
    · rw [if_neg c12] at h
      refine r_weak (lSub_s (lSub_s (lSub_s (lSub_s (lSub_n (lSub_n lSub_e)))))) ?_
      exact N_X4_factor_26 C a b k φ f lo hφ T p0 q9 S q  h hq
    · rw [if_pos c12] at h
      refine r_aload_n (pc := 20) C (i := 0) dX4_factor_20 rfl rfl ?_
      refine r_aload_n (pc := 21) C (i := 1) dX4_factor_21 rfl rfl ?_
      obtain ⟨q13, hq13, h⟩ := bnd h
      refine r_callS_CL (pc := 22) C [.ref (a 0), .ref (b 0)] (c_X4_comparison E l k a b S T hq13) [0, 1, 2, 3, 4, 5, 6, 7, 8, 9, 10, 11, 12, 13, 14, 15, 16, 17, 18, 19, 20] (hp_X1_read_0 E a b S T) (by decide) g_X4_35 hd_X4_comparison.2 ⟨(by simp only [rm_X4_factor, rm_X4_comparison, rmV]; omega), (by simp only [rm_X4_factor, rm_X4_comparison, rmV]; omega)⟩ ⟨Nat.zero_le _, Nat.zero_le _⟩ (Nat.le_of_ble_eq_true rfl) rfl dX4_factor_22 (fun r w1 hw1 => ?_)
      obtain ⟨hr1, hw1⟩ := hw1
      subst hr1 hw1
      refine ⟨(wTk E a q13.2 ++ wFl E b T), by exact (pw_X1_readTenants_0 E a b S T q13.2), ?_⟩
      cases h
      exact r_lret (pc := 25) C hq (Nat.zero_le _) (Nat.zero_le _) dX4_factor_25
def M_X4_factor (k : Nat) (φ : (Nat → Nat → Int32) → (Nat → Nat → Int32) → Int32 → Option (Int64 × (Nat → Nat → Int32))) (S : Nat → Nat → Int32) (T : Nat → Nat → Int32) (p0 : Int32) : Option (Int64 × (Nat → Nat → Int32)) := M_X4_factor_0 k φ T p0 S
set_option maxRecDepth 100000 in
set_option maxHeartbeats 4000000 in
theorem c_X4_factor (E : ENV) (l : Launch) (k : Nat) (φ : (Nat → Nat → Int32) → (Nat → Nat → Int32) → Int32 → Option (Int64 × (Nat → Nat → Int32))) (f lo : Nat) (hφ : ∀ (a : Nat → Nat) (b : Nat → Nat) (S : Nat → Nat → Int32) (T : Nat → Nat → Int32) (p0 : Int32) (q : Int64 × (Nat → Nat → Int32)), φ S T p0 = some q → CL E l yX4_factor cX4_factor 6 (some .long) (rmV f lo) [.ref (a 0), .ref (b 0), .int p0] (wTk E a S ++ wFl E b T) (fun r w' => r = q.1 ∧ w' = wTk E a q.2 ++ wFl E b T)) (a : Nat → Nat) (b : Nat → Nat) (S : Nat → Nat → Int32) (T : Nat → Nat → Int32) (p0 : Int32) {q : Int64 × (Nat → Nat → Int32)} (hm : M_X4_factor k φ S T p0 = some q) : CL E l yX4_factor cX4_factor 6 (some .long) (rm_X4_factor f lo) [.ref (a 0), .ref (b 0), .int p0] (wTk E a S ++ wFl E b T) (fun r w' => r = q.1 ∧ w' = (wTk E a q.2 ++ wFl E b T)) :=
  CL.of 3 (by decide) (Nat.le_of_ble_eq_true rfl) (fun p e s m below meth c A C _ => r_weak (lSub_s (lSub_s (lSub_s (lSub_n (lSub_n (lSub_n lSub_e)))))) (N_X4_factor_0 C a b k φ f lo hφ T p0 S q  hm ⟨rfl, rfl⟩))
end WALKS
