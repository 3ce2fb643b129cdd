def rmV (f lo : Nat) : Room := { frames := f, cells := 0, slots := 0, locals := lo }
section WALKS
variable {E : ENV} {p : Program} {l : Launch} {e : Env} {s : State} {m : MethodId} {args : Array Value} {below : List Frame} {meth : Method} {c : Code} {A : Nat → Prop}
theorem hd_X4_factor : yX4_factor.cls = RX4 ∧ yX4_factor.cls ≠ "java/lang/invoke/MethodHandle" ∧ yX4_factor.cls ≠ "java/lang/invoke/VarHandle" ∧ (parseMethodDescriptor yX4_factor.desc).map (fun d => d.parameters.length) = some 3 := by decide +kernel
theorem g_X4_9 : GoodIn GW (va_wsS RX4 9 yX4_factor (wsG yX4_factor cX4_factor 6 (some .long))) := gw_S wm_5_109 wm_5_110 wm_1_24 wm_5_111
-- ShardGuard$QueryText.test(LShardGuard$Tokens;LShardGuard$Fleet;I)J
theorem dX4_test_0 : decode cX4_test 0 = .ok (.lconst 0, 1) := by decide +kernel
theorem dX4_test_1 : decode cX4_test 1 = .ok (.lstore_n 3, 1) := by decide +kernel
theorem dX4_test_2 : decode cX4_test 2 = .ok (.aload_n 0, 1) := by decide +kernel
theorem dX4_test_3 : decode cX4_test 3 = .ok (.aload_n 1, 1) := by decide +kernel
theorem dX4_test_4 : decode cX4_test 4 = .ok (.iload_n 2, 1) := by decide +kernel
theorem dX4_test_5 : decode cX4_test 5 = .ok (.invokestatic 9, 3) := by decide +kernel
theorem dX4_test_8 : decode cX4_test 8 = .ok (.lstore 5, 2) := by decide +kernel
theorem dX4_test_10 : decode cX4_test 10 = .ok (.aload_n 0, 1) := by decide +kernel
theorem dX4_test_11 : decode cX4_test 11 = .ok (.ldc 15, 2) := by decide +kernel
theorem dX4_test_13 : decode cX4_test 13 = .ok (.invokevirtual 17, 3) := by decide +kernel
theorem dX4_test_16 : decode cX4_test 16 = .ok (.istore 7, 2) := by decide +kernel
theorem dX4_test_18 : decode cX4_test 18 = .ok (.iconst 0, 1) := by decide +kernel
theorem dX4_test_19 : decode cX4_test 19 = .ok (.istore 8, 2) := by decide +kernel
theorem dX4_test_21 : decode cX4_test 21 = .ok (.iload 8, 2) := by decide +kernel
theorem dX4_test_23 : decode cX4_test 23 = .ok (.sipush 200, 3) := by decide +kernel
theorem dX4_test_26 : decode cX4_test 26 = .ok (.if_icmp .ge 74, 3) := by decide +kernel
theorem dX4_test_29 : decode cX4_test 29 = .ok (.iload 7, 2) := by decide +kernel
theorem dX4_test_31 : decode cX4_test 31 = .ok (.ifCond .ne 12, 3) := by decide +kernel
theorem dX4_test_34 : decode cX4_test 34 = .ok (.aload_n 0, 1) := by decide +kernel
theorem dX4_test_35 : decode cX4_test 35 = .ok (.ldc 23, 2) := by decide +kernel
theorem dX4_test_37 : decode cX4_test 37 = .ok (.invokevirtual 17, 3) := by decide +kernel
theorem dX4_test_40 : decode cX4_test 40 = .ok (.ifCond .eq 60, 3) := by decide +kernel
theorem dX4_test_43 : decode cX4_test 43 = .ok (.aload_n 0, 1) := by decide +kernel
theorem dX4_test_44 : decode cX4_test 44 = .ok (.invokevirtual 25, 3) := by decide +kernel
theorem dX4_test_47 : decode cX4_test 47 = .ok (.aload_n 0, 1) := by decide +kernel
theorem dX4_test_48 : decode cX4_test 48 = .ok (.aload_n 1, 1) := by decide +kernel
theorem dX4_test_49 : decode cX4_test 49 = .ok (.iload_n 2, 1) := by decide +kernel
theorem dX4_test_50 : decode cX4_test 50 = .ok (.invokestatic 9, 3) := by decide +kernel
theorem dX4_test_53 : decode cX4_test 53 = .ok (.lstore 9, 2) := by decide +kernel
theorem dX4_test_55 : decode cX4_test 55 = .ok (.iload 7, 2) := by decide +kernel
theorem dX4_test_57 : decode cX4_test 57 = .ok (.ifCond .eq 10, 3) := by decide +kernel
theorem dX4_test_60 : decode cX4_test 60 = .ok (.lload_n 3, 1) := by decide +kernel
theorem dX4_test_61 : decode cX4_test 61 = .ok (.lload 5, 2) := by decide +kernel
theorem dX4_test_63 : decode cX4_test 63 = .ok (.lor, 1) := by decide +kernel
theorem dX4_test_64 : decode cX4_test 64 = .ok (.goto 4, 3) := by decide +kernel
theorem dX4_test_67 : decode cX4_test 67 = .ok (.lload_n 3, 1) := by decide +kernel
theorem dX4_test_68 : decode cX4_test 68 = .ok (.lstore_n 3, 1) := by decide +kernel
theorem dX4_test_69 : decode cX4_test 69 = .ok (.iload 7, 2) := by decide +kernel
theorem dX4_test_71 : decode cX4_test 71 = .ok (.ifCond .eq 8, 3) := by decide +kernel
theorem dX4_test_74 : decode cX4_test 74 = .ok (.lload 9, 2) := by decide +kernel
theorem dX4_test_76 : decode cX4_test 76 = .ok (.goto 8, 3) := by decide +kernel
theorem dX4_test_79 : decode cX4_test 79 = .ok (.lload 5, 2) := by decide +kernel
theorem dX4_test_81 : decode cX4_test 81 = .ok (.lload 9, 2) := by decide +kernel
theorem dX4_test_83 : decode cX4_test 83 = .ok (.land, 1) := by decide +kernel
theorem dX4_test_84 : decode cX4_test 84 = .ok (.lstore 5, 2) := by decide +kernel
theorem dX4_test_86 : decode cX4_test 86 = .ok (.aload_n 0, 1) := by decide +kernel
theorem dX4_test_87 : decode cX4_test 87 = .ok (.ldc 15, 2) := by decide +kernel
theorem dX4_test_89 : decode cX4_test 89 = .ok (.invokevirtual 17, 3) := by decide +kernel
theorem dX4_test_92 : decode cX4_test 92 = .ok (.istore 7, 2) := by decide +kernel
theorem dX4_test_94 : decode cX4_test 94 = .ok (.iinc 8 1, 3) := by decide +kernel
theorem dX4_test_97 : decode cX4_test 97 = .ok (.goto (-76), 3) := by decide +kernel
theorem dX4_test_100 : decode cX4_test 100 = .ok (.lload_n 3, 1) := by decide +kernel
theorem dX4_test_101 : decode cX4_test 101 = .ok (.lload 5, 2) := by decide +kernel
theorem dX4_test_103 : decode cX4_test 103 = .ok (.lor, 1) := by decide +kernel
theorem dX4_test_104 : decode cX4_test 104 = .ok (.lreturn, 1) := by decide +kernel
def rm_X4_test (f lo : Nat) : Room := { frames := 7 + f, cells := 0, slots := 0, locals := 172 + lo }
def M_X4_test_68 (k : Nat) (φ : (Nat → Nat → Int32) → (Nat → Nat → Int32) → Int32 → Option (Int64 × (Nat → Nat → Int32))) (T : Nat → Nat → Int32) (κ21 : Int32 → Int64 → Int64 → Int32 → Int32 → (Nat → Nat → Int32) → Option (Int64 × (Nat → Nat → Int32))) (x2 : Int32) (z5 : Int64) (x7 : Int32) (x8 : Int32) (z9 : Int64) (y0 : Int64) (S : Nat → Nat → Int32) : Option (Int64 × (Nat → Nat → Int32)) := if x7 = 0 then (lt (z5 &&& z9) fun v2 => (M_X7_is k S 53).bind fun q3 => κ21 x2 y0 v2 q3 (x8 + 1) S) else ((M_X7_is k S 53).bind fun q4 => κ21 x2 y0 z9 q4 (x8 + 1) S)
set_option maxRecDepth 100000 in
set_option maxHeartbeats 4000000 in
theorem N_X4_test_68 (C : CX E p l s m args meth c cX4_test 11 RX4 (some .long) A) (a : Nat → Nat) (b : Nat → Nat) (k : Nat) (φ : (Nat → Nat → Int32) → (Nat → Nat → Int32) → Int32 → Option (Int64 × (Nat → Nat → Int32))) (f lo : Nat) (hφ : ∀ (a : Nat → Nat) (b : Nat → Nat) (S : Nat → Nat → Int32) (T : Nat → Nat → Int32) (p0 : Int32) (q : Int64 × (Nat → Nat → Int32)), φ S T p0 = some q → CL E l yX4_factor cX4_factor 6 (some .long) (rmV f lo) [.ref (a 0), .ref (b 0), .int p0] (wTk E a S ++ wFl E b T) (fun r w' => r = q.1 ∧ w' = wTk E a q.2 ++ wFl E b T)) (T : Nat → Nat → Int32) {post : Int64 → va_W → Prop} (κ21 : Int32 → Int64 → Int64 → Int32 → Int32 → (Nat → Nat → Int32) → Option (Int64 × (Nat → Nat → Int32))) (hκ21 : ∀ (x2 : Int32) (z3 : Int64) (z5 : Int64) (x7 : Int32) (x8 : Int32) (S : Nat → Nat → Int32) (q : Int64 × (Nat → Nat → Int32)), κ21 x2 z3 z5 x7 x8 S = some q → post q.1 (wTk E a q.2 ++ wFl E b T) → WW E p l e (rm_X4_test f lo) s m args below meth c A 0 0 (QL E below post args s (rm_X4_test f lo) A) (wTk E a S ++ wFl E b T) 11 [some (.ref (a 0)), some (.ref (b 0)), some (.int x2), some (.long z3), none, some (.long z5), none, some (.int x7), some (.int x8), none, none] 21 []) :
    ∀ (x2 : Int32) (z5 : Int64) (x7 : Int32) (x8 : Int32) (z9 : Int64) (y0 : Int64) (S : Nat → Nat → Int32) (q : Int64 × (Nat → Nat → Int32)), M_X4_test_68 k φ T κ21 x2 z5 x7 x8 z9 y0 S = some q → post q.1 (wTk E a q.2 ++ wFl E b T) →
      WW E p l e (rm_X4_test f lo) s m args below meth c A 0 0 (QL E below post args s (rm_X4_test f lo) A) (wTk E a S ++ wFl E b T) 11 [some (.ref (a 0)), some (.ref (b 0)), some (.int x2), none, none, some (.long z5), none, some (.int x7), some (.int x8), some (.long z9), none] 68 [.long y0] := by
  intro x2 z5 x7 x8 z9 y0 S q  h hq
  unfold M_X4_test_68 at h
  refine r_lstore_n (pc := 68) C (i := 3) dX4_test_68 rfl (by decide) rfl ?_
  refine r_iload (pc := 69) C (i := 7) dX4_test_69 rfl ?_
  refine r_if_eq (pc := 71) C (tgt := 79) dX4_test_71 rfl (fun c1 => ?_) (fun c1 => ?_)
  · rw [if_pos c1] at h
    refine r_lload (pc := 79) C (i := 5) dX4_test_79 rfl ?_
    refine r_lload (pc := 81) C (i := 9) dX4_test_81 rfl ?_
    refine r_land (pc := 83) C dX4_test_83 ?_
    obtain ⟨v2, hv2, h⟩ := lt_e h
    refine r_topl hv2 ?_
    refine r_lstore (pc := 84) C (i := 5) dX4_test_84 (by decide) rfl ?_
    refine r_aload_n (pc := 86) C (i := 0) dX4_test_86 rfl rfl ?_
    refine r_ldcS (pc := 87) C 53 rfl dX4_test_87 ?_
    obtain ⟨q3, hq3, h⟩ := bnd h
    refine r_callVp_CI (Cn := RX7) (pc := 89) C [.ref (eS E 53)] (c_X7_is E l k a S 53 (by decide) hq3) [0, 1, 2] (hp_X1_readWorkers_0 E a b S T) (by decide) 0 rfl rfl rfl g_X4_17 hd_X7_is ⟨(by simp only [rm_X4_test, rm_X7_is, rmV]; omega), (by simp only [rm_X4_test, rm_X7_is, rmV]; omega)⟩ ⟨Nat.zero_le _, Nat.zero_le _⟩ (Nat.le_of_ble_eq_true rfl) rfl dX4_test_89 (fun r hr => ?_)
    have hr := hr.symm
    subst hr
    refine r_istore (pc := 92) C (i := 7) dX4_test_92 (by decide) rfl ?_
    refine r_iinc (pc := 94) C (v := (x8 + 1)) dX4_test_94 rfl rfl (by decide) rfl ?_
    refine r_goto (pc := 97) C (tgt := 21) dX4_test_97 rfl ?_
    refine r_weak (lSub_s (lSub_s (lSub_s (lSub_s (lSub_n (lSub_s (lSub_n (lSub_s (lSub_s (lSub_n (lSub_n lSub_e))))))))))) ?_
    exact hκ21 x2 y0 v2 q3 (x8 + 1) S q  h hq
  · rw [if_neg c1] at h
    refine r_lload (pc := 74) C (i := 9) dX4_test_74 rfl ?_
    refine r_goto (pc := 76) C (tgt := 84) dX4_test_76 rfl ?_
    refine r_lstore (pc := 84) C (i := 5) dX4_test_84 (by decide) rfl ?_
    refine r_aload_n (pc := 86) C (i := 0) dX4_test_86 rfl rfl ?_
    refine r_ldcS (pc := 87) C 53 rfl dX4_test_87 ?_
    obtain ⟨q4, hq4, h⟩ := bnd h
    refine r_callVp_CI (Cn := RX7) (pc := 89) C [.ref (eS E 53)] (c_X7_is E l k a S 53 (by decide) hq4) [0, 1, 2] (hp_X1_readWorkers_0 E a b S T) (by decide) 0 rfl rfl rfl g_X4_17 hd_X7_is ⟨(by simp only [rm_X4_test, rm_X7_is, rmV]; omega), (by simp only [rm_X4_test, rm_X7_is, rmV]; omega)⟩ ⟨Nat.zero_le _, Nat.zero_le _⟩ (Nat.le_of_ble_eq_true rfl) rfl dX4_test_89 (fun r hr => ?_)
    have hr := hr.symm
    subst hr
    refine r_istore (pc := 92) C (i := 7) dX4_test_92 (by decide) rfl ?_
    refine r_iinc (pc := 94) C (v := (x8 + 1)) dX4_test_94 rfl rfl (by decide) rfl ?_
    refine r_goto (pc := 97) C (tgt := 21) dX4_test_97 rfl ?_
    refine r_weak (lSub_s (lSub_s (lSub_s (lSub_s (lSub_n (lSub_s (lSub_n (lSub_s (lSub_s (lSub_n (lSub_n lSub_e))))))))))) ?_
    exact hκ21 x2 y0 z9 q4 (x8 + 1) S q  h hq
def M_X4_test_43 (k : Nat) (φ : (Nat → Nat → Int32) → (Nat → Nat → Int32) → Int32 → Option (Int64 × (Nat → Nat → Int32))) (T : Nat → Nat → Int32) (κ21 : Int32 → Int64 → Int64 → Int32 → Int32 → (Nat → Nat → Int32) → Option (Int64 × (Nat → Nat → Int32))) (x2 : Int32) (z3 : Int64) (z5 : Int64) (x7 : Int32) (x8 : Int32) (S : Nat → Nat → Int32) : Option (Int64 × (Nat → Nat → Int32)) := (M_X7_advance k S).bind fun q5 => (φ q5 T x2).bind fun q6 => if x7 = 0 then (M_X4_test_68 k φ T κ21 x2 z5 x7 x8 q6.1 z3 q6.2) else (M_X4_test_68 k φ T κ21 x2 z5 x7 x8 q6.1 (z3 ||| z5) q6.2)
set_option maxRecDepth 100000 in
set_option maxHeartbeats 4000000 in
theorem N_X4_test_43 (C : CX E p l s m args meth c cX4_test 11 RX4 (some .long) A) (a : Nat → Nat) (b : Nat → Nat) (k : Nat) (φ : (Nat → Nat → Int32) → (Nat → Nat → Int32) → Int32 → Option (Int64 × (Nat → Nat → Int32))) (f lo : Nat) (hφ : ∀ (a : Nat → Nat) (b : Nat → Nat) (S : Nat → Nat → Int32) (T : Nat → Nat → Int32) (p0 : Int32) (q : Int64 × (Nat → Nat → Int32)), φ S T p0 = some q → CL E l yX4_factor cX4_factor 6 (some .long) (rmV f lo) [.ref (a 0), .ref (b 0), .int p0] (wTk E a S ++ wFl E b T) (fun r w' => r = q.1 ∧ w' = wTk E a q.2 ++ wFl E b T)) (T : Nat → Nat → Int32) {post : Int64 → va_W → Prop} (κ21 : Int32 → Int64 → Int64 → Int32 → Int32 → (Nat → Nat → Int32) → Option (Int64 × (Nat → Nat → Int32))) (hκ21 : ∀ (x2 : Int32) (z3 : Int64) (z5 : Int64) (x7 : Int32) (x8 : Int32) (S : Nat → Nat → Int32) (q : Int64 × (Nat → Nat → Int32)), κ21 x2 z3 z5 x7 x8 S = some q → post q.1 (wTk E a q.2 ++ wFl E b T) → WW E p l e (rm_X4_test f lo) s m args below meth c A 0 0 (QL E below post args s (rm_X4_test f lo) A) (wTk E a S ++ wFl E b T) 11 [some (.ref (a 0)), some (.ref (b 0)), some (.int x2), some (.long z3), none, some (.long z5), none, some (.int x7), some (.int x8), none, none] 21 []) :
    ∀ (x2 : Int32) (z3 : Int64) (z5 : Int64) (x7 : Int32) (x8 : Int32) (S : Nat → Nat → Int32) (q : Int64 × (Nat → Nat → Int32)), M_X4_test_43 k φ T κ21 x2 z3 z5 x7 x8 S = some q → post q.1 (wTk E a q.2 ++ wFl E b T) →
      WW E p l e (rm_X4_test f lo) s m args below meth c A 0 0 (QL E below post args s (rm_X4_test f lo) A) (wTk E a S ++ wFl E b T) 11 [some (.ref (a 0)), some (.ref (b 0)), some (.int x2), some (.long z3), none, some (.long z5), none, some (.int x7), some (.int x8), none, none] 43 [] := by
  intro x2 z3 z5 x7 x8 S q  h hq
  unfold M_X4_test_43 at h
  refine r_aload_n (pc := 43) C (i := 0) dX4_test_43 rfl rfl ?_
  obtain ⟨q5, hq5, h⟩ := bnd h
  refine r_callV_CV (Cn := RX7) (pc := 44) C [] (c_X7_advance E l k a S hq5) [0, 1, 2] (hp_X1_readWorkers_0 E a b S T) (by decide) 0 rfl rfl rfl g_X4_25 hd_X7_advance ⟨(by simp only [rm_X4_test, rm_X7_advance, rmV]; omega), (by simp only [rm_X4_test, rm_X7_advance, rmV]; omega)⟩ ⟨Nat.zero_le _, Nat.zero_le _⟩ (Nat.le_of_ble_eq_true rfl) rfl dX4_test_44 (fun w1 hw1 => ?_)
  subst hw1
  refine ⟨(wTk E a q5 ++ wFl E b T), by exact (pw_X1_readWorkers_0 E a b S T q5), ?_⟩
  refine r_aload_n (pc := 47) C (i := 0) dX4_test_47 rfl rfl ?_
  refine r_aload_n (pc := 48) C (i := 1) dX4_test_48 rfl rfl ?_
  refine r_iload_n (pc := 49) C (i := 2) dX4_test_49 rfl rfl ?_
  obtain ⟨q6, hq6, h⟩ := bnd h
  refine r_callS_CL (pc := 50) C [.ref (a 0), .ref (b 0), .int x2] (hφ a b q5 T x2 _ hq6) [0, 1, 2, 3, 4, 5, 6, 7, 8, 9, 10, 11, 12, 13, 14, 15, 16, 17, 18, 19, 20] (hp_X1_read_0 E a b q5 T) (by decide) g_X4_9 hd_X4_factor.2 ⟨(by simp only [rm_X4_test, rmV]; omega), (by simp only [rm_X4_test, rmV]; omega)⟩ ⟨Nat.zero_le _, Nat.zero_le _⟩ (Nat.le_of_ble_eq_true rfl) rfl dX4_test_50 (fun r w1 hw1 => ?_)
  obtain ⟨hr1, hw1⟩ := hw1
  subst hr1 hw1
  refine ⟨(wTk E a q6.2 ++ wFl E b T), by exact (pw_X1_readTenants_0 E a b q5 T q6.2), ?_⟩
  refine r_lstore (pc := 53) C (i := 9) dX4_test_53 (by decide) rfl ?_
  refine r_iload (pc := 55) C (i := 7) dX4_test_55 rfl ?_
  refine r_if_eq (pc := 57) C (tgt := 67) dX4_test_57 rfl (fun c7 => ?_) (fun c7 => ?_)
  · rw [if_pos c7] at h
    refine r_lload_n (pc := 67) C (i := 3) dX4_test_67 rfl rfl ?_
    refine r_weak (lSub_s (lSub_s (lSub_s (lSub_n (lSub_n (lSub_s (lSub_n (lSub_s (lSub_s (lSub_s (lSub_n lSub_e))))))))))) ?_
    exact N_X4_test_68 C a b k φ f lo hφ T κ21 hκ21 x2 z5 x7 x8 q6.1 z3 q6.2 q  h hq
  · rw [if_neg c7] at h
    refine r_lload_n (pc := 60) C (i := 3) dX4_test_60 rfl rfl ?_
    refine r_lload (pc := 61) C (i := 5) dX4_test_61 rfl ?_
    refine r_lor (pc := 63) C dX4_test_63 ?_
    refine r_goto (pc := 64) C (tgt := 68) dX4_test_64 rfl ?_
    refine r_weak (lSub_s (lSub_s (lSub_s (lSub_n (lSub_n (lSub_s (lSub_n (lSub_s (lSub_s (lSub_s (lSub_n lSub_e))))))))))) ?_
    exact N_X4_test_68 C a b k φ f lo hφ T κ21 hκ21 x2 z5 x7 x8 q6.1 (z3 ||| z5) q6.2 q  h hq
def M_X4_test_21 (k : Nat) (φ : (Nat → Nat → Int32) → (Nat → Nat → Int32) → Int32 → Option (Int64 × (Nat → Nat → Int32))) (T : Nat → Nat → Int32) : Nat → (Int32) → (Int64) → (Int64) → (Int32) → (Int32) → (Nat → Nat → Int32) → Option (Int64 × (Nat → Nat → Int32))
  | 0, _, _, _, _, _, _ => none
  | n + 1, x2, z3, z5, x7, x8, S => if (200 : Int32) ≤ x8 then (some ((z3 ||| z5), S)) else (if x7 = 0 then ((M_X7_is k S 52).bind fun q10 => if q10 = 0 then (some ((z3 ||| z5), S)) else (M_X4_test_43 k φ T (M_X4_test_21 k φ T n) x2 z3 z5 x7 x8 S)) else (M_X4_test_43 k φ T (M_X4_test_21 k φ T n) x2 z3 z5 x7 x8 S))
theorem M_X4_test_21_s (k : Nat) (φ : (Nat → Nat → Int32) → (Nat → Nat → Int32) → Int32 → Option (Int64 × (Nat → Nat → Int32))) (T : Nat → Nat → Int32) (n : Nat) (x2 : Int32) (z3 : Int64) (z5 : Int64) (x7 : Int32) (x8 : Int32) (S : Nat → Nat → Int32) : M_X4_test_21 k φ T (n + 1) x2 z3 z5 x7 x8 S = (if (200 : Int32) ≤ x8 then (some ((z3 ||| z5), S)) else (if x7 = 0 then ((M_X7_is k S 52).bind fun q10 => if q10 = 0 then (some ((z3 ||| z5), S)) else (M_X4_test_43 k φ T (M_X4_test_21 k φ T n) x2 z3 z5 x7 x8 S)) else (M_X4_test_43 k φ T (M_X4_test_21 k φ T n) x2 z3 z5 x7 x8 S))) := rfl
set_option maxRecDepth 100000 in
set_option maxHeartbeats 4000000 in
theorem N_X4_test_21 (C : CX E p l s m args meth c cX4_test 11 RX4 (some .long) A) (a : Nat → Nat) (b : Nat → Nat) (k : Nat) (φ : (Nat → Nat → Int32) → (Nat → Nat → Int32) → Int32 → Option (Int64 × (Nat → Nat → Int32))) (f lo : Nat) (hφ : ∀ (a : Nat → Nat) (b : Nat → Nat) (S : Nat → Nat → Int32) (T : Nat → Nat → Int32) (p0 : Int32) (q : Int64 × (Nat → Nat → Int32)), φ S T p0 = some q → CL E l yX4_factor cX4_factor 6 (some .long) (rmV f lo) [.ref (a 0), .ref (b 0), .int p0] (wTk E a S ++ wFl E b T) (fun r w' => r = q.1 ∧ w' = wTk E a q.2 ++ wFl E b T)) (T : Nat → Nat → Int32) {post : Int64 → va_W → Prop} :
    ∀ (n : Nat) (x2 : Int32) (z3 : Int64) (z5 : Int64) (x7 : Int32) (x8 : Int32) (S : Nat → Nat → Int32) (q : Int64 × (Nat → Nat → Int32)), M_X4_test_21 k φ T n x2 z3 z5 x7 x8 S = some q → post q.1 (wTk E a q.2 ++ wFl E b T) →
      WW E p l e (rm_X4_test f lo) s m args below meth c A 0 0 (QL E below post args s (rm_X4_test f lo) A) (wTk E a S ++ wFl E b T) 11 [some (.ref (a 0)), some (.ref (b 0)), some (.int x2), some (.long z3), none, some (.long z5), none, some (.int x7), some (.int x8), none, none] 21 [] := by
  intro n
  induction n with
  | zero => intro x2 z3 z5 x7 x8 S q  h _; cases h
  | succ n ih =>
    intro x2 z3 z5 x7 x8 S q  h hq
    rw [M_X4_test_21_s] at h
    refine r_iload (pc := 21) C (i := 8) dX4_test_21 rfl ?_
    refine r_sipush (pc := 23) C (v := 200) dX4_test_23 (by decide) ?_
    refine r_icmp_ge (pc := 26) C (tgt := 100) dX4_test_26 rfl (fun c8 => ?_) (fun c8 => ?_)
    · rw [if_pos c8] at h
      refine r_lload_n (pc := 100) C (i := 3) dX4_test_100 rfl rfl ?_
      refine r_lload (pc := 101) C (i := 5) dX4_test_101 rfl ?_
      refine r_lor (pc := 103) C dX4_test_103 ?_
      cases h
      exact r_lret (pc := 104) C hq (Nat.zero_le _) (Nat.zero_le _) dX4_test_104
    · rw [if_neg c8] at h
      refine r_iload (pc := 29) C (i := 7) dX4_test_29 rfl ?_
      refine r_if_ne (pc := 31) C (tgt := 43) dX4_test_31 rfl (fun c9 => ?_) (fun c9 => ?_)
      · rw [if_neg c9] at h
        refine r_weak (lSub_s (lSub_s (lSub_s (lSub_s (lSub_n (lSub_s (lSub_n (lSub_s (lSub_s (lSub_n (lSub_n lSub_e))))))))))) ?_
        exact N_X4_test_43 C a b k φ f lo hφ T (M_X4_test_21 k φ T n) ih x2 z3 z5 x7 x8 S q  h hq
      · rw [if_pos c9] at h
        refine r_aload_n (pc := 34) C (i := 0) dX4_test_34 rfl rfl ?_
        refine r_ldcS (pc := 35) C 52 rfl dX4_test_35 ?_
        obtain ⟨q10, hq10, h⟩ := bnd h
        refine r_callVp_CI (Cn := RX7) (pc := 37) C [.ref (eS E 52)] (c_X7_is E l k a S 52 (by decide) hq10) [0, 1, 2] (hp_X1_readWorkers_0 E a b S T) (by decide) 0 rfl rfl rfl g_X4_17 hd_X7_is ⟨(by simp only [rm_X4_test, rm_X7_is, rmV]; omega), (by simp only [rm_X4_test, rm_X7_is, rmV]; omega)⟩ ⟨Nat.zero_le _, Nat.zero_le _⟩ (Nat.le_of_ble_eq_true rfl) rfl dX4_test_37 (fun r hr => ?_)
        have hr := hr.symm
        subst hr
        refine r_if_eq (pc := 40) C (tgt := 100) dX4_test_40 rfl (fun c11 => ?_) (fun c11 => ?_)
        · rw [if_pos c11] at h
          refine r_lload_n (pc := 100) C (i := 3) dX4_test_100 rfl rfl ?_
          refine r_lload (pc := 101) C (i := 5) dX4_test_101 rfl ?_
          refine r_lor (pc := 103) C dX4_test_103 ?_
          cases h
          exact r_lret (pc := 104) C hq (Nat.zero_le _) (Nat.zero_le _) dX4_test_104
        · rw [if_neg c11] at h
          refine r_weak (lSub_s (lSub_s (lSub_s (lSub_s (lSub_n (lSub_s (lSub_n (lSub_s (lSub_s (lSub_n (lSub_n lSub_e))))))))))) ?_
          exact N_X4_test_43 C a b k φ f lo hφ T (M_X4_test_21 k φ T n) ih x2 z3 z5 x7 x8 S q  h hq
def M_X4_test_0 (k : Nat) (φ : (Nat → Nat → Int32) → (Nat → Nat → Int32) → Int32 → Option (Int64 × (Nat → Nat → Int32))) (T : Nat → Nat → Int32) (p0 : Int32) (S : Nat → Nat → Int32) : Option (Int64 × (Nat → Nat → Int32)) := (φ S T p0).bind fun q12 => (M_X7_is k q12.2 53).bind fun q13 => M_X4_test_21 k φ T k p0 (0 : Int64) q12.1 q13 (0 : Int32) q12.2
set_option maxRecDepth 100000 in
set_option maxHeartbeats 4000000 in
theorem N_X4_test_0 (C : CX E p l s m args meth c cX4_test 11 RX4 (some .long) A) (a : Nat → Nat) (b : Nat → Nat) (k : Nat) (φ : (Nat → Nat → Int32) → (Nat → Nat → Int32) → Int32 → Option (Int64 × (Nat → Nat → Int32))) (f lo : Nat) (hφ : ∀ (a : Nat → Nat) (b : Nat → Nat) (S : Nat → Nat → Int32) (T : Nat → Nat → Int32) (p0 : Int32) (q : Int64 × (Nat → Nat → Int32)), φ S T p0 = some q → CL E l yX4_factor cX4_factor 6 (some .long) (rmV f lo) [.ref (a 0), .ref (b 0), .int p0] (wTk E a S ++ wFl E b T) (fun r w' => r = q.1 ∧ w' = wTk E a q.2 ++ wFl E b T)) (T : Nat → Nat → Int32) {post : Int64 → va_W → Prop} :
    ∀ (p0 : Int32) (S : Nat → Nat → Int32) (q : Int64 × (Nat → Nat → Int32)), M_X4_test_0 k φ T p0 S = some q → post q.1 (wTk E a q.2 ++ wFl E b T) →
      WW E p l e (rm_X4_test f lo) s m args below meth c A 0 0 (QL E below post args s (rm_X4_test f lo) A) (wTk E a S ++ wFl E b T) 11 [some (.ref (a 0)), some (.ref (b 0)), some (.int p0), none, none, none, none, none, none, none, none] 0 [] := by
  intro p0 S q  h hq
  unfold M_X4_test_0 at h
  refine r_lconst (pc := 0) C (v := 0) dX4_test_0 (by decide) ?_
  refine r_lstore_n (pc := 1) C (i := 3) dX4_test_1 rfl (by decide) rfl ?_
  refine r_aload_n (pc := 2) C (i := 0) dX4_test_2 rfl rfl ?_
  refine r_aload_n (pc := 3) C (i := 1) dX4_test_3 rfl rfl ?_
  refine r_iload_n (pc := 4) C (i := 2) dX4_test_4 rfl rfl ?_
  obtain ⟨q12, hq12, h⟩ := bnd h
  refine r_callS_CL (pc := 5) C [.ref (a 0), .ref (b 0), .int p0] (hφ a b S T p0 _ hq12) [0, 1, 2, 3, 4, 5, 6, 7, 8, 9, 10, 11, 12, 13, 14, 15, 16, 17, 18, 19, 20] (hp_X1_read_0 E a b S T) (by decide) g_X4_9 hd_X4_factor.2 ⟨(by simp only [rm_X4_test, rmV]; omega), (by simp only [rm_X4_test, rmV]; omega)⟩ ⟨Nat.zero_le _, Nat.zero_le _⟩ (Nat.le_of_ble_eq_true rfl) rfl dX4_test_5 (fun r w1 hw1 => ?_)
  obtain ⟨hr1, hw1⟩ := hw1
  subst hr1 hw1
  refine ⟨(wTk E a q12.2 ++ wFl E b T), by exact (pw_X1_readTenants_0 E a b S T q12.2), ?_⟩
  refine r_lstore (pc := 8) C (i := 5) dX4_test_8 (by decide) rfl ?_
  refine r_aload_n (pc := 10) C (i := 0) dX4_test_10 rfl rfl ?_
  refine r_ldcS (pc := 11) C 53 rfl dX4_test_11 ?_
  obtain ⟨q13, hq13, h⟩ := bnd h
  refine r_callVp_CI (Cn := RX7) (pc := 13) C [.ref (eS E 53)] (c_X7_is E l k a q12.2 53 (by decide) hq13) [0, 1, 2] (hp_X1_readWorkers_0 E a b q12.2 T) (by decide) 0 rfl rfl rfl g_X4_17 hd_X7_is ⟨(by simp only [rm_X4_test, rm_X7_is, rmV]; omega), (by simp only [rm_X4_test, rm_X7_is, rmV]; omega)⟩ ⟨Nat.zero_le _, Nat.zero_le _⟩ (Nat.le_of_ble_eq_true rfl) rfl dX4_test_13 (fun r hr => ?_)
  have hr := hr.symm
  subst hr
  refine r_istore (pc := 16) C (i := 7) dX4_test_16 (by decide) rfl ?_
  refine r_iconst (pc := 18) C (v := 0) dX4_test_18 (by decide) ?_
  refine r_istore (pc := 19) C (i := 8) dX4_test_19 (by decide) rfl ?_
  refine r_weak (lSub_s (lSub_s (lSub_s (lSub_s (lSub_n (lSub_s (lSub_n (lSub_s (lSub_s (lSub_n (lSub_n lSub_e))))))))))) ?_
  exact N_X4_test_21 C a b k φ f lo hφ T k p0 (0 : Int64) q12.1 q13 (0 : Int32) q12.2 q  h hq
def M_X4_test (k : Nat) (φ : (Nat → Nat → Int32) → (Nat → Nat → Int32) → Int32 → Option (Int64 × (Nat → Nat → Int32))) (S : Nat → Nat → Int32) (T : Nat → Nat → Int32) (p0 : Int32) : Option (Int64 × (Nat → Nat → Int32)) := M_X4_test_0 k φ T p0 S
set_option maxRecDepth 100000 in
set_option maxHeartbeats 4000000 in
theorem c_X4_test (E : ENV) (l : Launch) (k : Nat) (φ : (Nat → Nat → Int32) → (Nat → Nat → Int32) → Int32 → Option (Int64 × (Nat → Nat → Int32))) (f lo : Nat) (hφ : ∀ (a : Nat → Nat) (b : Nat → Nat) (S : Nat → Nat → Int32) (T : Nat → Nat → Int32) (p0 : Int32) (q : Int64 × (Nat → Nat → Int32)), φ S T p0 = some q → CL E l yX4_factor cX4_factor 6 (some .long) (rmV f lo) [.ref (a 0), .ref (b 0), .int p0] (wTk E a S ++ wFl E b T) (fun r w' => r = q.1 ∧ w' = wTk E a q.2 ++ wFl E b T)) (a : Nat → Nat) (b : Nat → Nat) (S : Nat → Nat → Int32) (T : Nat → Nat → Int32) (p0 : Int32) {q : Int64 × (Nat → Nat → Int32)} (hm : M_X4_test k φ S T p0 = some q) : CL E l yX4_test cX4_test 11 (some .long) (rm_X4_test f lo) [.ref (a 0), .ref (b 0), .int p0] (wTk E a S ++ wFl E b T) (fun r w' => r = q.1 ∧ w' = (wTk E a q.2 ++ wFl E b T)) :=
  CL.of 8 (by decide) (Nat.le_of_ble_eq_true rfl) (fun p e s m below meth c A C _ => r_weak (lSub_s (lSub_s (lSub_s (lSub_n (lSub_n (lSub_n (lSub_n (lSub_n (lSub_n (lSub_n (lSub_n lSub_e))))))))))) (N_X4_test_0 C a b k φ f lo hφ T p0 S q  hm ⟨rfl, rfl⟩))
theorem hd_X4_test : yX4_test.cls = RX4 ∧ yX4_test.cls ≠ "java/lang/invoke/MethodHandle" ∧ yX4_test.cls ≠ "java/lang/invoke/VarHandle" ∧ (parseMethodDescriptor yX4_test.desc).map (fun d => d.parameters.length) = some 3 := by decide +kernel
theorem g_X4_46 : GoodIn GW (va_wsS RX4 46 yX4_test (wsG yX4_test cX4_test 11 (some .long))) := gw_S wm_5_153 wm_5_107 wm_1_24 wm_5_108
theorem hd_X4_allRequests : yX4_allRequests.cls = RX4 ∧ yX4_allRequests.cls ≠ "java/lang/invoke/MethodHandle" ∧ yX4_allRequests.cls ≠ "java/lang/invoke/VarHandle" ∧ (parseMethodDescriptor yX4_allRequests.desc).map (fun d => d.parameters.length) = some 1 := by decide +kernel
theorem g_X4_40 : GoodIn GW (va_wsS RX4 40 yX4_allRequests (wsG yX4_allRequests cX4_allRequests 1 (some .long))) := gw_S wm_5_149 wm_5_150 wm_1_24 wm_5_151
theorem g_X4_36 : GoodIn GW (wsV RX4 36 RX7 yX7_fail (wsG yX7_fail cX7_fail 2 none)) := gw_V wm_5_148 wm_3_98 wm_3_99 wm_1_7 wm_3_100
theorem hd_X4_comparison : yX4_comparison.cls = RX4 ∧ yX4_comparison.cls ≠ "java/lang/invoke/MethodHandle" ∧ yX4_comparison.cls ≠ "java/lang/invoke/VarHandle" ∧ (parseMethodDescriptor yX4_comparison.desc).map (fun d => d.parameters.length) = some 2 := by decide +kernel
theorem g_X4_32 : GoodIn GW (va_wsS RX4 32 yX4_comparison (wsG yX4_comparison cX4_comparison 11 (some .long))) := gw_S wm_5_115 wm_5_116 wm_1_24 wm_5_117
-- ShardGuard$QueryText.factor(LShardGuard$Tokens;LShardGuard$Fleet;I)J
theorem dX4_factor_0 : decode cX4_factor 0 = .ok (.aload_n 0, 1) := by decide +kernel
theorem dX4_factor_1 : decode cX4_factor 1 = .ok (.ldc 28, 2) := by decide +kernel
theorem dX4_factor_3 : decode cX4_factor 3 = .ok (.invokevirtual 17, 3) := by decide +kernel
theorem dX4_factor_6 : decode cX4_factor 6 = .ok (.istore_n 3, 1) := by decide +kernel
theorem dX4_factor_7 : decode cX4_factor 7 = .ok (.iload_n 3, 1) := by decide +kernel
theorem dX4_factor_8 : decode cX4_factor 8 = .ok (.ifCond .ne 18, 3) := by decide +kernel
theorem dX4_factor_11 : decode cX4_factor 11 = .ok (.aload_n 0, 1) := by decide +kernel
theorem dX4_factor_12 : decode cX4_factor 12 = .ok (.ldc 30, 2) := by decide +kernel
theorem dX4_factor_14 : decode cX4_factor 14 = .ok (.invokevirtual 17, 3) := by decide +kernel
theorem dX4_factor_17 : decode cX4_factor 17 = .ok (.ifCond .ne 9, 3) := by decide +kernel
theorem dX4_factor_20 : decode cX4_factor 20 = .ok (.aload_n 0, 1) := by decide +kernel
theorem dX4_factor_21 : decode cX4_factor 21 = .ok (.aload_n 1, 1) := by decide +kernel
theorem dX4_factor_22 : decode cX4_factor 22 = .ok (.invokestatic 32, 3) := by decide +kernel
theorem dX4_factor_25 : decode cX4_factor 25 = .ok (.lreturn, 1) := by decide +kernel
theorem dX4_factor_26 : decode cX4_factor 26 = .ok (.iload_n 2, 1) := by decide +kernel
theorem dX4_factor_27 : decode cX4_factor 27 = .ok (.bipush 6, 2) := by decide +kernel
theorem dX4_factor_29 : decode cX4_factor 29 = .ok (.if_icmp .lt 10, 3) := by decide +kernel
theorem dX4_factor_32 : decode cX4_factor 32 = .ok (.aload_n 0, 1) := by decide +kernel
theorem dX4_factor_33 : decode cX4_factor 33 = .ok (.iconst 3, 1) := by decide +kernel
theorem dX4_factor_34 : decode cX4_factor 34 = .ok (.invokevirtual 36, 3) := by decide +kernel
theorem dX4_factor_37 : decode cX4_factor 37 = .ok (.lconst 0, 1) := by decide +kernel
theorem dX4_factor_38 : decode cX4_factor 38 = .ok (.lreturn, 1) := by decide +kernel
theorem dX4_factor_39 : decode cX4_factor 39 = .ok (.aload_n 0, 1) := by decide +kernel
theorem dX4_factor_40 : decode cX4_factor 40 = .ok (.invokevirtual 25, 3) := by decide +kernel
theorem dX4_factor_43 : decode cX4_factor 43 = .ok (.iload_n 3, 1) := by decide +kernel
theorem dX4_factor_44 : decode cX4_factor 44 = .ok (.ifCond .eq 21, 3) := by decide +kernel
theorem dX4_factor_47 : decode cX4_factor 47 = .ok (.aload_n 1, 1) := by decide +kernel
theorem dX4_factor_48 : decode cX4_factor 48 = .ok (.invokestatic 40, 3) := by decide +kernel
theorem dX4_factor_51 : decode cX4_factor 51 = .ok (.aload_n 0, 1) := by decide +kernel
theorem dX4_factor_52 : decode cX4_factor 52 = .ok (.aload_n 1, 1) := by decide +kernel
theorem dX4_factor_53 : decode cX4_factor 53 = .ok (.iload_n 2, 1) := by decide +kernel
theorem dX4_factor_54 : decode cX4_factor 54 = .ok (.iconst 1, 1) := by decide +kernel
theorem dX4_factor_55 : decode cX4_factor 55 = .ok (.iadd, 1) := by decide +kernel
theorem dX4_factor_56 : decode cX4_factor 56 = .ok (.invokestatic 9, 3) := by decide +kernel
theorem dX4_factor_59 : decode cX4_factor 59 = .ok (.ldc2_w 44, 3) := by decide +kernel
theorem dX4_factor_62 : decode cX4_factor 62 = .ok (.lxor, 1) := by decide +kernel
theorem dX4_factor_63 : decode cX4_factor 63 = .ok (.land, 1) := by decide +kernel
theorem dX4_factor_64 : decode cX4_factor 64 = .ok (.lreturn, 1) := by decide +kernel
theorem dX4_factor_65 : decode cX4_factor 65 = .ok (.aload_n 0, 1) := by decide +kernel
theorem dX4_factor_66 : decode cX4_factor 66 = .ok (.aload_n 1, 1) := by decide +kernel
theorem dX4_factor_67 : decode cX4_factor 67 = .ok (.iload_n 2, 1) := by decide +kernel
theorem dX4_factor_68 : decode cX4_factor 68 = .ok (.iconst 1, 1) := by decide +kernel
theorem dX4_factor_69 : decode cX4_factor 69 = .ok (.iadd, 1) := by decide +kernel
theorem dX4_factor_70 : decode cX4_factor 70 = .ok (.invokestatic 46, 3) := by decide +kernel
theorem dX4_factor_73 : decode cX4_factor 73 = .ok (.lstore 4, 2) := by decide +kernel
theorem dX4_factor_75 : decode cX4_factor 75 = .ok (.aload_n 0, 1) := by decide +kernel
theorem dX4_factor_76 : decode cX4_factor 76 = .ok (.ldc 49, 2) := by decide +kernel
theorem dX4_factor_78 : decode cX4_factor 78 = .ok (.invokevirtual 51, 3) := by decide +kernel
theorem dX4_factor_81 : decode cX4_factor 81 = .ok (.lload 4, 2) := by decide +kernel
theorem dX4_factor_83 : decode cX4_factor 83 = .ok (.lreturn, 1) := by decide +kernel
def rm_X4_factor (f lo : Nat) : Room := { frames := 10 + f, cells := 0, slots := 0, locals := 243 + lo }
def M_X4_factor_26 (k : Nat) (φ : (Nat → Nat → Int32) → (Nat → Nat → Int32) → Int32 → Option (Int64 × (Nat → Nat → Int32))) (T : Nat → Nat → Int32) (x2 : Int32) (x3 : Int32) (S : Nat → Nat → Int32) : Option (Int64 × (Nat → Nat → Int32)) := if x2 < (6 : Int32) then ((M_X7_advance k S).bind fun q2 => if x3 = 0 then ((M_X4_test k φ q2 T (x2 + (1 : Int32))).bind fun q4 => (M_X7_take k q4.2 51).bind fun q5 => some (q4.1, q5)) else ((M_X4_allRequests k T).bind fun q6 => (φ q2 T (x2 + (1 : Int32))).bind fun q7 => some ((q6 &&& (q7.1 ^^^ (-1 : Int64))), q7.2))) else ((M_X7_fail k S (3 : Int32)).bind fun q8 => some ((0 : Int64), q8))
set_option maxRecDepth 100000 in
set_option maxHeartbeats 4000000 in
theorem N_X4_factor_26 (C : CX E p l s m args meth c cX4_factor 6 RX4 (some .long) A) (a : Nat → Nat) (b : Nat → Nat) (k : Nat) (φ : (Nat → Nat → Int32) → (Nat → Nat → Int32) → Int32 → Option (Int64 × (Nat → Nat → Int32))) (f lo : Nat) (hφ : ∀ (a : Nat → Nat) (b : Nat → Nat) (S : Nat → Nat → Int32) (T : Nat → Nat → Int32) (p0 : Int32) (q : Int64 × (Nat → Nat → Int32)), φ S T p0 = some q → CL E l yX4_factor cX4_factor 6 (some .long) (rmV f lo) [.ref (a 0), .ref (b 0), .int p0] (wTk E a S ++ wFl E b T) (fun r w' => r = q.1 ∧ w' = wTk E a q.2 ++ wFl E b T)) (T : Nat → Nat → Int32) {post : Int64 → va_W → Prop} :
    ∀ (x2 : Int32) (x3 : Int32) (S : Nat → Nat → Int32) (q : Int64 × (Nat → Nat → Int32)), M_X4_factor_26 k φ T x2 x3 S = some q → post q.1 (wTk E a q.2 ++ wFl E b T) →
      WW E p l e (rm_X4_factor f lo) s m args below meth c A 0 0 (QL E below post args s (rm_X4_factor f lo) A) (wTk E a S ++ wFl E b T) 6 [some (.ref (a 0)), some (.ref (b 0)), some (.int x2), some (.int x3), none, none] 26 [] := by
  intro x2 x3 S q  h hq
  unfold M_X4_factor_26 at h
  refine r_iload_n (pc := 26) C (i := 2) dX4_factor_26 rfl rfl ?_
  refine r_bipush (pc := 27) C (v := 6) dX4_factor_27 (by decide) ?_
  refine r_icmp_lt (pc := 29) C (tgt := 39) dX4_factor_29 rfl (fun c1 => ?_) (fun c1 => ?_)
  · rw [if_pos c1] at h
    refine r_aload_n (pc := 39) C (i := 0) dX4_factor_39 rfl rfl ?_
    obtain ⟨q2, hq2, h⟩ := bnd h
    refine r_callV_CV (Cn := RX7) (pc := 40) C [] (c_X7_advance E l k a S hq2) [0, 1, 2] (hp_X1_readWorkers_0 E a b S T) (by decide) 0 rfl rfl rfl g_X4_25 hd_X7_advance ⟨(by simp only [rm_X4_factor, rm_X7_advance, rmV]; omega), (by simp only [rm_X4_factor, rm_X7_advance, rmV]; omega)⟩ ⟨Nat.zero_le _, Nat.zero_le _⟩ (Nat.le_of_ble_eq_true rfl) rfl dX4_factor_40 (fun w1 hw1 => ?_)
    subst hw1
    refine ⟨(wTk E a q2 ++ wFl E b T), by exact (pw_X1_readWorkers_0 E a b S T q2), ?_⟩
    refine r_iload_n (pc := 43) C (i := 3) dX4_factor_43 rfl rfl ?_
    refine r_if_eq (pc := 44) C (tgt := 65) dX4_factor_44 rfl (fun c3 => ?_) (fun c3 => ?_)
    · rw [if_pos c3] at h
      refine r_aload_n (pc := 65) C (i := 0) dX4_factor_65 rfl rfl ?_
      refine r_aload_n (pc := 66) C (i := 1) dX4_factor_66 rfl rfl ?_
      refine r_iload_n (pc := 67) C (i := 2) dX4_factor_67 rfl rfl ?_
      refine r_iconst (pc := 68) C (v := 1) dX4_factor_68 (by decide) ?_
      refine r_iadd (pc := 69) C dX4_factor_69 ?_
      obtain ⟨q4, hq4, h⟩ := bnd h
      refine r_callS_CL (pc := 70) C [.ref (a 0), .ref (b 0), .int (x2 + (1 : Int32))] (c_X4_test E l k φ f lo hφ a b q2 T (x2 + (1 : Int32)) hq4) [0, 1, 2, 3, 4, 5, 6, 7, 8, 9, 10, 11, 12, 13, 14, 15, 16, 17, 18, 19, 20] (hp_X1_read_0 E a b q2 T) (by decide) g_X4_46 hd_X4_test.2 ⟨(by simp only [rm_X4_factor, rm_X4_test, rmV]; omega), (by simp only [rm_X4_factor, rm_X4_test, rmV]; omega)⟩ ⟨Nat.zero_le _, Nat.zero_le _⟩ (Nat.le_of_ble_eq_true rfl) rfl dX4_factor_70 (fun r w1 hw1 => ?_)
      obtain ⟨hr1, hw1⟩ := hw1
      subst hr1 hw1
      refine ⟨(wTk E a q4.2 ++ wFl E b T), by exact (pw_X1_readTenants_0 E a b q2 T q4.2), ?_⟩
      refine r_lstore (pc := 73) C (i := 4) dX4_factor_73 (by decide) rfl ?_
      refine r_aload_n (pc := 75) C (i := 0) dX4_factor_75 rfl rfl ?_
      refine r_ldcS (pc := 76) C 51 rfl dX4_factor_76 ?_
      obtain ⟨q5, hq5, h⟩ := bnd h
      refine r_callV_CV (Cn := RX7) (pc := 78) C [.ref (eS E 51)] (c_X7_take E l k a q4.2 51 (by decide) hq5) [0, 1, 2] (hp_X1_readWorkers_0 E a b q4.2 T) (by decide) 0 rfl rfl rfl g_X4_51 hd_X7_take ⟨(by simp only [rm_X4_factor, rm_X7_take, rmV]; omega), (by simp only [rm_X4_factor, rm_X7_take, rmV]; omega)⟩ ⟨Nat.zero_le _, Nat.zero_le _⟩ (Nat.le_of_ble_eq_true rfl) rfl dX4_factor_78 (fun w1 hw1 => ?_)
      subst hw1
      refine ⟨(wTk E a q5 ++ wFl E b T), by exact (pw_X1_readWorkers_0 E a b q4.2 T q5), ?_⟩
      refine r_lload (pc := 81) C (i := 4) dX4_factor_81 rfl ?_
      cases h
      exact r_lret (pc := 83) C hq (Nat.zero_le _) (Nat.zero_le _) dX4_factor_83
    · rw [if_neg c3] at h
      refine r_aload_n (pc := 47) C (i := 1) dX4_factor_47 rfl rfl ?_
      obtain ⟨q6, hq6, h⟩ := bnd h
      refine r_callSp_CL (pc := 48) C [.ref (b 0)] (c_X4_allRequests E l k b T hq6) [3, 4, 5, 6, 7, 8, 9, 10, 11, 12, 13, 14, 15, 16, 17, 18, 19, 20] (hp_X1_readWorkers_1 E a b q2 T) (by decide) g_X4_40 hd_X4_allRequests.2 ⟨(by simp only [rm_X4_factor, rm_X4_allRequests, rmV]; omega), (by simp only [rm_X4_factor, rm_X4_allRequests, rmV]; omega)⟩ ⟨Nat.zero_le _, Nat.zero_le _⟩ (Nat.le_of_ble_eq_true rfl) rfl dX4_factor_48 (fun r hr => ?_)
      have hr := hr.symm
      subst hr
      refine r_aload_n (pc := 51) C (i := 0) dX4_factor_51 rfl rfl ?_
      refine r_aload_n (pc := 52) C (i := 1) dX4_factor_52 rfl rfl ?_
      refine r_iload_n (pc := 53) C (i := 2) dX4_factor_53 rfl rfl ?_
      refine r_iconst (pc := 54) C (v := 1) dX4_factor_54 (by decide) ?_
      refine r_iadd (pc := 55) C dX4_factor_55 ?_
      obtain ⟨q7, hq7, h⟩ := bnd h
      refine r_callS_CL (pc := 56) C [.ref (a 0), .ref (b 0), .int (x2 + (1 : Int32))] (hφ a b q2 T (x2 + (1 : Int32)) _ hq7) [0, 1, 2, 3, 4, 5, 6, 7, 8, 9, 10, 11, 12, 13, 14, 15, 16, 17, 18, 19, 20] (hp_X1_read_0 E a b q2 T) (by decide) g_X4_9 hd_X4_factor.2 ⟨(by simp only [rm_X4_factor, rmV]; omega), (by simp only [rm_X4_factor, rmV]; omega)⟩ ⟨Nat.zero_le _, Nat.zero_le _⟩ (Nat.le_of_ble_eq_true rfl) rfl dX4_factor_56 (fun r w1 hw1 => ?_)
      obtain ⟨hr1, hw1⟩ := hw1
      subst hr1 hw1
      refine ⟨(wTk E a q7.2 ++ wFl E b T), by exact (pw_X1_readTenants_0 E a b q2 T q7.2), ?_⟩
      refine r_ldc2 (pc := 59) C (v := -1) wm_5_152 dX4_factor_59 ?_
      refine r_lxor (pc := 62) C dX4_factor_62 ?_
      refine r_land (pc := 63) C dX4_factor_63 ?_
      have h := Option.some.inj h
      subst h
      exact r_lret (pc := 64) C hq (Nat.zero_le _) (Nat.zero_le _) dX4_factor_64
  · rw [if_neg c1] at h
    refine r_aload_n (pc := 32) C (i := 0) dX4_factor_32 rfl rfl ?_
    refine r_iconst (pc := 33) C (v := 3) dX4_factor_33 (by decide) ?_
    obtain ⟨q8, hq8, h⟩ := bnd h
    refine r_callV_CV (Cn := RX7) (pc := 34) C [.int (3 : Int32)] (c_X7_fail E l k a S (3 : Int32) hq8) [0, 1, 2] (hp_X1_readWorkers_0 E a b S T) (by decide) 0 rfl rfl rfl g_X4_36 hd_X7_fail ⟨(by simp only [rm_X4_factor, rm_X7_fail, rmV]; omega), (by simp only [rm_X4_factor, rm_X7_fail, rmV]; omega)⟩ ⟨Nat.zero_le _, Nat.zero_le _⟩ (Nat.le_of_ble_eq_true rfl) rfl dX4_factor_34 (fun w1 hw1 => ?_)
    subst hw1
    refine ⟨(wTk E a q8 ++ wFl E b T), by exact (pw_X1_readWorkers_0 E a b S T q8), ?_⟩
    refine r_lconst (pc := 37) C (v := 0) dX4_factor_37 (by decide) ?_
    cases h
    exact r_lret (pc := 38) C hq (Nat.zero_le _) (Nat.zero_le _) dX4_factor_38
def M_X4_factor_0 (k : Nat) (φ : (Nat → Nat → Int32) → (Nat → Nat → Int32) → Int32 → Option (Int64 × (Nat → Nat → Int32))) (T : Nat → Nat → Int32) (p0 : Int32) (S : Nat → Nat → Int32) : Option (Int64 × (Nat → Nat → Int32)) := (M_X7_is k S 37).bind fun q9 => if q9 = 0 then ((M_X7_is k S 38).bind fun q11 => if q11 = 0 then ((M_X4_comparison k S T).bind fun q13 => some (q13.1, q13.2)) else (M_X4_factor_26 k φ T p0 q9 S)) else (M_X4_factor_26 k φ T p0 q9 S)
set_option maxRecDepth 100000 in
set_option maxHeartbeats 4000000 in
theorem N_X4_factor_0 (C : CX E p l s m args meth c cX4_factor 6 RX4 (some .long) A) (a : Nat → Nat) (b : Nat → Nat) (k : Nat) (φ : (Nat → Nat → Int32) → (Nat → Nat → Int32) → Int32 → Option (Int64 × (Nat → Nat → Int32))) (f lo : Nat) (hφ : ∀ (a : Nat → Nat) (b : Nat → Nat) (S : Nat → Nat → Int32) (T : Nat → Nat → Int32) (p0 : Int32) (q : Int64 × (Nat → Nat → Int32)), φ S T p0 = some q → CL E l yX4_factor cX4_factor 6 (some .long) (rmV f lo) [.ref (a 0), .ref (b 0), .int p0] (wTk E a S ++ wFl E b T) (fun r w' => r = q.1 ∧ w' = wTk E a q.2 ++ wFl E b T)) (T : Nat → Nat → Int32) {post : Int64 → va_W → Prop} :
    ∀ (p0 : Int32) (S : Nat → Nat → Int32) (q : Int64 × (Nat → Nat → Int32)), M_X4_factor_0 k φ T p0 S = some q → post q.1 (wTk E a q.2 ++ wFl E b T) →
      WW E p l e (rm_X4_factor f lo) s m args below meth c A 0 0 (QL E below post args s (rm_X4_factor f lo) A) (wTk E a S ++ wFl E b T) 6 [some (.ref (a 0)), some (.ref (b 0)), some (.int p0), none, none, none] 0 [] := by
  intro p0 S q  h hq
  unfold M_X4_factor_0 at h
  refine r_aload_n (pc := 0) C (i := 0) dX4_factor_0 rfl rfl ?_
  refine r_ldcS (pc := 1) C 37 rfl dX4_factor_1 ?_
  obtain ⟨q9, hq9, h⟩ := bnd h
  refine r_callVp_CI (Cn := RX7) (pc := 3) C [.ref (eS E 37)] (c_X7_is E l k a S 37 (by decide) hq9) [0, 1, 2] (hp_X1_readWorkers_0 E a b S T) (by decide) 0 rfl rfl rfl g_X4_17 hd_X7_is ⟨(by simp only [rm_X4_factor, rm_X7_is, rmV]; omega), (by simp only [rm_X4_factor, rm_X7_is, rmV]; omega)⟩ ⟨Nat.zero_le _, Nat.zero_le _⟩ (Nat.le_of_ble_eq_true rfl) rfl dX4_factor_3 (fun r hr => ?_)
  have hr := hr.symm
  subst hr
  refine r_istore_n (pc := 6) C (i := 3) dX4_factor_6 rfl (by decide) rfl ?_
  refine r_iload_n (pc := 7) C (i := 3) dX4_factor_7 rfl rfl ?_
  refine r_if_ne (pc := 8) C (tgt := 26) dX4_factor_8 rfl (fun c10 => ?_) (fun c10 => ?_)
  · rw [if_neg c10] at h
    refine r_weak (lSub_s (lSub_s (lSub_s (lSub_s (lSub_n (lSub_n lSub_e)))))) ?_
    exact N_X4_factor_26 C a b k φ f lo hφ T p0 q9 S q  h hq
  · rw [if_pos c10] at h
    refine r_aload_n (pc := 11) C (i := 0) dX4_factor_11 rfl rfl ?_
    refine r_ldcS (pc := 12) C 38 rfl dX4_factor_12 ?_
    obtain ⟨q11, hq11, h⟩ := bnd h
    refine r_callVp_CI (Cn := RX7) (pc := 14) C [.ref (eS E 38)] (c_X7_is E l k a S 38 (by decide) hq11) [0, 1, 2] (hp_X1_readWorkers_0 E a b S T) (by decide) 0 rfl rfl rfl g_X4_17 hd_X7_is ⟨(by simp only [rm_X4_factor, rm_X7_is, rmV]; omega), (by simp only [rm_X4_factor, rm_X7_is, rmV]; omega)⟩ ⟨Nat.zero_le _, Nat.zero_le _⟩ (Nat.le_of_ble_eq_true rfl) rfl dX4_factor_14 (fun r hr => ?_)
    have hr := hr.symm
    subst hr
    refine r_if_ne (pc := 17) C (tgt := 26) dX4_factor_17 rfl (fun c12 => ?_) (fun c12 => ?_)
    · rw [if_neg c12] at h
      refine r_weak (lSub_s (lSub_s (lSub_s (lSub_s (lSub_n (lSub_n lSub_e)))))) ?_
      exact N_X4_factor_26 C a b k φ f lo hφ T p0 q9 S q  h hq
    · rw [if_pos c12] at h
      refine r_aload_n (pc := 20) C (i := 0) dX4_factor_20 rfl rfl ?_
      refine r_aload_n (pc := 21) C (i := 1) dX4_factor_21 rfl rfl ?_
      obtain ⟨q13, hq13, h⟩ := bnd h
      refine r_callS_CL (pc := 22) C [.ref (a 0), .ref (b 0)] (c_X4_comparison E l k a b S T hq13) [0, 1, 2, 3, 4, 5, 6, 7, 8, 9, 10, 11, 12, 13, 14, 15, 16, 17, 18, 19, 20] (hp_X1_read_0 E a b S T) (by decide) g_X4_32 hd_X4_comparison.2 ⟨(by simp only [rm_X4_factor, rm_X4_comparison, rmV]; omega), (by simp only [rm_X4_factor, rm_X4_comparison, rmV]; omega)⟩ ⟨Nat.zero_le _, Nat.zero_le _⟩ (Nat.le_of_ble_eq_true rfl) rfl dX4_factor_22 (fun r w1 hw1 => ?_)
      obtain ⟨hr1, hw1⟩ := hw1
      subst hr1 hw1
      refine ⟨(wTk E a q13.2 ++ wFl E b T), by exact (pw_X1_readTenants_0 E a b S T q13.2), ?_⟩
      cases h
      exact r_lret (pc := 25) C hq (Nat.zero_le _) (Nat.zero_le _) dX4_factor_25
def M_X4_factor (k : Nat) (φ : (Nat → Nat → Int32) → (Nat → Nat → Int32) → Int32 → Option (Int64 × (Nat → Nat → Int32))) (S : Nat → Nat → Int32) (T : Nat → Nat → Int32) (p0 : Int32) : Option (Int64 × (Nat → Nat → Int32)) := M_X4_factor_0 k φ T p0 S
set_option maxRecDepth 100000 in
set_option maxHeartbeats 4000000 in
theorem c_X4_factor (E : ENV) (l : Launch) (k : Nat) (φ : (Nat → Nat → Int32) → (Nat → Nat → Int32) → Int32 → Option (Int64 × (Nat → Nat → Int32))) (f lo : Nat) (hφ : ∀ (a : Nat → Nat) (b : Nat → Nat) (S : Nat → Nat → Int32) (T : Nat → Nat → Int32) (p0 : Int32) (q : Int64 × (Nat → Nat → Int32)), φ S T p0 = some q → CL E l yX4_factor cX4_factor 6 (some .long) (rmV f lo) [.ref (a 0), .ref (b 0), .int p0] (wTk E a S ++ wFl E b T) (fun r w' => r = q.1 ∧ w' = wTk E a q.2 ++ wFl E b T)) (a : Nat → Nat) (b : Nat → Nat) (S : Nat → Nat → Int32) (T : Nat → Nat → Int32) (p0 : Int32) {q : Int64 × (Nat → Nat → Int32)} (hm : M_X4_factor k φ S T p0 = some q) : CL E l yX4_factor cX4_factor 6 (some .long) (rm_X4_factor f lo) [.ref (a 0), .ref (b 0), .int p0] (wTk E a S ++ wFl E b T) (fun r w' => r = q.1 ∧ w' = (wTk E a q.2 ++ wFl E b T)) :=
  CL.of 3 (by decide) (Nat.le_of_ble_eq_true rfl) (fun p e s m below meth c A C _ => r_weak (lSub_s (lSub_s (lSub_s (lSub_n (lSub_n (lSub_n lSub_e)))))) (N_X4_factor_0 C a b k φ f lo hφ T p0 S q  hm ⟨rfl, rfl⟩))
end WALKS
