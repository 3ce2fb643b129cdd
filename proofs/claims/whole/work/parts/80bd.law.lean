section WALKS
variable {E : ENV} {p : Program} {l : Launch} {e : Env} {s : State} {m : MethodId} {args : Array Value} {below : List Frame} {meth : Method} {c : Code} {A : Nat → Prop} {bs : Nat}
theorem hd_X10_covered : yX10_covered.cls = RX10 ∧ yX10_covered.cls ≠ "java/lang/invoke/MethodHandle" ∧ yX10_covered.cls ≠ "java/lang/invoke/VarHandle" ∧ (parseMethodDescriptor yX10_covered.desc).map (fun d => d.parameters.length) = some 1 := by decide +kernel
theorem g_L_148 : GoodIn GW (wsV RL 148 RX10 yX10_covered (wsG yX10_covered cX10_covered 4 (some .int))) := gw_V wm_6_218 wm_6_219 wm_6_220 wm_1_9 wm_6_221
theorem hd_L_covered : yL_covered.cls = RL ∧ yL_covered.cls ≠ "java/lang/invoke/MethodHandle" ∧ yL_covered.cls ≠ "java/lang/invoke/VarHandle" ∧ (parseMethodDescriptor yL_covered.desc).map (fun d => d.parameters.length) = some 3 := by decide +kernel
theorem gL_146 : GoodIn GW (va_wsS RL 146 yL_covered (Cond.codeWith yL_covered cL_covered 4 (some .int) [(0, 9, 12, 18)] :: GW)) := gw_SW wm_4_104 wm_4_105 wm_1_0 wm_4_106
-- the law from 935
theorem dL_law_935 : decode cL_law 935 = .ok (.aload_n 1, 1) := by decide +kernel
theorem dL_law_936 : decode cL_law 936 = .ok (.aload_n 0, 1) := by decide +kernel
theorem dL_law_937 : decode cL_law 937 = .ok (.iload 4, 2) := by decide +kernel
theorem dL_law_939 : decode cL_law 939 = .ok (.iconst 1, 1) := by decide +kernel
theorem dL_law_940 : decode cL_law 940 = .ok (.iadd, 1) := by decide +kernel
theorem dL_law_941 : decode cL_law 941 = .ok (.iaload, 1) := by decide +kernel
theorem dL_law_942 : decode cL_law 942 = .ok (.aload_n 3, 1) := by decide +kernel
theorem dL_law_943 : decode cL_law 943 = .ok (.invokestatic 146, 3) := by decide +kernel
theorem dL_law_946 : decode cL_law 946 = .ok (.istore 5, 2) := by decide +kernel
theorem dL_law_948 : decode cL_law 948 = .ok (.aload_n 2, 1) := by decide +kernel
theorem dL_law_949 : decode cL_law 949 = .ok (.aload_n 0, 1) := by decide +kernel
theorem dL_law_950 : decode cL_law 950 = .ok (.iload 4, 2) := by decide +kernel
theorem dL_law_952 : decode cL_law 952 = .ok (.iconst 1, 1) := by decide +kernel
theorem dL_law_953 : decode cL_law 953 = .ok (.iadd, 1) := by decide +kernel
theorem dL_law_954 : decode cL_law 954 = .ok (.iaload, 1) := by decide +kernel
theorem dL_law_955 : decode cL_law 955 = .ok (.invokevirtual 148, 3) := by decide +kernel
theorem dL_law_958 : decode cL_law 958 = .ok (.istore 6, 2) := by decide +kernel
theorem dL_law_960 : decode cL_law 960 = .ok (.aload_n 2, 1) := by decide +kernel
theorem dL_law_961 : decode cL_law 961 = .ok (.invokevirtual 106, 3) := by decide +kernel
theorem dL_law_964 : decode cL_law 964 = .ok (.iload 5, 2) := by decide +kernel
theorem dL_law_966 : decode cL_law 966 = .ok (.if_icmp .eq 5, 3) := by decide +kernel
theorem dL_law_969 : decode cL_law 969 = .ok (.iconst 0, 1) := by decide +kernel
theorem dL_law_970 : decode cL_law 970 = .ok (.ireturn, 1) := by decide +kernel
theorem dL_law_971 : decode cL_law 971 = .ok (.iload 5, 2) := by decide +kernel
theorem dL_law_973 : decode cL_law 973 = .ok (.ifCond .ne 15, 3) := by decide +kernel
theorem dL_law_976 : decode cL_law 976 = .ok (.aload_n 3, 1) := by decide +kernel
theorem dL_law_977 : decode cL_law 977 = .ok (.iconst 0, 1) := by decide +kernel
theorem dL_law_978 : decode cL_law 978 = .ok (.laload, 1) := by decide +kernel
theorem dL_law_979 : decode cL_law 979 = .ok (.iload 6, 2) := by decide +kernel
theorem dL_law_981 : decode cL_law 981 = .ok (.i2l, 1) := by decide +kernel
theorem dL_law_982 : decode cL_law 982 = .ok (.lcmp, 1) := by decide +kernel
theorem dL_law_983 : decode cL_law 983 = .ok (.ifCond .eq 5, 3) := by decide +kernel
theorem dL_law_986 : decode cL_law 986 = .ok (.iconst 0, 1) := by decide +kernel
theorem dL_law_987 : decode cL_law 987 = .ok (.ireturn, 1) := by decide +kernel
theorem dL_law_988 : decode cL_law 988 = .ok (.goto 1048, 3) := by decide +kernel
def M_L_935_935 (k Ls : Nat) (xs : Nat → Int32) (x4 : Int32) (S : VV × VV × VV × VV × VV × Int32) (T : Nat → Nat → Int32) (U : Nat → Int64) (V : Nat × Int32 × Int32 × (Nat → VV)) : Option ((VV × VV × VV × VV × VV × Int32) × (Nat → Nat → Int32) × (Nat → Int64) × (Nat × Int32 × Int32 × (Nat → VV))) := (if inb (x4 + (1 : Int32)) Ls = true then (M_L_covered k S U (xs (x4 + (1 : Int32)).toNatClampNeg)).bind fun q2 => (if inb (x4 + (1 : Int32)) Ls = true then (M_X10_covered k T (xs (x4 + (1 : Int32)).toNatClampNeg)).bind fun q4 => (M_X10_thrown k q4.2).bind fun q5 => if q5 = q2.1 then (if q2.1 = 0 then ((if inb (0 : Int32) 1 = true then if (lg_cmp (q2.2 (0 : Int32).toNatClampNeg) (q4.1.toInt64)) = 0 then (some (S, q4.2, q2.2, V)) else (none) else none)) else (some (S, q4.2, q2.2, V))) else (none) else none) else none)
set_option maxRecDepth 100000 in
set_option maxHeartbeats 4000000 in
theorem N_L_935_935 (C : CX E p l s m #[Value.ref bs] meth c cL_law 9 RL ret A) (a : Nat → Nat) (b : Nat → Nat) (c0 : Nat → Nat) (k Ls : Nat) (xs : Nat → Int32) (hX : va_X bs Ls xs s s.heap) (hbl : bs < s.heap.size) (hbA : ¬ A bs) (hlt : l.stackTraces = false) (hdc : DC s) (cN sN : Nat) (hcN : cN + 20 ≤ 601024 ∧ sN + 1600 ≤ 7293034) (fa : Nat → Nat → Nat) :
    ∀ (x4 : Int32) (S : VV × VV × VV × VV × VV × Int32) (T : Nat → Nat → Int32) (U : Nat → Int64) (V : Nat × Int32 × Int32 × (Nat → VV)) (q : (VV × VV × VV × VV × VV × Int32) × (Nat → Nat → Int32) × (Nat → Int64) × (Nat × Int32 × Int32 × (Nat → VV))), M_L_935_935 k Ls xs x4 S T U V = some q → (∀ fa' : Nat → Nat → Nat, WW E p l e room_1 s m #[Value.ref bs] below meth c A (cN + 20) (sN + 1600) (lw_Z below #[Value.ref bs] s) (wSg E a q.1 ++ wMd E b q.2.1 ++ wLo E c0 q.2.2.1 ++ wHi E a fa' q.2.2.2) 9 [some (.ref bs), some (.ref (a 0)), some (.ref (b 0)), some (.ref (c0 0)), some (.int x4), none, none, none, none] 2036 []) →
      WW E p l e room_1 s m #[Value.ref bs] below meth c A (cN + 0) (sN + 0) (lw_Z below #[Value.ref bs] s) (wSg E a S ++ wMd E b T ++ wLo E c0 U ++ wHi E a fa V) 9 [some (.ref bs), some (.ref (a 0)), some (.ref (b 0)), some (.ref (c0 0)), some (.int x4), none, none, none, none] 935 [] := by
  intro x4 S T U V q  h hq
  unfold M_L_935_935 at h
  refine r_aload_n (pc := 935) C (i := 1) dL_law_935 rfl rfl ?_
  refine r_aload_n (pc := 936) C (i := 0) dL_law_936 rfl rfl ?_
  refine r_iload (pc := 937) C (i := 4) dL_law_937 rfl ?_
  refine r_iconst (pc := 939) C (v := 1) dL_law_939 (by decide) ?_
  refine r_iadd (pc := 940) C dL_law_940 ?_
  obtain ⟨hi1, h⟩ := ifn h
  refine r_sld (pc := 941) C hX hbl hbA hi1 dL_law_941 ?_
  refine r_aload_n (pc := 942) C (i := 3) dL_law_942 rfl rfl ?_
  obtain ⟨q2, hq2, h⟩ := bnd h
  refine r_callSH (pc := 943) C [.ref (a 0), .int (xs (x4 + (1 : Int32)).toNatClampNeg), .ref (c0 0)] hdc (c_L_covered E l k a (c0 0) S U (xs (x4 + (1 : Int32)).toNatClampNeg) hlt hq2) [0, 1, 2, 3, 4, 5, 6, 7, 8, 9, 10, 11, 12, 13, 14, 15, 16, 17, 18, 19, 20, 21, 22, 23, 24, 25, 26, 27, 28, 29, 30, 31, 32, 33, 34, 35, 36, 37, 38, 39, 40, 41, 42, 43, 44, 45, 46, 47, 48, 49, 50, 51, 52, 53, 54, 55, 56, 57, 58, 59, 60, 74] (hps_hi (List.append_assoc _ _ _).symm (hpL1 E a b c0 fa S T U V)) (by decide) gL_146 hd_L_covered.2 ⟨Nat.le_of_ble_eq_true rfl, Nat.le_of_ble_eq_true rfl⟩ ⟨by have h1 : room_1.cells = 601024 := rfl; have h2 := hcN.1; simp only [Nat.le_refl, rm_L_covered]; omega, by have h1 : room_1.slots = 7293034 := rfl; have h2 := hcN.2; simp only [Nat.le_refl, rm_L_covered]; omega⟩ (Nat.le_of_ble_eq_true rfl) rfl dL_law_943 (fun r w1 hw1 => ?_)
  obtain ⟨hr1, hw1⟩ := hw1
  subst hr1 hw1
  refine ⟨(wSg E a S ++ wMd E b T ++ wLo E c0 q2.2 ++ wHi E a fa V), putW_hi (List.append_assoc _ _ _).symm (List.append_assoc _ _ _).symm (hpL1 E a b c0 fa S T U V) rfl (pwL1 E a b c0 fa S T U V S q2.2), ?_⟩
  refine r_istore (pc := 946) C (i := 5) dL_law_946 (by decide) rfl ?_
  refine r_aload_n (pc := 948) C (i := 2) dL_law_948 rfl rfl ?_
  refine r_aload_n (pc := 949) C (i := 0) dL_law_949 rfl rfl ?_
  refine r_iload (pc := 950) C (i := 4) dL_law_950 rfl ?_
  refine r_iconst (pc := 952) C (v := 1) dL_law_952 (by decide) ?_
  refine r_iadd (pc := 953) C dL_law_953 ?_
  obtain ⟨hi3, h⟩ := ifn h
  refine r_sld (pc := 954) C hX hbl hbA hi3 dL_law_954 ?_
  obtain ⟨q4, hq4, h⟩ := bnd h
  refine r_callV_CI (Cn := RX10) (pc := 955) C [.int (xs (x4 + (1 : Int32)).toNatClampNeg)] (c_X10_covered E l k b T (xs (x4 + (1 : Int32)).toNatClampNeg) hq4) [61, 62, 63, 64, 65, 66, 67, 68, 69, 70, 71, 72, 73] (hps_hi (List.append_assoc _ _ _).symm (hp_L_204_1 E a b c0 fa S T q2.2 V)) (by decide) 0 rfl rfl rfl g_L_148 hd_X10_covered ⟨Nat.le_of_ble_eq_true rfl, Nat.le_of_ble_eq_true rfl⟩ ⟨by have h1 : room_1.cells = 601024 := rfl; have h2 := hcN.1; simp only [Nat.le_refl, rm_L_covered, rm_X10_covered]; omega, by have h1 : room_1.slots = 7293034 := rfl; have h2 := hcN.2; simp only [Nat.le_refl, rm_L_covered, rm_X10_covered]; omega⟩ (Nat.le_of_ble_eq_true rfl) rfl dL_law_955 (fun r w1 hw1 => ?_)
  obtain ⟨hr1, hw1⟩ := hw1
  subst hr1 hw1
  refine ⟨(wSg E a S ++ wMd E b q4.2 ++ wLo E c0 q2.2 ++ wHi E a fa V), by exact putW_hi (List.append_assoc _ _ _).symm (List.append_assoc _ _ _).symm (hp_L_204_1 E a b c0 fa S T q2.2 V) rfl (pw_L_204_1 E a b c0 fa S T q2.2 V q4.2), ?_⟩
  refine r_istore (pc := 958) C (i := 6) dL_law_958 (by decide) rfl ?_
  refine r_aload_n (pc := 960) C (i := 2) dL_law_960 rfl rfl ?_
  obtain ⟨q5, hq5, h⟩ := bnd h
  refine r_callVp_CI (Cn := RX10) (pc := 961) C [] (c_X10_thrown E l k b q4.2 hq5) [61, 62, 63, 64, 65, 66, 67, 68, 69, 70, 71, 72, 73] (hps_hi (List.append_assoc _ _ _).symm (hp_L_204_1 E a b c0 fa S q4.2 q2.2 V)) (by decide) 0 rfl rfl rfl g_L_106 hd_X10_thrown ⟨Nat.le_of_ble_eq_true rfl, Nat.le_of_ble_eq_true rfl⟩ ⟨by have h1 : room_1.cells = 601024 := rfl; have h2 := hcN.1; simp only [Nat.le_refl, rm_L_covered, rm_X10_covered, rm_X10_thrown]; omega, by have h1 : room_1.slots = 7293034 := rfl; have h2 := hcN.2; simp only [Nat.le_refl, rm_L_covered, rm_X10_covered, rm_X10_thrown]; omega⟩ (Nat.le_of_ble_eq_true rfl) rfl dL_law_961 (fun r hr => ?_)
  have hr := hr.symm
  subst hr
  refine r_iload (pc := 964) C (i := 5) dL_law_964 rfl ?_
  refine r_icmp_eq (pc := 966) C (tgt := 971) dL_law_966 rfl (fun c6 => ?_) (fun c6 => ?_)
  · rw [if_pos c6] at h
    refine r_iload (pc := 971) C (i := 5) dL_law_971 rfl ?_
    refine r_if_ne (pc := 973) C (tgt := 988) dL_law_973 rfl (fun c7 => ?_) (fun c7 => ?_)
    · rw [if_neg c7] at h
      refine r_goto (pc := 988) C (tgt := 2036) dL_law_988 rfl ?_
      cases h
      refine r_widen (k1 := cN + 20) (n1 := sN + 1600) (by simp only [Nat.le_refl, rm_L_covered, rm_X10_covered, rm_X10_thrown]; omega) (by simp only [Nat.le_refl, rm_L_covered, rm_X10_covered, rm_X10_thrown]; omega) ?_
      refine r_weak (lSub_s (lSub_s (lSub_s (lSub_s (lSub_s (lSub_n (lSub_n (lSub_n (lSub_n lSub_e))))))))) ?_
      exact hq fa
    · rw [if_pos c7] at h
      refine r_aload_n (pc := 976) C (i := 3) dL_law_976 rfl rfl ?_
      refine r_iconst (pc := 977) C (v := 0) dL_law_977 (by decide) ?_
      obtain ⟨hi8, h⟩ := ifn h
      refine r_lald (pc := 978) C 74 rfl hi8 dL_law_978 ?_
      refine r_iload (pc := 979) C (i := 6) dL_law_979 rfl ?_
      refine r_i2l (pc := 981) C dL_law_981 ?_
      refine r_lcmp (pc := 982) C dL_law_982 ?_
      refine r_if_eq (pc := 983) C (tgt := 988) dL_law_983 rfl (fun c9 => ?_) (fun c9 => ?_)
      · rw [if_pos c9] at h
        refine r_goto (pc := 988) C (tgt := 2036) dL_law_988 rfl ?_
        cases h
        refine r_widen (k1 := cN + 20) (n1 := sN + 1600) (by simp only [Nat.le_refl, rm_L_covered, rm_X10_covered, rm_X10_thrown]; omega) (by simp only [Nat.le_refl, rm_L_covered, rm_X10_covered, rm_X10_thrown]; omega) ?_
        refine r_weak (lSub_s (lSub_s (lSub_s (lSub_s (lSub_s (lSub_n (lSub_n (lSub_n (lSub_n lSub_e))))))))) ?_
        exact hq fa
      · rw [if_neg c9] at h
        refine r_iconst (pc := 986) C (v := 0) dL_law_986 (by decide) ?_
        cases h
  · rw [if_neg c6] at h
    refine r_iconst (pc := 969) C (v := 0) dL_law_969 (by decide) ?_
    cases h
theorem hd_X9_greatestOverlap : yX9_greatestOverlap.cls = RX9 ∧ yX9_greatestOverlap.cls ≠ "java/lang/invoke/MethodHandle" ∧ yX9_greatestOverlap.cls ≠ "java/lang/invoke/VarHandle" ∧ (parseMethodDescriptor yX9_greatestOverlap.desc).map (fun d => d.parameters.length) = some 0 := by decide +kernel
theorem g_L_149 : GoodIn GW (wsV RL 149 RX9 yX9_greatestOverlap (wsG yX9_greatestOverlap cX9_greatestOverlap 1 (some .int))) := gw_V wm_2_62 wm_2_63 wm_2_64 wm_1_1 wm_2_65
theorem hd_X10_greatestOverlap : yX10_greatestOverlap.cls = RX10 ∧ yX10_greatestOverlap.cls ≠ "java/lang/invoke/MethodHandle" ∧ yX10_greatestOverlap.cls ≠ "java/lang/invoke/VarHandle" ∧ (parseMethodDescriptor yX10_greatestOverlap.desc).map (fun d => d.parameters.length) = some 0 := by decide +kernel
theorem g_L_152 : GoodIn GW (wsV RL 152 RX10 yX10_greatestOverlap (wsG yX10_greatestOverlap cX10_greatestOverlap 1 (some .int))) := gw_V wm_6_222 wm_6_223 wm_6_224 wm_1_9 wm_6_225
-- the law from 991
theorem dL_law_991 : decode cL_law 991 = .ok (.aload_n 1, 1) := by decide +kernel
theorem dL_law_992 : decode cL_law 992 = .ok (.invokevirtual 149, 3) := by decide +kernel
theorem dL_law_995 : decode cL_law 995 = .ok (.aload_n 2, 1) := by decide +kernel
theorem dL_law_996 : decode cL_law 996 = .ok (.invokevirtual 152, 3) := by decide +kernel
theorem dL_law_999 : decode cL_law 999 = .ok (.if_icmp .eq 1037, 3) := by decide +kernel
theorem dL_law_1002 : decode cL_law 1002 = .ok (.iconst 0, 1) := by decide +kernel
theorem dL_law_1003 : decode cL_law 1003 = .ok (.ireturn, 1) := by decide +kernel
def M_L_991_991 (k Ls : Nat) (xs : Nat → Int32) (x4 : Int32) (S : VV × VV × VV × VV × VV × Int32) (T : Nat → Nat → Int32) (U : Nat → Int64) (V : Nat × Int32 × Int32 × (Nat → VV)) : Option ((VV × VV × VV × VV × VV × Int32) × (Nat → Nat → Int32) × (Nat → Int64) × (Nat × Int32 × Int32 × (Nat → VV))) := (M_X9_greatestOverlap k S).bind fun q1 => (M_X10_greatestOverlap k T).bind fun q2 => if q1 = q2.1 then (some (S, q2.2, U, V)) else (none)
set_option maxRecDepth 100000 in
set_option maxHeartbeats 4000000 in
theorem N_L_991_991 (C : CX E p l s m #[Value.ref bs] meth c cL_law 9 RL ret A) (a : Nat → Nat) (b : Nat → Nat) (c0 : Nat → Nat) (k Ls : Nat) (xs : Nat → Int32) (hX : va_X bs Ls xs s s.heap) (hbl : bs < s.heap.size) (hbA : ¬ A bs) (hlt : l.stackTraces = false) (hdc : DC s) (cN sN : Nat) (hcN : cN + 20 ≤ 601024 ∧ sN + 1600 ≤ 7293034) (fa : Nat → Nat → Nat) :
    ∀ (x4 : Int32) (S : VV × VV × VV × VV × VV × Int32) (T : Nat → Nat → Int32) (U : Nat → Int64) (V : Nat × Int32 × Int32 × (Nat → VV)) (q : (VV × VV × VV × VV × VV × Int32) × (Nat → Nat → Int32) × (Nat → Int64) × (Nat × Int32 × Int32 × (Nat → VV))), M_L_991_991 k Ls xs x4 S T U V = some q → (∀ fa' : Nat → Nat → Nat, WW E p l e room_1 s m #[Value.ref bs] below meth c A (cN + 20) (sN + 1600) (lw_Z below #[Value.ref bs] s) (wSg E a q.1 ++ wMd E b q.2.1 ++ wLo E c0 q.2.2.1 ++ wHi E a fa' q.2.2.2) 9 [some (.ref bs), some (.ref (a 0)), some (.ref (b 0)), some (.ref (c0 0)), some (.int x4), none, none, none, none] 2036 []) →
      WW E p l e room_1 s m #[Value.ref bs] below meth c A (cN + 0) (sN + 0) (lw_Z below #[Value.ref bs] s) (wSg E a S ++ wMd E b T ++ wLo E c0 U ++ wHi E a fa V) 9 [some (.ref bs), some (.ref (a 0)), some (.ref (b 0)), some (.ref (c0 0)), some (.int x4), none, none, none, none] 991 [] := by
  intro x4 S T U V q  h hq
  unfold M_L_991_991 at h
  refine r_aload_n (pc := 991) C (i := 1) dL_law_991 rfl rfl ?_
  obtain ⟨q1, hq1, h⟩ := bnd h
  refine r_callVp_CI (Cn := RX9) (pc := 992) C [] (c_X9_greatestOverlap E l k a S hq1) [0, 1, 2, 3, 4, 5, 6, 7, 8, 9, 10, 11, 12, 13, 14, 15, 16, 17, 18, 19, 20, 21, 22, 23, 24, 25, 26, 27, 28, 29, 30, 31, 32, 33, 34, 35, 36, 37, 38, 39, 40, 41, 42, 43, 44, 45, 46, 47, 48, 49, 50, 51, 52, 53, 54, 55, 56, 57, 58, 59, 60] (hps_hi (List.append_assoc _ _ _).symm (hp_L_204_0 E a b c0 fa S T U V)) (by decide) 0 rfl rfl rfl g_L_149 hd_X9_greatestOverlap ⟨Nat.le_of_ble_eq_true rfl, Nat.le_of_ble_eq_true rfl⟩ ⟨by have h1 : room_1.cells = 601024 := rfl; have h2 := hcN.1; simp only [Nat.le_refl, rm_X9_greatestOverlap]; omega, by have h1 : room_1.slots = 7293034 := rfl; have h2 := hcN.2; simp only [Nat.le_refl, rm_X9_greatestOverlap]; omega⟩ (Nat.le_of_ble_eq_true rfl) rfl dL_law_992 (fun r hr => ?_)
  have hr := hr.symm
  subst hr
  refine r_aload_n (pc := 995) C (i := 2) dL_law_995 rfl rfl ?_
  obtain ⟨q2, hq2, h⟩ := bnd h
  refine r_callV_CI (Cn := RX10) (pc := 996) C [] (c_X10_greatestOverlap E l k b T hq2) [61, 62, 63, 64, 65, 66, 67, 68, 69, 70, 71, 72, 73] (hps_hi (List.append_assoc _ _ _).symm (hp_L_204_1 E a b c0 fa S T U V)) (by decide) 0 rfl rfl rfl g_L_152 hd_X10_greatestOverlap ⟨Nat.le_of_ble_eq_true rfl, Nat.le_of_ble_eq_true rfl⟩ ⟨by have h1 : room_1.cells = 601024 := rfl; have h2 := hcN.1; simp only [Nat.le_refl, rm_X9_greatestOverlap, rm_X10_greatestOverlap]; omega, by have h1 : room_1.slots = 7293034 := rfl; have h2 := hcN.2; simp only [Nat.le_refl, rm_X9_greatestOverlap, rm_X10_greatestOverlap]; omega⟩ (Nat.le_of_ble_eq_true rfl) rfl dL_law_996 (fun r w1 hw1 => ?_)
  obtain ⟨hr1, hw1⟩ := hw1
  subst hr1 hw1
  refine ⟨(wSg E a S ++ wMd E b q2.2 ++ wLo E c0 U ++ wHi E a fa V), by exact putW_hi (List.append_assoc _ _ _).symm (List.append_assoc _ _ _).symm (hp_L_204_1 E a b c0 fa S T U V) rfl (pw_L_204_1 E a b c0 fa S T U V q2.2), ?_⟩
  refine r_icmp_eq (pc := 999) C (tgt := 2036) dL_law_999 rfl (fun c3 => ?_) (fun c3 => ?_)
  · rw [if_pos c3] at h
    cases h
    refine r_widen (k1 := cN + 20) (n1 := sN + 1600) (by simp only [Nat.le_refl, rm_X9_greatestOverlap, rm_X10_greatestOverlap]; omega) (by simp only [Nat.le_refl, rm_X9_greatestOverlap, rm_X10_greatestOverlap]; omega) ?_
    refine r_weak (lSub_s (lSub_s (lSub_s (lSub_s (lSub_s (lSub_n (lSub_n (lSub_n (lSub_n lSub_e))))))))) ?_
    exact hq fa
  · rw [if_neg c3] at h
    refine r_iconst (pc := 1002) C (v := 0) dL_law_1002 (by decide) ?_
    cases h
theorem hd_X10_bestShard : yX10_bestShard.cls = RX10 ∧ yX10_bestShard.cls ≠ "java/lang/invoke/MethodHandle" ∧ yX10_bestShard.cls ≠ "java/lang/invoke/VarHandle" ∧ (parseMethodDescriptor yX10_bestShard.desc).map (fun d => d.parameters.length) = some 1 := by decide +kernel
theorem g_L_155 : GoodIn GW (wsV RL 155 RX10 yX10_bestShard (wsG yX10_bestShard cX10_bestShard 4 (some .int))) := gw_V wm_6_231 wm_6_232 wm_6_233 wm_1_9 wm_6_234
theorem hd_L_bestShard : yL_bestShard.cls = RL ∧ yL_bestShard.cls ≠ "java/lang/invoke/MethodHandle" ∧ yL_bestShard.cls ≠ "java/lang/invoke/VarHandle" ∧ (parseMethodDescriptor yL_bestShard.desc).map (fun d => d.parameters.length) = some 3 := by decide +kernel
theorem gL_153 : GoodIn GW (va_wsS RL 153 yL_bestShard (Cond.codeWith yL_bestShard cL_bestShard 4 (some .int) [(0, 9, 12, 18)] :: GW)) := gw_SW wm_4_111 wm_4_112 wm_1_0 wm_4_113
-- the law from 1004
theorem dL_law_1004 : decode cL_law 1004 = .ok (.aload_n 1, 1) := by decide +kernel
theorem dL_law_1005 : decode cL_law 1005 = .ok (.aload_n 0, 1) := by decide +kernel
theorem dL_law_1006 : decode cL_law 1006 = .ok (.iload 4, 2) := by decide +kernel
theorem dL_law_1008 : decode cL_law 1008 = .ok (.iconst 1, 1) := by decide +kernel
theorem dL_law_1009 : decode cL_law 1009 = .ok (.iadd, 1) := by decide +kernel
theorem dL_law_1010 : decode cL_law 1010 = .ok (.iaload, 1) := by decide +kernel
theorem dL_law_1011 : decode cL_law 1011 = .ok (.aload_n 3, 1) := by decide +kernel
theorem dL_law_1012 : decode cL_law 1012 = .ok (.invokestatic 153, 3) := by decide +kernel
theorem dL_law_1015 : decode cL_law 1015 = .ok (.istore 5, 2) := by decide +kernel
theorem dL_law_1017 : decode cL_law 1017 = .ok (.aload_n 2, 1) := by decide +kernel
theorem dL_law_1018 : decode cL_law 1018 = .ok (.aload_n 0, 1) := by decide +kernel
theorem dL_law_1019 : decode cL_law 1019 = .ok (.iload 4, 2) := by decide +kernel
theorem dL_law_1021 : decode cL_law 1021 = .ok (.iconst 1, 1) := by decide +kernel
theorem dL_law_1022 : decode cL_law 1022 = .ok (.iadd, 1) := by decide +kernel
theorem dL_law_1023 : decode cL_law 1023 = .ok (.iaload, 1) := by decide +kernel
theorem dL_law_1024 : decode cL_law 1024 = .ok (.invokevirtual 155, 3) := by decide +kernel
theorem dL_law_1027 : decode cL_law 1027 = .ok (.istore 6, 2) := by decide +kernel
theorem dL_law_1029 : decode cL_law 1029 = .ok (.aload_n 2, 1) := by decide +kernel
theorem dL_law_1030 : decode cL_law 1030 = .ok (.invokevirtual 106, 3) := by decide +kernel
theorem dL_law_1033 : decode cL_law 1033 = .ok (.iload 5, 2) := by decide +kernel
theorem dL_law_1035 : decode cL_law 1035 = .ok (.if_icmp .eq 5, 3) := by decide +kernel
theorem dL_law_1038 : decode cL_law 1038 = .ok (.iconst 0, 1) := by decide +kernel
theorem dL_law_1039 : decode cL_law 1039 = .ok (.ireturn, 1) := by decide +kernel
theorem dL_law_1040 : decode cL_law 1040 = .ok (.iload 5, 2) := by decide +kernel
theorem dL_law_1042 : decode cL_law 1042 = .ok (.ifCond .ne 15, 3) := by decide +kernel
theorem dL_law_1045 : decode cL_law 1045 = .ok (.aload_n 3, 1) := by decide +kernel
theorem dL_law_1046 : decode cL_law 1046 = .ok (.iconst 0, 1) := by decide +kernel
theorem dL_law_1047 : decode cL_law 1047 = .ok (.laload, 1) := by decide +kernel
theorem dL_law_1048 : decode cL_law 1048 = .ok (.iload 6, 2) := by decide +kernel
theorem dL_law_1050 : decode cL_law 1050 = .ok (.i2l, 1) := by decide +kernel
theorem dL_law_1051 : decode cL_law 1051 = .ok (.lcmp, 1) := by decide +kernel
theorem dL_law_1052 : decode cL_law 1052 = .ok (.ifCond .eq 5, 3) := by decide +kernel
theorem dL_law_1055 : decode cL_law 1055 = .ok (.iconst 0, 1) := by decide +kernel
theorem dL_law_1056 : decode cL_law 1056 = .ok (.ireturn, 1) := by decide +kernel
theorem dL_law_1057 : decode cL_law 1057 = .ok (.goto 979, 3) := by decide +kernel
def M_L_1004_1004 (k Ls : Nat) (xs : Nat → Int32) (x4 : Int32) (S : VV × VV × VV × VV × VV × Int32) (T : Nat → Nat → Int32) (U : Nat → Int64) (V : Nat × Int32 × Int32 × (Nat → VV)) : Option ((VV × VV × VV × VV × VV × Int32) × (Nat → Nat → Int32) × (Nat → Int64) × (Nat × Int32 × Int32 × (Nat → VV))) := (if inb (x4 + (1 : Int32)) Ls = true then (M_L_bestShard k S U (xs (x4 + (1 : Int32)).toNatClampNeg)).bind fun q2 => (if inb (x4 + (1 : Int32)) Ls = true then (M_X10_bestShard k T (xs (x4 + (1 : Int32)).toNatClampNeg)).bind fun q4 => (M_X10_thrown k q4.2).bind fun q5 => if q5 = q2.1 then (if q2.1 = 0 then ((if inb (0 : Int32) 1 = true then if (lg_cmp (q2.2 (0 : Int32).toNatClampNeg) (q4.1.toInt64)) = 0 then (some (S, q4.2, q2.2, V)) else (none) else none)) else (some (S, q4.2, q2.2, V))) else (none) else none) else none)
set_option maxRecDepth 100000 in
set_option maxHeartbeats 4000000 in
theorem N_L_1004_1004 (C : CX E p l s m #[Value.ref bs] meth c cL_law 9 RL ret A) (a : Nat → Nat) (b : Nat → Nat) (c0 : Nat → Nat) (k Ls : Nat) (xs : Nat → Int32) (hX : va_X bs Ls xs s s.heap) (hbl : bs < s.heap.size) (hbA : ¬ A bs) (hlt : l.stackTraces = false) (hdc : DC s) (cN sN : Nat) (hcN : cN + 20 ≤ 601024 ∧ sN + 1600 ≤ 7293034) (fa : Nat → Nat → Nat) :
    ∀ (x4 : Int32) (S : VV × VV × VV × VV × VV × Int32) (T : Nat → Nat → Int32) (U : Nat → Int64) (V : Nat × Int32 × Int32 × (Nat → VV)) (q : (VV × VV × VV × VV × VV × Int32) × (Nat → Nat → Int32) × (Nat → Int64) × (Nat × Int32 × Int32 × (Nat → VV))), M_L_1004_1004 k Ls xs x4 S T U V = some q → (∀ fa' : Nat → Nat → Nat, WW E p l e room_1 s m #[Value.ref bs] below meth c A (cN + 20) (sN + 1600) (lw_Z below #[Value.ref bs] s) (wSg E a q.1 ++ wMd E b q.2.1 ++ wLo E c0 q.2.2.1 ++ wHi E a fa' q.2.2.2) 9 [some (.ref bs), some (.ref (a 0)), some (.ref (b 0)), some (.ref (c0 0)), some (.int x4), none, none, none, none] 2036 []) →
      WW E p l e room_1 s m #[Value.ref bs] below meth c A (cN + 0) (sN + 0) (lw_Z below #[Value.ref bs] s) (wSg E a S ++ wMd E b T ++ wLo E c0 U ++ wHi E a fa V) 9 [some (.ref bs), some (.ref (a 0)), some (.ref (b 0)), some (.ref (c0 0)), some (.int x4), none, none, none, none] 1004 [] := by
  intro x4 S T U V q  h hq
  unfold M_L_1004_1004 at h
  refine r_aload_n (pc := 1004) C (i := 1) dL_law_1004 rfl rfl ?_
  refine r_aload_n (pc := 1005) C (i := 0) dL_law_1005 rfl rfl ?_
  refine r_iload (pc := 1006) C (i := 4) dL_law_1006 rfl ?_
  refine r_iconst (pc := 1008) C (v := 1) dL_law_1008 (by decide) ?_
  refine r_iadd (pc := 1009) C dL_law_1009 ?_
  obtain ⟨hi1, h⟩ := ifn h
  refine r_sld (pc := 1010) C hX hbl hbA hi1 dL_law_1010 ?_
  refine r_aload_n (pc := 1011) C (i := 3) dL_law_1011 rfl rfl ?_
  obtain ⟨q2, hq2, h⟩ := bnd h
  refine r_callSH (pc := 1012) C [.ref (a 0), .int (xs (x4 + (1 : Int32)).toNatClampNeg), .ref (c0 0)] hdc (c_L_bestShard E l k a (c0 0) S U (xs (x4 + (1 : Int32)).toNatClampNeg) hlt hq2) [0, 1, 2, 3, 4, 5, 6, 7, 8, 9, 10, 11, 12, 13, 14, 15, 16, 17, 18, 19, 20, 21, 22, 23, 24, 25, 26, 27, 28, 29, 30, 31, 32, 33, 34, 35, 36, 37, 38, 39, 40, 41, 42, 43, 44, 45, 46, 47, 48, 49, 50, 51, 52, 53, 54, 55, 56, 57, 58, 59, 60, 74] (hps_hi (List.append_assoc _ _ _).symm (hpL1 E a b c0 fa S T U V)) (by decide) gL_153 hd_L_bestShard.2 ⟨Nat.le_of_ble_eq_true rfl, Nat.le_of_ble_eq_true rfl⟩ ⟨by have h1 : room_1.cells = 601024 := rfl; have h2 := hcN.1; simp only [Nat.le_refl, rm_L_bestShard]; omega, by have h1 : room_1.slots = 7293034 := rfl; have h2 := hcN.2; simp only [Nat.le_refl, rm_L_bestShard]; omega⟩ (Nat.le_of_ble_eq_true rfl) rfl dL_law_1012 (fun r w1 hw1 => ?_)
  obtain ⟨hr1, hw1⟩ := hw1
  subst hr1 hw1
  refine ⟨(wSg E a S ++ wMd E b T ++ wLo E c0 q2.2 ++ wHi E a fa V), putW_hi (List.append_assoc _ _ _).symm (List.append_assoc _ _ _).symm (hpL1 E a b c0 fa S T U V) rfl (pwL1 E a b c0 fa S T U V S q2.2), ?_⟩
  refine r_istore (pc := 1015) C (i := 5) dL_law_1015 (by decide) rfl ?_
  refine r_aload_n (pc := 1017) C (i := 2) dL_law_1017 rfl rfl ?_
  refine r_aload_n (pc := 1018) C (i := 0) dL_law_1018 rfl rfl ?_
  refine r_iload (pc := 1019) C (i := 4) dL_law_1019 rfl ?_
  refine r_iconst (pc := 1021) C (v := 1) dL_law_1021 (by decide) ?_
  refine r_iadd (pc := 1022) C dL_law_1022 ?_
  obtain ⟨hi3, h⟩ := ifn h
  refine r_sld (pc := 1023) C hX hbl hbA hi3 dL_law_1023 ?_
  obtain ⟨q4, hq4, h⟩ := bnd h
  refine r_callV_CI (Cn := RX10) (pc := 1024) C [.int (xs (x4 + (1 : Int32)).toNatClampNeg)] (c_X10_bestShard E l k b T (xs (x4 + (1 : Int32)).toNatClampNeg) hq4) [61, 62, 63, 64, 65, 66, 67, 68, 69, 70, 71, 72, 73] (hps_hi (List.append_assoc _ _ _).symm (hp_L_204_1 E a b c0 fa S T q2.2 V)) (by decide) 0 rfl rfl rfl g_L_155 hd_X10_bestShard ⟨Nat.le_of_ble_eq_true rfl, Nat.le_of_ble_eq_true rfl⟩ ⟨by have h1 : room_1.cells = 601024 := rfl; have h2 := hcN.1; simp only [Nat.le_refl, rm_L_bestShard, rm_X10_bestShard]; omega, by have h1 : room_1.slots = 7293034 := rfl; have h2 := hcN.2; simp only [Nat.le_refl, rm_L_bestShard, rm_X10_bestShard]; omega⟩ (Nat.le_of_ble_eq_true rfl) rfl dL_law_1024 (fun r w1 hw1 => ?_)
  obtain ⟨hr1, hw1⟩ := hw1
  subst hr1 hw1
  refine ⟨(wSg E a S ++ wMd E b q4.2 ++ wLo E c0 q2.2 ++ wHi E a fa V), by exact putW_hi (List.append_assoc _ _ _).symm (List.append_assoc _ _ _).symm (hp_L_204_1 E a b c0 fa S T q2.2 V) rfl (pw_L_204_1 E a b c0 fa S T q2.2 V q4.2), ?_⟩
  refine r_istore (pc := 1027) C (i := 6) dL_law_1027 (by decide) rfl ?_
  refine r_aload_n (pc := 1029) C (i := 2) dL_law_1029 rfl rfl ?_
  obtain ⟨q5, hq5, h⟩ := bnd h
  refine r_callVp_CI (Cn := RX10) (pc := 1030) C [] (c_X10_thrown E l k b q4.2 hq5) [61, 62, 63, 64, 65, 66, 67, 68, 69, 70, 71, 72, 73] (hps_hi (List.append_assoc _ _ _).symm (hp_L_204_1 E a b c0 fa S q4.2 q2.2 V)) (by decide) 0 rfl rfl rfl g_L_106 hd_X10_thrown ⟨Nat.le_of_ble_eq_true rfl, Nat.le_of_ble_eq_true rfl⟩ ⟨by have h1 : room_1.cells = 601024 := rfl; have h2 := hcN.1; simp only [Nat.le_refl, rm_L_bestShard, rm_X10_bestShard, rm_X10_thrown]; omega, by have h1 : room_1.slots = 7293034 := rfl; have h2 := hcN.2; simp only [Nat.le_refl, rm_L_bestShard, rm_X10_bestShard, rm_X10_thrown]; omega⟩ (Nat.le_of_ble_eq_true rfl) rfl dL_law_1030 (fun r hr => ?_)
  have hr := hr.symm
  subst hr
  refine r_iload (pc := 1033) C (i := 5) dL_law_1033 rfl ?_
  refine r_icmp_eq (pc := 1035) C (tgt := 1040) dL_law_1035 rfl (fun c6 => ?_) (fun c6 => ?_)
  · rw [if_pos c6] at h
    refine r_iload (pc := 1040) C (i := 5) dL_law_1040 rfl ?_
    refine r_if_ne (pc := 1042) C (tgt := 1057) dL_law_1042 rfl (fun c7 => ?_) (fun c7 => ?_)
    · rw [if_neg c7] at h
      refine r_goto (pc := 1057) C (tgt := 2036) dL_law_1057 rfl ?_
      cases h
      refine r_widen (k1 := cN + 20) (n1 := sN + 1600) (by simp only [Nat.le_refl, rm_L_bestShard, rm_X10_bestShard, rm_X10_thrown]; omega) (by simp only [Nat.le_refl, rm_L_bestShard, rm_X10_bestShard, rm_X10_thrown]; omega) ?_
      refine r_weak (lSub_s (lSub_s (lSub_s (lSub_s (lSub_s (lSub_n (lSub_n (lSub_n (lSub_n lSub_e))))))))) ?_
      exact hq fa
    · rw [if_pos c7] at h
      refine r_aload_n (pc := 1045) C (i := 3) dL_law_1045 rfl rfl ?_
      refine r_iconst (pc := 1046) C (v := 0) dL_law_1046 (by decide) ?_
      obtain ⟨hi8, h⟩ := ifn h
      refine r_lald (pc := 1047) C 74 rfl hi8 dL_law_1047 ?_
      refine r_iload (pc := 1048) C (i := 6) dL_law_1048 rfl ?_
      refine r_i2l (pc := 1050) C dL_law_1050 ?_
      refine r_lcmp (pc := 1051) C dL_law_1051 ?_
      refine r_if_eq (pc := 1052) C (tgt := 1057) dL_law_1052 rfl (fun c9 => ?_) (fun c9 => ?_)
      · rw [if_pos c9] at h
        refine r_goto (pc := 1057) C (tgt := 2036) dL_law_1057 rfl ?_
        cases h
        refine r_widen (k1 := cN + 20) (n1 := sN + 1600) (by simp only [Nat.le_refl, rm_L_bestShard, rm_X10_bestShard, rm_X10_thrown]; omega) (by simp only [Nat.le_refl, rm_L_bestShard, rm_X10_bestShard, rm_X10_thrown]; omega) ?_
        refine r_weak (lSub_s (lSub_s (lSub_s (lSub_s (lSub_s (lSub_n (lSub_n (lSub_n (lSub_n lSub_e))))))))) ?_
        exact hq fa
      · rw [if_neg c9] at h
        refine r_iconst (pc := 1055) C (v := 0) dL_law_1055 (by decide) ?_
        cases h
  · rw [if_neg c6] at h
    refine r_iconst (pc := 1038) C (v := 0) dL_law_1038 (by decide) ?_
    cases h
theorem hd_X10_drawn : yX10_drawn.cls = RX10 ∧ yX10_drawn.cls ≠ "java/lang/invoke/MethodHandle" ∧ yX10_drawn.cls ≠ "java/lang/invoke/VarHandle" ∧ (parseMethodDescriptor yX10_drawn.desc).map (fun d => d.parameters.length) = some 2 := by decide +kernel
theorem g_L_158 : GoodIn GW (wsV RL 158 RX10 yX10_drawn (wsG yX10_drawn cX10_drawn 4 (some .int))) := gw_V wm_6_239 wm_7_0 wm_7_1 wm_1_9 wm_7_2
theorem hd_L_drawn : yL_drawn.cls = RL ∧ yL_drawn.cls ≠ "java/lang/invoke/MethodHandle" ∧ yL_drawn.cls ≠ "java/lang/invoke/VarHandle" ∧ (parseMethodDescriptor yL_drawn.desc).map (fun d => d.parameters.length) = some 4 := by decide +kernel
theorem gL_156 : GoodIn GW (va_wsS RL 156 yL_drawn (Cond.codeWith yL_drawn cL_drawn 5 (some .int) [(0, 10, 13, 18), (0, 10, 17, 13)] :: GW)) := gw_SW wm_4_126 wm_4_127 wm_1_0 wm_4_128
-- the law from 1060
theorem dL_law_1060 : decode cL_law 1060 = .ok (.aload_n 1, 1) := by decide +kernel
theorem dL_law_1061 : decode cL_law 1061 = .ok (.aload_n 0, 1) := by decide +kernel
theorem dL_law_1062 : decode cL_law 1062 = .ok (.iload 4, 2) := by decide +kernel
theorem dL_law_1064 : decode cL_law 1064 = .ok (.iconst 1, 1) := by decide +kernel
theorem dL_law_1065 : decode cL_law 1065 = .ok (.iadd, 1) := by decide +kernel
theorem dL_law_1066 : decode cL_law 1066 = .ok (.iaload, 1) := by decide +kernel
theorem dL_law_1067 : decode cL_law 1067 = .ok (.aload_n 0, 1) := by decide +kernel
theorem dL_law_1068 : decode cL_law 1068 = .ok (.iload 4, 2) := by decide +kernel
theorem dL_law_1070 : decode cL_law 1070 = .ok (.iconst 2, 1) := by decide +kernel
theorem dL_law_1071 : decode cL_law 1071 = .ok (.iadd, 1) := by decide +kernel
theorem dL_law_1072 : decode cL_law 1072 = .ok (.iaload, 1) := by decide +kernel
theorem dL_law_1073 : decode cL_law 1073 = .ok (.aload_n 3, 1) := by decide +kernel
theorem dL_law_1074 : decode cL_law 1074 = .ok (.invokestatic 156, 3) := by decide +kernel
theorem dL_law_1077 : decode cL_law 1077 = .ok (.istore 5, 2) := by decide +kernel
theorem dL_law_1079 : decode cL_law 1079 = .ok (.aload_n 2, 1) := by decide +kernel
theorem dL_law_1080 : decode cL_law 1080 = .ok (.aload_n 0, 1) := by decide +kernel
theorem dL_law_1081 : decode cL_law 1081 = .ok (.iload 4, 2) := by decide +kernel
theorem dL_law_1083 : decode cL_law 1083 = .ok (.iconst 1, 1) := by decide +kernel
theorem dL_law_1084 : decode cL_law 1084 = .ok (.iadd, 1) := by decide +kernel
theorem dL_law_1085 : decode cL_law 1085 = .ok (.iaload, 1) := by decide +kernel
theorem dL_law_1086 : decode cL_law 1086 = .ok (.aload_n 0, 1) := by decide +kernel
theorem dL_law_1087 : decode cL_law 1087 = .ok (.iload 4, 2) := by decide +kernel
theorem dL_law_1089 : decode cL_law 1089 = .ok (.iconst 2, 1) := by decide +kernel
theorem dL_law_1090 : decode cL_law 1090 = .ok (.iadd, 1) := by decide +kernel
theorem dL_law_1091 : decode cL_law 1091 = .ok (.iaload, 1) := by decide +kernel
theorem dL_law_1092 : decode cL_law 1092 = .ok (.invokevirtual 158, 3) := by decide +kernel
theorem dL_law_1095 : decode cL_law 1095 = .ok (.istore 6, 2) := by decide +kernel
theorem dL_law_1097 : decode cL_law 1097 = .ok (.aload_n 2, 1) := by decide +kernel
theorem dL_law_1098 : decode cL_law 1098 = .ok (.invokevirtual 106, 3) := by decide +kernel
theorem dL_law_1101 : decode cL_law 1101 = .ok (.iload 5, 2) := by decide +kernel
theorem dL_law_1103 : decode cL_law 1103 = .ok (.if_icmp .eq 5, 3) := by decide +kernel
theorem dL_law_1106 : decode cL_law 1106 = .ok (.iconst 0, 1) := by decide +kernel
theorem dL_law_1107 : decode cL_law 1107 = .ok (.ireturn, 1) := by decide +kernel
theorem dL_law_1108 : decode cL_law 1108 = .ok (.iload 5, 2) := by decide +kernel
theorem dL_law_1110 : decode cL_law 1110 = .ok (.ifCond .ne 15, 3) := by decide +kernel
theorem dL_law_1113 : decode cL_law 1113 = .ok (.aload_n 3, 1) := by decide +kernel
theorem dL_law_1114 : decode cL_law 1114 = .ok (.iconst 0, 1) := by decide +kernel
theorem dL_law_1115 : decode cL_law 1115 = .ok (.laload, 1) := by decide +kernel
theorem dL_law_1116 : decode cL_law 1116 = .ok (.iload 6, 2) := by decide +kernel
theorem dL_law_1118 : decode cL_law 1118 = .ok (.i2l, 1) := by decide +kernel
theorem dL_law_1119 : decode cL_law 1119 = .ok (.lcmp, 1) := by decide +kernel
theorem dL_law_1120 : decode cL_law 1120 = .ok (.ifCond .eq 5, 3) := by decide +kernel
theorem dL_law_1123 : decode cL_law 1123 = .ok (.iconst 0, 1) := by decide +kernel
theorem dL_law_1124 : decode cL_law 1124 = .ok (.ireturn, 1) := by decide +kernel
theorem dL_law_1125 : decode cL_law 1125 = .ok (.goto 911, 3) := by decide +kernel
def M_L_1060_1060 (k Ls : Nat) (xs : Nat → Int32) (x4 : Int32) (S : VV × VV × VV × VV × VV × Int32) (T : Nat → Nat → Int32) (U : Nat → Int64) (V : Nat × Int32 × Int32 × (Nat → VV)) : Option ((VV × VV × VV × VV × VV × Int32) × (Nat → Nat → Int32) × (Nat → Int64) × (Nat × Int32 × Int32 × (Nat → VV))) := (if inb (x4 + (1 : Int32)) Ls = true then (if inb (x4 + (2 : Int32)) Ls = true then (M_L_drawn k S U (xs (x4 + (1 : Int32)).toNatClampNeg) (xs (x4 + (2 : Int32)).toNatClampNeg)).bind fun q3 => (if inb (x4 + (1 : Int32)) Ls = true then (if inb (x4 + (2 : Int32)) Ls = true then (M_X10_drawn k T (xs (x4 + (1 : Int32)).toNatClampNeg) (xs (x4 + (2 : Int32)).toNatClampNeg)).bind fun q6 => (M_X10_thrown k q6.2).bind fun q7 => if q7 = q3.1 then (if q3.1 = 0 then ((if inb (0 : Int32) 1 = true then if (lg_cmp (q3.2.2 (0 : Int32).toNatClampNeg) (q6.1.toInt64)) = 0 then (some (q3.2.1, q6.2, q3.2.2, V)) else (none) else none)) else (some (q3.2.1, q6.2, q3.2.2, V))) else (none) else none) else none) else none) else none)
set_option maxRecDepth 100000 in
set_option maxHeartbeats 4000000 in
theorem N_L_1060_1060 (C : CX E p l s m #[Value.ref bs] meth c cL_law 9 RL ret A) (a : Nat → Nat) (b : Nat → Nat) (c0 : Nat → Nat) (k Ls : Nat) (xs : Nat → Int32) (hX : va_X bs Ls xs s s.heap) (hbl : bs < s.heap.size) (hbA : ¬ A bs) (hlt : l.stackTraces = false) (hdc : DC s) (cN sN : Nat) (hcN : cN + 20 ≤ 601024 ∧ sN + 1600 ≤ 7293034) (fa : Nat → Nat → Nat) :
    ∀ (x4 : Int32) (S : VV × VV × VV × VV × VV × Int32) (T : Nat → Nat → Int32) (U : Nat → Int64) (V : Nat × Int32 × Int32 × (Nat → VV)) (q : (VV × VV × VV × VV × VV × Int32) × (Nat → Nat → Int32) × (Nat → Int64) × (Nat × Int32 × Int32 × (Nat → VV))), M_L_1060_1060 k Ls xs x4 S T U V = some q → (∀ fa' : Nat → Nat → Nat, WW E p l e room_1 s m #[Value.ref bs] below meth c A (cN + 20) (sN + 1600) (lw_Z below #[Value.ref bs] s) (wSg E a q.1 ++ wMd E b q.2.1 ++ wLo E c0 q.2.2.1 ++ wHi E a fa' q.2.2.2) 9 [some (.ref bs), some (.ref (a 0)), some (.ref (b 0)), some (.ref (c0 0)), some (.int x4), none, none, none, none] 2036 []) →
      WW E p l e room_1 s m #[Value.ref bs] below meth c A (cN + 0) (sN + 0) (lw_Z below #[Value.ref bs] s) (wSg E a S ++ wMd E b T ++ wLo E c0 U ++ wHi E a fa V) 9 [some (.ref bs), some (.ref (a 0)), some (.ref (b 0)), some (.ref (c0 0)), some (.int x4), none, none, none, none] 1060 [] := by
  intro x4 S T U V q  h hq
  unfold M_L_1060_1060 at h
  refine r_aload_n (pc := 1060) C (i := 1) dL_law_1060 rfl rfl ?_
  refine r_aload_n (pc := 1061) C (i := 0) dL_law_1061 rfl rfl ?_
  refine r_iload (pc := 1062) C (i := 4) dL_law_1062 rfl ?_
  refine r_iconst (pc := 1064) C (v := 1) dL_law_1064 (by decide) ?_
  refine r_iadd (pc := 1065) C dL_law_1065 ?_
  obtain ⟨hi1, h⟩ := ifn h
  refine r_sld (pc := 1066) C hX hbl hbA hi1 dL_law_1066 ?_
  refine r_aload_n (pc := 1067) C (i := 0) dL_law_1067 rfl rfl ?_
  refine r_iload (pc := 1068) C (i := 4) dL_law_1068 rfl ?_
  refine r_iconst (pc := 1070) C (v := 2) dL_law_1070 (by decide) ?_
  refine r_iadd (pc := 1071) C dL_law_1071 ?_
  obtain ⟨hi2, h⟩ := ifn h
  refine r_sld (pc := 1072) C hX hbl hbA hi2 dL_law_1072 ?_
  refine r_aload_n (pc := 1073) C (i := 3) dL_law_1073 rfl rfl ?_
  obtain ⟨q3, hq3, h⟩ := bnd h
  refine r_callSH (pc := 1074) C [.ref (a 0), .int (xs (x4 + (1 : Int32)).toNatClampNeg), .int (xs (x4 + (2 : Int32)).toNatClampNeg), .ref (c0 0)] hdc (c_L_drawn E l k a (c0 0) S U (xs (x4 + (1 : Int32)).toNatClampNeg) (xs (x4 + (2 : Int32)).toNatClampNeg) hlt hq3) [0, 1, 2, 3, 4, 5, 6, 7, 8, 9, 10, 11, 12, 13, 14, 15, 16, 17, 18, 19, 20, 21, 22, 23, 24, 25, 26, 27, 28, 29, 30, 31, 32, 33, 34, 35, 36, 37, 38, 39, 40, 41, 42, 43, 44, 45, 46, 47, 48, 49, 50, 51, 52, 53, 54, 55, 56, 57, 58, 59, 60, 74] (hps_hi (List.append_assoc _ _ _).symm (hpL1 E a b c0 fa S T U V)) (by decide) gL_156 hd_L_drawn.2 ⟨Nat.le_of_ble_eq_true rfl, Nat.le_of_ble_eq_true rfl⟩ ⟨by have h1 : room_1.cells = 601024 := rfl; have h2 := hcN.1; simp only [Nat.le_refl, rm_L_drawn]; omega, by have h1 : room_1.slots = 7293034 := rfl; have h2 := hcN.2; simp only [Nat.le_refl, rm_L_drawn]; omega⟩ (Nat.le_of_ble_eq_true rfl) rfl dL_law_1074 (fun r w1 hw1 => ?_)
  obtain ⟨hr1, hw1⟩ := hw1
  subst hr1 hw1
  refine ⟨(wSg E a q3.2.1 ++ wMd E b T ++ wLo E c0 q3.2.2 ++ wHi E a fa V), putW_hi (List.append_assoc _ _ _).symm (List.append_assoc _ _ _).symm (hpL1 E a b c0 fa S T U V) rfl (pwL1 E a b c0 fa S T U V q3.2.1 q3.2.2), ?_⟩
  refine r_istore (pc := 1077) C (i := 5) dL_law_1077 (by decide) rfl ?_
  refine r_aload_n (pc := 1079) C (i := 2) dL_law_1079 rfl rfl ?_
  refine r_aload_n (pc := 1080) C (i := 0) dL_law_1080 rfl rfl ?_
  refine r_iload (pc := 1081) C (i := 4) dL_law_1081 rfl ?_
  refine r_iconst (pc := 1083) C (v := 1) dL_law_1083 (by decide) ?_
  refine r_iadd (pc := 1084) C dL_law_1084 ?_
  obtain ⟨hi4, h⟩ := ifn h
  refine r_sld (pc := 1085) C hX hbl hbA hi4 dL_law_1085 ?_
  refine r_aload_n (pc := 1086) C (i := 0) dL_law_1086 rfl rfl ?_
  refine r_iload (pc := 1087) C (i := 4) dL_law_1087 rfl ?_
  refine r_iconst (pc := 1089) C (v := 2) dL_law_1089 (by decide) ?_
  refine r_iadd (pc := 1090) C dL_law_1090 ?_
  obtain ⟨hi5, h⟩ := ifn h
  refine r_sld (pc := 1091) C hX hbl hbA hi5 dL_law_1091 ?_
  obtain ⟨q6, hq6, h⟩ := bnd h
  refine r_callV_CI (Cn := RX10) (pc := 1092) C [.int (xs (x4 + (1 : Int32)).toNatClampNeg), .int (xs (x4 + (2 : Int32)).toNatClampNeg)] (c_X10_drawn E l k b T (xs (x4 + (1 : Int32)).toNatClampNeg) (xs (x4 + (2 : Int32)).toNatClampNeg) hq6) [61, 62, 63, 64, 65, 66, 67, 68, 69, 70, 71, 72, 73] (hps_hi (List.append_assoc _ _ _).symm (hp_L_204_1 E a b c0 fa q3.2.1 T q3.2.2 V)) (by decide) 0 rfl rfl rfl g_L_158 hd_X10_drawn ⟨Nat.le_of_ble_eq_true rfl, Nat.le_of_ble_eq_true rfl⟩ ⟨by have h1 : room_1.cells = 601024 := rfl; have h2 := hcN.1; simp only [Nat.le_refl, rm_L_drawn, rm_X10_drawn]; omega, by have h1 : room_1.slots = 7293034 := rfl; have h2 := hcN.2; simp only [Nat.le_refl, rm_L_drawn, rm_X10_drawn]; omega⟩ (Nat.le_of_ble_eq_true rfl) rfl dL_law_1092 (fun r w1 hw1 => ?_)
  obtain ⟨hr1, hw1⟩ := hw1
  subst hr1 hw1
  refine ⟨(wSg E a q3.2.1 ++ wMd E b q6.2 ++ wLo E c0 q3.2.2 ++ wHi E a fa V), by exact putW_hi (List.append_assoc _ _ _).symm (List.append_assoc _ _ _).symm (hp_L_204_1 E a b c0 fa q3.2.1 T q3.2.2 V) rfl (pw_L_204_1 E a b c0 fa q3.2.1 T q3.2.2 V q6.2), ?_⟩
  refine r_istore (pc := 1095) C (i := 6) dL_law_1095 (by decide) rfl ?_
  refine r_aload_n (pc := 1097) C (i := 2) dL_law_1097 rfl rfl ?_
  obtain ⟨q7, hq7, h⟩ := bnd h
  refine r_callVp_CI (Cn := RX10) (pc := 1098) C [] (c_X10_thrown E l k b q6.2 hq7) [61, 62, 63, 64, 65, 66, 67, 68, 69, 70, 71, 72, 73] (hps_hi (List.append_assoc _ _ _).symm (hp_L_204_1 E a b c0 fa q3.2.1 q6.2 q3.2.2 V)) (by decide) 0 rfl rfl rfl g_L_106 hd_X10_thrown ⟨Nat.le_of_ble_eq_true rfl, Nat.le_of_ble_eq_true rfl⟩ ⟨by have h1 : room_1.cells = 601024 := rfl; have h2 := hcN.1; simp only [Nat.le_refl, rm_L_drawn, rm_X10_drawn, rm_X10_thrown]; omega, by have h1 : room_1.slots = 7293034 := rfl; have h2 := hcN.2; simp only [Nat.le_refl, rm_L_drawn, rm_X10_drawn, rm_X10_thrown]; omega⟩ (Nat.le_of_ble_eq_true rfl) rfl dL_law_1098 (fun r hr => ?_)
  have hr := hr.symm
  subst hr
  refine r_iload (pc := 1101) C (i := 5) dL_law_1101 rfl ?_
  refine r_icmp_eq (pc := 1103) C (tgt := 1108) dL_law_1103 rfl (fun c8 => ?_) (fun c8 => ?_)
  · rw [if_pos c8] at h
    refine r_iload (pc := 1108) C (i := 5) dL_law_1108 rfl ?_
    refine r_if_ne (pc := 1110) C (tgt := 1125) dL_law_1110 rfl (fun c9 => ?_) (fun c9 => ?_)
    · rw [if_neg c9] at h
      refine r_goto (pc := 1125) C (tgt := 2036) dL_law_1125 rfl ?_
      cases h
      refine r_widen (k1 := cN + 20) (n1 := sN + 1600) (by simp only [Nat.le_refl, rm_L_drawn, rm_X10_drawn, rm_X10_thrown]; omega) (by simp only [Nat.le_refl, rm_L_drawn, rm_X10_drawn, rm_X10_thrown]; omega) ?_
      refine r_weak (lSub_s (lSub_s (lSub_s (lSub_s (lSub_s (lSub_n (lSub_n (lSub_n (lSub_n lSub_e))))))))) ?_
      exact hq fa
    · rw [if_pos c9] at h
      refine r_aload_n (pc := 1113) C (i := 3) dL_law_1113 rfl rfl ?_
      refine r_iconst (pc := 1114) C (v := 0) dL_law_1114 (by decide) ?_
      obtain ⟨hi10, h⟩ := ifn h
      refine r_lald (pc := 1115) C 74 rfl hi10 dL_law_1115 ?_
      refine r_iload (pc := 1116) C (i := 6) dL_law_1116 rfl ?_
      refine r_i2l (pc := 1118) C dL_law_1118 ?_
      refine r_lcmp (pc := 1119) C dL_law_1119 ?_
      refine r_if_eq (pc := 1120) C (tgt := 1125) dL_law_1120 rfl (fun c11 => ?_) (fun c11 => ?_)
      · rw [if_pos c11] at h
        refine r_goto (pc := 1125) C (tgt := 2036) dL_law_1125 rfl ?_
        cases h
        refine r_widen (k1 := cN + 20) (n1 := sN + 1600) (by simp only [Nat.le_refl, rm_L_drawn, rm_X10_drawn, rm_X10_thrown]; omega) (by simp only [Nat.le_refl, rm_L_drawn, rm_X10_drawn, rm_X10_thrown]; omega) ?_
        refine r_weak (lSub_s (lSub_s (lSub_s (lSub_s (lSub_s (lSub_n (lSub_n (lSub_n (lSub_n lSub_e))))))))) ?_
        exact hq fa
      · rw [if_neg c11] at h
        refine r_iconst (pc := 1123) C (v := 0) dL_law_1123 (by decide) ?_
        cases h
  · rw [if_neg c8] at h
    refine r_iconst (pc := 1106) C (v := 0) dL_law_1106 (by decide) ?_
    cases h
theorem hd_X9_bestSeed : yX9_bestSeed.cls = RX9 ∧ yX9_bestSeed.cls ≠ "java/lang/invoke/MethodHandle" ∧ yX9_bestSeed.cls ≠ "java/lang/invoke/VarHandle" ∧ (parseMethodDescriptor yX9_bestSeed.desc).map (fun d => d.parameters.length) = some 0 := by decide +kernel
theorem g_L_159 : GoodIn GW (wsV RL 159 RX9 yX9_bestSeed (wsG yX9_bestSeed cX9_bestSeed 5 (some .int))) := gw_V wm_2_88 wm_2_89 wm_2_90 wm_1_1 wm_2_91
theorem hd_X10_bestSeed : yX10_bestSeed.cls = RX10 ∧ yX10_bestSeed.cls ≠ "java/lang/invoke/MethodHandle" ∧ yX10_bestSeed.cls ≠ "java/lang/invoke/VarHandle" ∧ (parseMethodDescriptor yX10_bestSeed.desc).map (fun d => d.parameters.length) = some 0 := by decide +kernel
theorem g_L_162 : GoodIn GW (wsV RL 162 RX10 yX10_bestSeed (wsG yX10_bestSeed cX10_bestSeed 5 (some .int))) := gw_V wm_7_26 wm_7_27 wm_7_28 wm_1_9 wm_7_29
-- the law from 1128
theorem dL_law_1128 : decode cL_law 1128 = .ok (.aload_n 1, 1) := by decide +kernel
theorem dL_law_1129 : decode cL_law 1129 = .ok (.invokevirtual 159, 3) := by decide +kernel
theorem dL_law_1132 : decode cL_law 1132 = .ok (.aload_n 2, 1) := by decide +kernel
theorem dL_law_1133 : decode cL_law 1133 = .ok (.invokevirtual 162, 3) := by decide +kernel
theorem dL_law_1136 : decode cL_law 1136 = .ok (.if_icmp .eq 900, 3) := by decide +kernel
theorem dL_law_1139 : decode cL_law 1139 = .ok (.iconst 0, 1) := by decide +kernel
theorem dL_law_1140 : decode cL_law 1140 = .ok (.ireturn, 1) := by decide +kernel
def M_L_1128_1128 (k Ls : Nat) (xs : Nat → Int32) (x4 : Int32) (S : VV × VV × VV × VV × VV × Int32) (T : Nat → Nat → Int32) (U : Nat → Int64) (V : Nat × Int32 × Int32 × (Nat → VV)) : Option ((VV × VV × VV × VV × VV × Int32) × (Nat → Nat → Int32) × (Nat → Int64) × (Nat × Int32 × Int32 × (Nat → VV))) := (M_X9_bestSeed k S).bind fun q1 => (M_X10_bestSeed k T).bind fun q2 => if q1.1 = q2.1 then (some (q1.2, q2.2, U, V)) else (none)
set_option maxRecDepth 100000 in
set_option maxHeartbeats 4000000 in
theorem N_L_1128_1128 (C : CX E p l s m #[Value.ref bs] meth c cL_law 9 RL ret A) (a : Nat → Nat) (b : Nat → Nat) (c0 : Nat → Nat) (k Ls : Nat) (xs : Nat → Int32) (hX : va_X bs Ls xs s s.heap) (hbl : bs < s.heap.size) (hbA : ¬ A bs) (hlt : l.stackTraces = false) (hdc : DC s) (cN sN : Nat) (hcN : cN + 20 ≤ 601024 ∧ sN + 1600 ≤ 7293034) (fa : Nat → Nat → Nat) :
    ∀ (x4 : Int32) (S : VV × VV × VV × VV × VV × Int32) (T : Nat → Nat → Int32) (U : Nat → Int64) (V : Nat × Int32 × Int32 × (Nat → VV)) (q : (VV × VV × VV × VV × VV × Int32) × (Nat → Nat → Int32) × (Nat → Int64) × (Nat × Int32 × Int32 × (Nat → VV))), M_L_1128_1128 k Ls xs x4 S T U V = some q → (∀ fa' : Nat → Nat → Nat, WW E p l e room_1 s m #[Value.ref bs] below meth c A (cN + 20) (sN + 1600) (lw_Z below #[Value.ref bs] s) (wSg E a q.1 ++ wMd E b q.2.1 ++ wLo E c0 q.2.2.1 ++ wHi E a fa' q.2.2.2) 9 [some (.ref bs), some (.ref (a 0)), some (.ref (b 0)), some (.ref (c0 0)), some (.int x4), none, none, none, none] 2036 []) →
      WW E p l e room_1 s m #[Value.ref bs] below meth c A (cN + 0) (sN + 0) (lw_Z below #[Value.ref bs] s) (wSg E a S ++ wMd E b T ++ wLo E c0 U ++ wHi E a fa V) 9 [some (.ref bs), some (.ref (a 0)), some (.ref (b 0)), some (.ref (c0 0)), some (.int x4), none, none, none, none] 1128 [] := by
  intro x4 S T U V q  h hq
  unfold M_L_1128_1128 at h
  refine r_aload_n (pc := 1128) C (i := 1) dL_law_1128 rfl rfl ?_
  obtain ⟨q1, hq1, h⟩ := bnd h
  refine r_callV_CI (Cn := RX9) (pc := 1129) C [] (c_X9_bestSeed E l k a S hq1) [0, 1, 2, 3, 4, 5, 6, 7, 8, 9, 10, 11, 12, 13, 14, 15, 16, 17, 18, 19, 20, 21, 22, 23, 24, 25, 26, 27, 28, 29, 30, 31, 32, 33, 34, 35, 36, 37, 38, 39, 40, 41, 42, 43, 44, 45, 46, 47, 48, 49, 50, 51, 52, 53, 54, 55, 56, 57, 58, 59, 60] (hps_hi (List.append_assoc _ _ _).symm (hp_L_204_0 E a b c0 fa S T U V)) (by decide) 0 rfl rfl rfl g_L_159 hd_X9_bestSeed ⟨Nat.le_of_ble_eq_true rfl, Nat.le_of_ble_eq_true rfl⟩ ⟨by have h1 : room_1.cells = 601024 := rfl; have h2 := hcN.1; simp only [Nat.le_refl, rm_X9_bestSeed]; omega, by have h1 : room_1.slots = 7293034 := rfl; have h2 := hcN.2; simp only [Nat.le_refl, rm_X9_bestSeed]; omega⟩ (Nat.le_of_ble_eq_true rfl) rfl dL_law_1129 (fun r w1 hw1 => ?_)
  obtain ⟨hr1, hw1⟩ := hw1
  subst hr1 hw1
  refine ⟨(wSg E a q1.2 ++ wMd E b T ++ wLo E c0 U ++ wHi E a fa V), by exact putW_hi (List.append_assoc _ _ _).symm (List.append_assoc _ _ _).symm (hp_L_204_0 E a b c0 fa S T U V) rfl (pw_L_204_0 E a b c0 fa S T U V q1.2), ?_⟩
  refine r_aload_n (pc := 1132) C (i := 2) dL_law_1132 rfl rfl ?_
  obtain ⟨q2, hq2, h⟩ := bnd h
  refine r_callV_CI (Cn := RX10) (pc := 1133) C [] (c_X10_bestSeed E l k b T hq2) [61, 62, 63, 64, 65, 66, 67, 68, 69, 70, 71, 72, 73] (hps_hi (List.append_assoc _ _ _).symm (hp_L_204_1 E a b c0 fa q1.2 T U V)) (by decide) 0 rfl rfl rfl g_L_162 hd_X10_bestSeed ⟨Nat.le_of_ble_eq_true rfl, Nat.le_of_ble_eq_true rfl⟩ ⟨by have h1 : room_1.cells = 601024 := rfl; have h2 := hcN.1; simp only [Nat.le_refl, rm_X9_bestSeed, rm_X10_bestSeed]; omega, by have h1 : room_1.slots = 7293034 := rfl; have h2 := hcN.2; simp only [Nat.le_refl, rm_X9_bestSeed, rm_X10_bestSeed]; omega⟩ (Nat.le_of_ble_eq_true rfl) rfl dL_law_1133 (fun r w1 hw1 => ?_)
  obtain ⟨hr1, hw1⟩ := hw1
  subst hr1 hw1
  refine ⟨(wSg E a q1.2 ++ wMd E b q2.2 ++ wLo E c0 U ++ wHi E a fa V), by exact putW_hi (List.append_assoc _ _ _).symm (List.append_assoc _ _ _).symm (hp_L_204_1 E a b c0 fa q1.2 T U V) rfl (pw_L_204_1 E a b c0 fa q1.2 T U V q2.2), ?_⟩
  refine r_icmp_eq (pc := 1136) C (tgt := 2036) dL_law_1136 rfl (fun c3 => ?_) (fun c3 => ?_)
  · rw [if_pos c3] at h
    cases h
    refine r_widen (k1 := cN + 20) (n1 := sN + 1600) (by simp only [Nat.le_refl, rm_X9_bestSeed, rm_X10_bestSeed]; omega) (by simp only [Nat.le_refl, rm_X9_bestSeed, rm_X10_bestSeed]; omega) ?_
    refine r_weak (lSub_s (lSub_s (lSub_s (lSub_s (lSub_s (lSub_n (lSub_n (lSub_n (lSub_n lSub_e))))))))) ?_
    exact hq fa
  · rw [if_neg c3] at h
    refine r_iconst (pc := 1139) C (v := 0) dL_law_1139 (by decide) ?_
    cases h
end WALKS
