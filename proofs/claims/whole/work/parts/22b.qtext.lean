section WALKS
variable {E : ENV} {p : Program} {l : Launch} {e : Env} {s : State} {m : MethodId} {args : Array Value} {below : List Frame} {meth : Method} {c : Code} {A : Nat → Prop}
theorem g_X4_71 : GoodIn GW (wsV RX4 71 RX7 yX7_isGood (wsG yX7_isGood cX7_isGood 1 (some .boolean))) := gw_V wm_5_139 wm_3_46 wm_3_47 wm_1_7 wm_3_48
theorem hd_X4_valueFor : yX4_valueFor.cls = RX4 ∧ yX4_valueFor.cls ≠ "java/lang/invoke/MethodHandle" ∧ yX4_valueFor.cls ≠ "java/lang/invoke/VarHandle" ∧ (parseMethodDescriptor yX4_valueFor.desc).map (fun d => d.parameters.length) = some 3 := by decide +kernel
theorem g_X4_75 : GoodIn GW (va_wsS RX4 75 yX4_valueFor (wsG yX4_valueFor cX4_valueFor 5 (some .int))) := gw_S wm_5_140 wm_5_141 wm_1_24 wm_5_142
theorem hd_X4_takeValue : yX4_takeValue.cls = RX4 ∧ yX4_takeValue.cls ≠ "java/lang/invoke/MethodHandle" ∧ yX4_takeValue.cls ≠ "java/lang/invoke/VarHandle" ∧ (parseMethodDescriptor yX4_takeValue.desc).map (fun d => d.parameters.length) = some 1 := by decide +kernel
theorem g_X4_61 : GoodIn GW (va_wsS RX4 61 yX4_takeValue (wsG yX4_takeValue cX4_takeValue 2 (some .int))) := gw_S wm_5_118 wm_5_119 wm_1_24 wm_5_120
theorem g_X4_51 : GoodIn GW (wsV RX4 51 RX7 yX7_take (wsG yX7_take cX7_take 2 none)) := gw_V wm_5_138 wm_3_38 wm_3_39 wm_1_7 wm_3_40
-- ShardGuard$QueryText.comparison(LShardGuard$Tokens;LShardGuard$Fleet;)J
theorem dX4_comparison_0 : decode cX4_comparison 0 = .ok (.aload_n 0, 1) := by decide +kernel
theorem dX4_comparison_1 : decode cX4_comparison 1 = .ok (.invokestatic 61, 3) := by decide +kernel
theorem dX4_comparison_4 : decode cX4_comparison 4 = .ok (.istore_n 2, 1) := by decide +kernel
theorem dX4_comparison_5 : decode cX4_comparison 5 = .ok (.aload_n 0, 1) := by decide +kernel
theorem dX4_comparison_6 : decode cX4_comparison 6 = .ok (.ldc 65, 2) := by decide +kernel
theorem dX4_comparison_8 : decode cX4_comparison 8 = .ok (.invokevirtual 17, 3) := by decide +kernel
theorem dX4_comparison_11 : decode cX4_comparison 11 = .ok (.istore_n 3, 1) := by decide +kernel
theorem dX4_comparison_12 : decode cX4_comparison 12 = .ok (.aload_n 0, 1) := by decide +kernel
theorem dX4_comparison_13 : decode cX4_comparison 13 = .ok (.ldc 67, 2) := by decide +kernel
theorem dX4_comparison_15 : decode cX4_comparison 15 = .ok (.invokevirtual 17, 3) := by decide +kernel
theorem dX4_comparison_18 : decode cX4_comparison 18 = .ok (.istore 4, 2) := by decide +kernel
theorem dX4_comparison_20 : decode cX4_comparison 20 = .ok (.iload_n 3, 1) := by decide +kernel
theorem dX4_comparison_21 : decode cX4_comparison 21 = .ok (.ifCond .ne 8, 3) := by decide +kernel
theorem dX4_comparison_24 : decode cX4_comparison 24 = .ok (.iload 4, 2) := by decide +kernel
theorem dX4_comparison_26 : decode cX4_comparison 26 = .ok (.ifCond .eq 10, 3) := by decide +kernel
theorem dX4_comparison_29 : decode cX4_comparison 29 = .ok (.aload_n 0, 1) := by decide +kernel
theorem dX4_comparison_30 : decode cX4_comparison 30 = .ok (.invokevirtual 25, 3) := by decide +kernel
theorem dX4_comparison_33 : decode cX4_comparison 33 = .ok (.goto 9, 3) := by decide +kernel
theorem dX4_comparison_36 : decode cX4_comparison 36 = .ok (.aload_n 0, 1) := by decide +kernel
theorem dX4_comparison_37 : decode cX4_comparison 37 = .ok (.ldc 69, 2) := by decide +kernel
theorem dX4_comparison_39 : decode cX4_comparison 39 = .ok (.invokevirtual 51, 3) := by decide +kernel
theorem dX4_comparison_42 : decode cX4_comparison 42 = .ok (.aload_n 0, 1) := by decide +kernel
theorem dX4_comparison_43 : decode cX4_comparison 43 = .ok (.invokestatic 61, 3) := by decide +kernel
theorem dX4_comparison_46 : decode cX4_comparison 46 = .ok (.istore 5, 2) := by decide +kernel
theorem dX4_comparison_48 : decode cX4_comparison 48 = .ok (.lconst 0, 1) := by decide +kernel
theorem dX4_comparison_49 : decode cX4_comparison 49 = .ok (.lstore 6, 2) := by decide +kernel
theorem dX4_comparison_51 : decode cX4_comparison 51 = .ok (.iconst 0, 1) := by decide +kernel
theorem dX4_comparison_52 : decode cX4_comparison 52 = .ok (.istore 8, 2) := by decide +kernel
theorem dX4_comparison_54 : decode cX4_comparison 54 = .ok (.iload 8, 2) := by decide +kernel
theorem dX4_comparison_56 : decode cX4_comparison 56 = .ok (.aload_n 1, 1) := by decide +kernel
theorem dX4_comparison_57 : decode cX4_comparison 57 = .ok (.getfield 55, 3) := by decide +kernel
theorem dX4_comparison_60 : decode cX4_comparison 60 = .ok (.if_icmp .ge 80, 3) := by decide +kernel
theorem dX4_comparison_63 : decode cX4_comparison 63 = .ok (.aload_n 0, 1) := by decide +kernel
theorem dX4_comparison_64 : decode cX4_comparison 64 = .ok (.invokevirtual 71, 3) := by decide +kernel
theorem dX4_comparison_67 : decode cX4_comparison 67 = .ok (.ifCond .eq 73, 3) := by decide +kernel
theorem dX4_comparison_70 : decode cX4_comparison 70 = .ok (.iload_n 2, 1) := by decide +kernel
theorem dX4_comparison_71 : decode cX4_comparison 71 = .ok (.aload_n 1, 1) := by decide +kernel
theorem dX4_comparison_72 : decode cX4_comparison 72 = .ok (.iload 8, 2) := by decide +kernel
theorem dX4_comparison_74 : decode cX4_comparison 74 = .ok (.invokestatic 75, 3) := by decide +kernel
theorem dX4_comparison_77 : decode cX4_comparison 77 = .ok (.istore 9, 2) := by decide +kernel
theorem dX4_comparison_79 : decode cX4_comparison 79 = .ok (.iload 5, 2) := by decide +kernel
theorem dX4_comparison_81 : decode cX4_comparison 81 = .ok (.aload_n 1, 1) := by decide +kernel
theorem dX4_comparison_82 : decode cX4_comparison 82 = .ok (.iload 8, 2) := by decide +kernel
theorem dX4_comparison_84 : decode cX4_comparison 84 = .ok (.invokestatic 75, 3) := by decide +kernel
theorem dX4_comparison_87 : decode cX4_comparison 87 = .ok (.istore 10, 2) := by decide +kernel
theorem dX4_comparison_89 : decode cX4_comparison 89 = .ok (.iload_n 3, 1) := by decide +kernel
theorem dX4_comparison_90 : decode cX4_comparison 90 = .ok (.ifCond .eq 13, 3) := by decide +kernel
theorem dX4_comparison_93 : decode cX4_comparison 93 = .ok (.iload 9, 2) := by decide +kernel
theorem dX4_comparison_95 : decode cX4_comparison 95 = .ok (.iload 10, 2) := by decide +kernel
theorem dX4_comparison_97 : decode cX4_comparison 97 = .ok (.if_icmp .ge 37, 3) := by decide +kernel
theorem dX4_comparison_100 : decode cX4_comparison 100 = .ok (.goto 25, 3) := by decide +kernel
theorem dX4_comparison_103 : decode cX4_comparison 103 = .ok (.iload 4, 2) := by decide +kernel
theorem dX4_comparison_105 : decode cX4_comparison 105 = .ok (.ifCond .eq 13, 3) := by decide +kernel
theorem dX4_comparison_108 : decode cX4_comparison 108 = .ok (.iload 9, 2) := by decide +kernel
theorem dX4_comparison_110 : decode cX4_comparison 110 = .ok (.iload 10, 2) := by decide +kernel
theorem dX4_comparison_112 : decode cX4_comparison 112 = .ok (.if_icmp .le 22, 3) := by decide +kernel
theorem dX4_comparison_115 : decode cX4_comparison 115 = .ok (.goto 10, 3) := by decide +kernel
theorem dX4_comparison_118 : decode cX4_comparison 118 = .ok (.iload 9, 2) := by decide +kernel
theorem dX4_comparison_120 : decode cX4_comparison 120 = .ok (.iload 10, 2) := by decide +kernel
theorem dX4_comparison_122 : decode cX4_comparison 122 = .ok (.if_icmp .ne 12, 3) := by decide +kernel
theorem dX4_comparison_125 : decode cX4_comparison 125 = .ok (.lload 6, 2) := by decide +kernel
theorem dX4_comparison_127 : decode cX4_comparison 127 = .ok (.lconst 1, 1) := by decide +kernel
theorem dX4_comparison_128 : decode cX4_comparison 128 = .ok (.iload 8, 2) := by decide +kernel
theorem dX4_comparison_130 : decode cX4_comparison 130 = .ok (.lshl, 1) := by decide +kernel
theorem dX4_comparison_131 : decode cX4_comparison 131 = .ok (.lor, 1) := by decide +kernel
theorem dX4_comparison_132 : decode cX4_comparison 132 = .ok (.lstore 6, 2) := by decide +kernel
theorem dX4_comparison_134 : decode cX4_comparison 134 = .ok (.iinc 8 1, 3) := by decide +kernel
theorem dX4_comparison_137 : decode cX4_comparison 137 = .ok (.goto (-83), 3) := by decide +kernel
theorem dX4_comparison_140 : decode cX4_comparison 140 = .ok (.lload 6, 2) := by decide +kernel
theorem dX4_comparison_142 : decode cX4_comparison 142 = .ok (.lreturn, 1) := by decide +kernel
def rm_X4_comparison : Room := { frames := 9, cells := 0, slots := 0, locals := 213 }
def M_X4_comparison_54 (k : Nat) (T : Nat → Nat → Int32) : Nat → (Int32) → (Int32) → (Int32) → (Int32) → (Int64) → (Int32) → (Nat → Nat → Int32) → Option (Int64 × (Nat → Nat → Int32))
  | 0, _, _, _, _, _, _, _ => none
  | n + 1, x2, x3, x4, x5, z6, x8, S => if (T 0 3) ≤ x8 then (some (z6, S)) else ((M_X7_isGood k S).bind fun q2 => if q2 = 0 then (some (z6, S)) else ((M_X4_valueFor k T x2 x8).bind fun q4 => (M_X4_valueFor k T x5 x8).bind fun q5 => if x3 = 0 then (if x4 = 0 then (if q4 = q5 then (lt (z6 ||| ((1 : Int64) <<< (x8.toInt64 &&& 63))) fun v9 => M_X4_comparison_54 k T n x2 x3 x4 x5 v9 (x8 + 1) S) else (M_X4_comparison_54 k T n x2 x3 x4 x5 z6 (x8 + 1) S)) else (if q4 ≤ q5 then (M_X4_comparison_54 k T n x2 x3 x4 x5 z6 (x8 + 1) S) else (lt (z6 ||| ((1 : Int64) <<< (x8.toInt64 &&& 63))) fun v11 => M_X4_comparison_54 k T n x2 x3 x4 x5 v11 (x8 + 1) S))) else (if q5 ≤ q4 then (M_X4_comparison_54 k T n x2 x3 x4 x5 z6 (x8 + 1) S) else (lt (z6 ||| ((1 : Int64) <<< (x8.toInt64 &&& 63))) fun v13 => M_X4_comparison_54 k T n x2 x3 x4 x5 v13 (x8 + 1) S))))
theorem M_X4_comparison_54_s (k : Nat) (T : Nat → Nat → Int32) (n : Nat) (x2 : Int32) (x3 : Int32) (x4 : Int32) (x5 : Int32) (z6 : Int64) (x8 : Int32) (S : Nat → Nat → Int32) : M_X4_comparison_54 k T (n + 1) x2 x3 x4 x5 z6 x8 S = (if (T 0 3) ≤ x8 then (some (z6, S)) else ((M_X7_isGood k S).bind fun q2 => if q2 = 0 then (some (z6, S)) else ((M_X4_valueFor k T x2 x8).bind fun q4 => (M_X4_valueFor k T x5 x8).bind fun q5 => if x3 = 0 then (if x4 = 0 then (if q4 = q5 then (lt (z6 ||| ((1 : Int64) <<< (x8.toInt64 &&& 63))) fun v9 => M_X4_comparison_54 k T n x2 x3 x4 x5 v9 (x8 + 1) S) else (M_X4_comparison_54 k T n x2 x3 x4 x5 z6 (x8 + 1) S)) else (if q4 ≤ q5 then (M_X4_comparison_54 k T n x2 x3 x4 x5 z6 (x8 + 1) S) else (lt (z6 ||| ((1 : Int64) <<< (x8.toInt64 &&& 63))) fun v11 => M_X4_comparison_54 k T n x2 x3 x4 x5 v11 (x8 + 1) S))) else (if q5 ≤ q4 then (M_X4_comparison_54 k T n x2 x3 x4 x5 z6 (x8 + 1) S) else (lt (z6 ||| ((1 : Int64) <<< (x8.toInt64 &&& 63))) fun v13 => M_X4_comparison_54 k T n x2 x3 x4 x5 v13 (x8 + 1) S))))) := rfl
set_option maxRecDepth 100000 in
set_option maxHeartbeats 4000000 in
theorem N_X4_comparison_54 (C : CX E p l s m args meth c cX4_comparison 11 RX4 (some .long) A) (a : Nat → Nat) (b : Nat → Nat) (k : Nat) (T : Nat → Nat → Int32) {post : Int64 → va_W → Prop} :
    ∀ (n : Nat) (x2 : Int32) (x3 : Int32) (x4 : Int32) (x5 : Int32) (z6 : Int64) (x8 : Int32) (S : Nat → Nat → Int32) (q : Int64 × (Nat → Nat → Int32)), M_X4_comparison_54 k T n x2 x3 x4 x5 z6 x8 S = some q → post q.1 (wTk E a q.2 ++ wFl E b T) →
      WW E p l e rm_X4_comparison s m args below meth c A 0 0 (QL E below post args s rm_X4_comparison A) (wTk E a S ++ wFl E b T) 11 [some (.ref (a 0)), some (.ref (b 0)), some (.int x2), some (.int x3), some (.int x4), some (.int x5), some (.long z6), none, some (.int x8), none, none] 54 [] := by
  intro n
  induction n with
  | zero => intro x2 x3 x4 x5 z6 x8 S q  h _; cases h
  | succ n ih =>
    intro x2 x3 x4 x5 z6 x8 S q  h hq
    rw [M_X4_comparison_54_s] at h
    refine r_iload (pc := 54) C (i := 8) dX4_comparison_54 rfl ?_
    refine r_aload_n (pc := 56) C (i := 1) dX4_comparison_56 rfl rfl ?_
    refine r_get (pc := 57) C gwX0 3 rfl rfl 3 (by decide) wm_1_102 rfl dX4_comparison_57 ?_
    refine r_icmp_ge (pc := 60) C (tgt := 140) dX4_comparison_60 rfl (fun c1 => ?_) (fun c1 => ?_)
    · rw [if_pos c1] at h
      refine r_lload (pc := 140) C (i := 6) dX4_comparison_140 rfl ?_
      cases h
      exact r_lret (pc := 142) C hq (Nat.zero_le _) (Nat.zero_le _) dX4_comparison_142
    · rw [if_neg c1] at h
      refine r_aload_n (pc := 63) C (i := 0) dX4_comparison_63 rfl rfl ?_
      obtain ⟨q2, hq2, h⟩ := bnd h
      refine r_callVp_CI (Cn := RX7) (pc := 64) C [] (c_X7_isGood E l k a S hq2) [0, 1, 2] (hp_X1_readWorkers_0 E a b S T) (by decide) 0 rfl rfl rfl g_X4_71 hd_X7_isGood ⟨Nat.le_of_ble_eq_true rfl, Nat.le_of_ble_eq_true rfl⟩ ⟨Nat.zero_le _, Nat.zero_le _⟩ (Nat.le_of_ble_eq_true rfl) rfl dX4_comparison_64 (fun r hr => ?_)
      have hr := hr.symm
      subst hr
      refine r_if_eq (pc := 67) C (tgt := 140) dX4_comparison_67 rfl (fun c3 => ?_) (fun c3 => ?_)
      · rw [if_pos c3] at h
        refine r_lload (pc := 140) C (i := 6) dX4_comparison_140 rfl ?_
        cases h
        exact r_lret (pc := 142) C hq (Nat.zero_le _) (Nat.zero_le _) dX4_comparison_142
      · rw [if_neg c3] at h
        refine r_iload_n (pc := 70) C (i := 2) dX4_comparison_70 rfl rfl ?_
        refine r_aload_n (pc := 71) C (i := 1) dX4_comparison_71 rfl rfl ?_
        refine r_iload (pc := 72) C (i := 8) dX4_comparison_72 rfl ?_
        obtain ⟨q4, hq4, h⟩ := bnd h
        refine r_callSp_CI (pc := 74) C [.int x2, .ref (b 0), .int x8] (c_X4_valueFor E l k b T x2 x8 hq4) [3, 4, 5, 6, 7, 8, 9, 10, 11, 12, 13, 14, 15, 16, 17, 18, 19, 20] (hp_X1_readWorkers_1 E a b S T) (by decide) g_X4_75 hd_X4_valueFor.2 ⟨Nat.le_of_ble_eq_true rfl, Nat.le_of_ble_eq_true rfl⟩ ⟨Nat.zero_le _, Nat.zero_le _⟩ (Nat.le_of_ble_eq_true rfl) rfl dX4_comparison_74 (fun r hr => ?_)
        have hr := hr.symm
        subst hr
        refine r_istore (pc := 77) C (i := 9) dX4_comparison_77 (by decide) rfl ?_
        refine r_iload (pc := 79) C (i := 5) dX4_comparison_79 rfl ?_
        refine r_aload_n (pc := 81) C (i := 1) dX4_comparison_81 rfl rfl ?_
        refine r_iload (pc := 82) C (i := 8) dX4_comparison_82 rfl ?_
        obtain ⟨q5, hq5, h⟩ := bnd h
        refine r_callSp_CI (pc := 84) C [.int x5, .ref (b 0), .int x8] (c_X4_valueFor E l k b T x5 x8 hq5) [3, 4, 5, 6, 7, 8, 9, 10, 11, 12, 13, 14, 15, 16, 17, 18, 19, 20] (hp_X1_readWorkers_1 E a b S T) (by decide) g_X4_75 hd_X4_valueFor.2 ⟨Nat.le_of_ble_eq_true rfl, Nat.le_of_ble_eq_true rfl⟩ ⟨Nat.zero_le _, Nat.zero_le _⟩ (Nat.le_of_ble_eq_true rfl) rfl dX4_comparison_84 (fun r hr => ?_)
        have hr := hr.symm
        subst hr
        refine r_istore (pc := 87) C (i := 10) dX4_comparison_87 (by decide) rfl ?_
        refine r_iload_n (pc := 89) C (i := 3) dX4_comparison_89 rfl rfl ?_
        refine r_if_eq (pc := 90) C (tgt := 103) dX4_comparison_90 rfl (fun c6 => ?_) (fun c6 => ?_)
        · rw [if_pos c6] at h
          refine r_iload (pc := 103) C (i := 4) dX4_comparison_103 rfl ?_
          refine r_if_eq (pc := 105) C (tgt := 118) dX4_comparison_105 rfl (fun c7 => ?_) (fun c7 => ?_)
          · rw [if_pos c7] at h
            refine r_iload (pc := 118) C (i := 9) dX4_comparison_118 rfl ?_
            refine r_iload (pc := 120) C (i := 10) dX4_comparison_120 rfl ?_
            refine r_icmp_ne (pc := 122) C (tgt := 134) dX4_comparison_122 rfl (fun c8 => ?_) (fun c8 => ?_)
            · rw [if_neg c8] at h
              refine r_iinc (pc := 134) C (v := (x8 + 1)) dX4_comparison_134 rfl rfl (by decide) rfl ?_
              refine r_goto (pc := 137) C (tgt := 54) dX4_comparison_137 rfl ?_
              refine r_weak (lSub_s (lSub_s (lSub_s (lSub_s (lSub_s (lSub_s (lSub_s (lSub_n (lSub_s (lSub_n (lSub_n lSub_e))))))))))) ?_
              exact ih x2 x3 x4 x5 z6 (x8 + 1) S q  h hq
            · rw [if_pos c8] at h
              refine r_lload (pc := 125) C (i := 6) dX4_comparison_125 rfl ?_
              refine r_lconst (pc := 127) C (v := 1) dX4_comparison_127 (by decide) ?_
              refine r_iload (pc := 128) C (i := 8) dX4_comparison_128 rfl ?_
              refine r_lshl (pc := 130) C dX4_comparison_130 ?_
              refine r_lor (pc := 131) C dX4_comparison_131 ?_
              obtain ⟨v9, hv9, h⟩ := lt_e h
              refine r_topl hv9 ?_
              refine r_lstore (pc := 132) C (i := 6) dX4_comparison_132 (by decide) rfl ?_
              refine r_iinc (pc := 134) C (v := (x8 + 1)) dX4_comparison_134 rfl rfl (by decide) rfl ?_
              refine r_goto (pc := 137) C (tgt := 54) dX4_comparison_137 rfl ?_
              refine r_weak (lSub_s (lSub_s (lSub_s (lSub_s (lSub_s (lSub_s (lSub_s (lSub_n (lSub_s (lSub_n (lSub_n lSub_e))))))))))) ?_
              exact ih x2 x3 x4 x5 v9 (x8 + 1) S q  h hq
          · rw [if_neg c7] at h
            refine r_iload (pc := 108) C (i := 9) dX4_comparison_108 rfl ?_
            refine r_iload (pc := 110) C (i := 10) dX4_comparison_110 rfl ?_
            refine r_icmp_le (pc := 112) C (tgt := 134) dX4_comparison_112 rfl (fun c10 => ?_) (fun c10 => ?_)
            · rw [if_pos c10] at h
              refine r_iinc (pc := 134) C (v := (x8 + 1)) dX4_comparison_134 rfl rfl (by decide) rfl ?_
              refine r_goto (pc := 137) C (tgt := 54) dX4_comparison_137 rfl ?_
              refine r_weak (lSub_s (lSub_s (lSub_s (lSub_s (lSub_s (lSub_s (lSub_s (lSub_n (lSub_s (lSub_n (lSub_n lSub_e))))))))))) ?_
              exact ih x2 x3 x4 x5 z6 (x8 + 1) S q  h hq
            · rw [if_neg c10] at h
              refine r_goto (pc := 115) C (tgt := 125) dX4_comparison_115 rfl ?_
              refine r_lload (pc := 125) C (i := 6) dX4_comparison_125 rfl ?_
              refine r_lconst (pc := 127) C (v := 1) dX4_comparison_127 (by decide) ?_
              refine r_iload (pc := 128) C (i := 8) dX4_comparison_128 rfl ?_
              refine r_lshl (pc := 130) C dX4_comparison_130 ?_
              refine r_lor (pc := 131) C dX4_comparison_131 ?_
              obtain ⟨v11, hv11, h⟩ := lt_e h
              refine r_topl hv11 ?_
              refine r_lstore (pc := 132) C (i := 6) dX4_comparison_132 (by decide) rfl ?_
              refine r_iinc (pc := 134) C (v := (x8 + 1)) dX4_comparison_134 rfl rfl (by decide) rfl ?_
              refine r_goto (pc := 137) C (tgt := 54) dX4_comparison_137 rfl ?_
              refine r_weak (lSub_s (lSub_s (lSub_s (lSub_s (lSub_s (lSub_s (lSub_s (lSub_n (lSub_s (lSub_n (lSub_n lSub_e))))))))))) ?_
              exact ih x2 x3 x4 x5 v11 (x8 + 1) S q  h hq
        · rw [if_neg c6] at h
          refine r_iload (pc := 93) C (i := 9) dX4_comparison_93 rfl ?_
          refine r_iload (pc := 95) C (i := 10) dX4_comparison_95 rfl ?_
          refine r_icmp_ge (pc := 97) C (tgt := 134) dX4_comparison_97 rfl (fun c12 => ?_) (fun c12 => ?_)
          · rw [if_pos c12] at h
            refine r_iinc (pc := 134) C (v := (x8 + 1)) dX4_comparison_134 rfl rfl (by decide) rfl ?_
            refine r_goto (pc := 137) C (tgt := 54) dX4_comparison_137 rfl ?_
            refine r_weak (lSub_s (lSub_s (lSub_s (lSub_s (lSub_s (lSub_s (lSub_s (lSub_n (lSub_s (lSub_n (lSub_n lSub_e))))))))))) ?_
            exact ih x2 x3 x4 x5 z6 (x8 + 1) S q  h hq
          · rw [if_neg c12] at h
            refine r_goto (pc := 100) C (tgt := 125) dX4_comparison_100 rfl ?_
            refine r_lload (pc := 125) C (i := 6) dX4_comparison_125 rfl ?_
            refine r_lconst (pc := 127) C (v := 1) dX4_comparison_127 (by decide) ?_
            refine r_iload (pc := 128) C (i := 8) dX4_comparison_128 rfl ?_
            refine r_lshl (pc := 130) C dX4_comparison_130 ?_
            refine r_lor (pc := 131) C dX4_comparison_131 ?_
            obtain ⟨v13, hv13, h⟩ := lt_e h
            refine r_topl hv13 ?_
            refine r_lstore (pc := 132) C (i := 6) dX4_comparison_132 (by decide) rfl ?_
            refine r_iinc (pc := 134) C (v := (x8 + 1)) dX4_comparison_134 rfl rfl (by decide) rfl ?_
            refine r_goto (pc := 137) C (tgt := 54) dX4_comparison_137 rfl ?_
            refine r_weak (lSub_s (lSub_s (lSub_s (lSub_s (lSub_s (lSub_s (lSub_s (lSub_n (lSub_s (lSub_n (lSub_n lSub_e))))))))))) ?_
            exact ih x2 x3 x4 x5 v13 (x8 + 1) S q  h hq
def M_X4_comparison_29 (k : Nat) (T : Nat → Nat → Int32) (x2 : Int32) (x3 : Int32) (x4 : Int32) (S : Nat → Nat → Int32) : Option (Int64 × (Nat → Nat → Int32)) := (M_X7_advance k S).bind fun q14 => (M_X4_takeValue k q14).bind fun q15 => M_X4_comparison_54 k T k x2 x3 x4 q15.1 (0 : Int64) (0 : Int32) q15.2
set_option maxRecDepth 100000 in
set_option maxHeartbeats 4000000 in
theorem N_X4_comparison_29 (C : CX E p l s m args meth c cX4_comparison 11 RX4 (some .long) A) (a : Nat → Nat) (b : Nat → Nat) (k : Nat) (T : Nat → Nat → Int32) {post : Int64 → va_W → Prop} :
    ∀ (x2 : Int32) (x3 : Int32) (x4 : Int32) (S : Nat → Nat → Int32) (q : Int64 × (Nat → Nat → Int32)), M_X4_comparison_29 k T x2 x3 x4 S = some q → post q.1 (wTk E a q.2 ++ wFl E b T) →
      WW E p l e rm_X4_comparison s m args below meth c A 0 0 (QL E below post args s rm_X4_comparison A) (wTk E a S ++ wFl E b T) 11 [some (.ref (a 0)), some (.ref (b 0)), some (.int x2), some (.int x3), some (.int x4), none, none, none, none, none, none] 29 [] := by
  intro x2 x3 x4 S q  h hq
  unfold M_X4_comparison_29 at h
  refine r_aload_n (pc := 29) C (i := 0) dX4_comparison_29 rfl rfl ?_
  obtain ⟨q14, hq14, h⟩ := bnd h
  refine r_callV_CV (Cn := RX7) (pc := 30) C [] (c_X7_advance E l k a S hq14) [0, 1, 2] (hp_X1_readWorkers_0 E a b S T) (by decide) 0 rfl rfl rfl g_X4_25 hd_X7_advance ⟨Nat.le_of_ble_eq_true rfl, Nat.le_of_ble_eq_true rfl⟩ ⟨Nat.zero_le _, Nat.zero_le _⟩ (Nat.le_of_ble_eq_true rfl) rfl dX4_comparison_30 (fun w1 hw1 => ?_)
  subst hw1
  refine ⟨(wTk E a q14 ++ wFl E b T), by exact (pw_X1_readWorkers_0 E a b S T q14), ?_⟩
  refine r_goto (pc := 33) C (tgt := 42) dX4_comparison_33 rfl ?_
  refine r_aload_n (pc := 42) C (i := 0) dX4_comparison_42 rfl rfl ?_
  obtain ⟨q15, hq15, h⟩ := bnd h
  refine r_callS_CI (pc := 43) C [.ref (a 0)] (c_X4_takeValue E l k a q14 hq15) [0, 1, 2] (hp_X1_readWorkers_0 E a b q14 T) (by decide) g_X4_61 hd_X4_takeValue.2 ⟨Nat.le_of_ble_eq_true rfl, Nat.le_of_ble_eq_true rfl⟩ ⟨Nat.zero_le _, Nat.zero_le _⟩ (Nat.le_of_ble_eq_true rfl) rfl dX4_comparison_43 (fun r w1 hw1 => ?_)
  obtain ⟨hr1, hw1⟩ := hw1
  subst hr1 hw1
  refine ⟨(wTk E a q15.2 ++ wFl E b T), by exact (pw_X1_readWorkers_0 E a b q14 T q15.2), ?_⟩
  refine r_istore (pc := 46) C (i := 5) dX4_comparison_46 (by decide) rfl ?_
  refine r_lconst (pc := 48) C (v := 0) dX4_comparison_48 (by decide) ?_
  refine r_lstore (pc := 49) C (i := 6) dX4_comparison_49 (by decide) rfl ?_
  refine r_iconst (pc := 51) C (v := 0) dX4_comparison_51 (by decide) ?_
  refine r_istore (pc := 52) C (i := 8) dX4_comparison_52 (by decide) rfl ?_
  refine r_weak (lSub_s (lSub_s (lSub_s (lSub_s (lSub_s (lSub_s (lSub_s (lSub_n (lSub_s (lSub_n (lSub_n lSub_e))))))))))) ?_
  exact N_X4_comparison_54 C a b k T k x2 x3 x4 q15.1 (0 : Int64) (0 : Int32) q15.2 q  h hq
def M_X4_comparison_0 (k : Nat) (T : Nat → Nat → Int32) (S : Nat → Nat → Int32) : Option (Int64 × (Nat → Nat → Int32)) := (M_X4_takeValue k S).bind fun q16 => (M_X7_is k q16.2 48).bind fun q17 => (M_X7_is k q16.2 49).bind fun q18 => if q17 = 0 then (if q18 = 0 then ((M_X7_take k q16.2 50).bind fun q21 => (M_X4_takeValue k q21).bind fun q22 => M_X4_comparison_54 k T k q16.1 q17 q18 q22.1 (0 : Int64) (0 : Int32) q22.2) else (M_X4_comparison_29 k T q16.1 q17 q18 q16.2)) else (M_X4_comparison_29 k T q16.1 q17 q18 q16.2)
set_option maxRecDepth 100000 in
set_option maxHeartbeats 4000000 in
theorem N_X4_comparison_0 (C : CX E p l s m args meth c cX4_comparison 11 RX4 (some .long) A) (a : Nat → Nat) (b : Nat → Nat) (k : Nat) (T : Nat → Nat → Int32) {post : Int64 → va_W → Prop} :
    ∀ (S : Nat → Nat → Int32) (q : Int64 × (Nat → Nat → Int32)), M_X4_comparison_0 k T S = some q → post q.1 (wTk E a q.2 ++ wFl E b T) →
      WW E p l e rm_X4_comparison s m args below meth c A 0 0 (QL E below post args s rm_X4_comparison A) (wTk E a S ++ wFl E b T) 11 [some (.ref (a 0)), some (.ref (b 0)), none, none, none, none, none, none, none, none, none] 0 [] := by
  intro S q  h hq
  unfold M_X4_comparison_0 at h
  refine r_aload_n (pc := 0) C (i := 0) dX4_comparison_0 rfl rfl ?_
  obtain ⟨q16, hq16, h⟩ := bnd h
  refine r_callS_CI (pc := 1) C [.ref (a 0)] (c_X4_takeValue E l k a S hq16) [0, 1, 2] (hp_X1_readWorkers_0 E a b S T) (by decide) g_X4_61 hd_X4_takeValue.2 ⟨Nat.le_of_ble_eq_true rfl, Nat.le_of_ble_eq_true rfl⟩ ⟨Nat.zero_le _, Nat.zero_le _⟩ (Nat.le_of_ble_eq_true rfl) rfl dX4_comparison_1 (fun r w1 hw1 => ?_)
  obtain ⟨hr1, hw1⟩ := hw1
  subst hr1 hw1
  refine ⟨(wTk E a q16.2 ++ wFl E b T), by exact (pw_X1_readWorkers_0 E a b S T q16.2), ?_⟩
  refine r_istore_n (pc := 4) C (i := 2) dX4_comparison_4 rfl (by decide) rfl ?_
  refine r_aload_n (pc := 5) C (i := 0) dX4_comparison_5 rfl rfl ?_
  refine r_ldcS (pc := 6) C 48 rfl dX4_comparison_6 ?_
  obtain ⟨q17, hq17, h⟩ := bnd h
  refine r_callVp_CI (Cn := RX7) (pc := 8) C [.ref (eS E 48)] (c_X7_is E l k a q16.2 48 (by decide) hq17) [0, 1, 2] (hp_X1_readWorkers_0 E a b q16.2 T) (by decide) 0 rfl rfl rfl g_X4_17 hd_X7_is ⟨Nat.le_of_ble_eq_true rfl, Nat.le_of_ble_eq_true rfl⟩ ⟨Nat.zero_le _, Nat.zero_le _⟩ (Nat.le_of_ble_eq_true rfl) rfl dX4_comparison_8 (fun r hr => ?_)
  have hr := hr.symm
  subst hr
  refine r_istore_n (pc := 11) C (i := 3) dX4_comparison_11 rfl (by decide) rfl ?_
  refine r_aload_n (pc := 12) C (i := 0) dX4_comparison_12 rfl rfl ?_
  refine r_ldcS (pc := 13) C 49 rfl dX4_comparison_13 ?_
  obtain ⟨q18, hq18, h⟩ := bnd h
  refine r_callVp_CI (Cn := RX7) (pc := 15) C [.ref (eS E 49)] (c_X7_is E l k a q16.2 49 (by decide) hq18) [0, 1, 2] (hp_X1_readWorkers_0 E a b q16.2 T) (by decide) 0 rfl rfl rfl g_X4_17 hd_X7_is ⟨Nat.le_of_ble_eq_true rfl, Nat.le_of_ble_eq_true rfl⟩ ⟨Nat.zero_le _, Nat.zero_le _⟩ (Nat.le_of_ble_eq_true rfl) rfl dX4_comparison_15 (fun r hr => ?_)
  have hr := hr.symm
  subst hr
  refine r_istore (pc := 18) C (i := 4) dX4_comparison_18 (by decide) rfl ?_
  refine r_iload_n (pc := 20) C (i := 3) dX4_comparison_20 rfl rfl ?_
  refine r_if_ne (pc := 21) C (tgt := 29) dX4_comparison_21 rfl (fun c19 => ?_) (fun c19 => ?_)
  · rw [if_neg c19] at h
    refine r_weak (lSub_s (lSub_s (lSub_s (lSub_s (lSub_s (lSub_n (lSub_n (lSub_n (lSub_n (lSub_n (lSub_n lSub_e))))))))))) ?_
    exact N_X4_comparison_29 C a b k T q16.1 q17 q18 q16.2 q  h hq
  · rw [if_pos c19] at h
    refine r_iload (pc := 24) C (i := 4) dX4_comparison_24 rfl ?_
    refine r_if_eq (pc := 26) C (tgt := 36) dX4_comparison_26 rfl (fun c20 => ?_) (fun c20 => ?_)
    · rw [if_pos c20] at h
      refine r_aload_n (pc := 36) C (i := 0) dX4_comparison_36 rfl rfl ?_
      refine r_ldcS (pc := 37) C 50 rfl dX4_comparison_37 ?_
      obtain ⟨q21, hq21, h⟩ := bnd h
      refine r_callV_CV (Cn := RX7) (pc := 39) C [.ref (eS E 50)] (c_X7_take E l k a q16.2 50 (by decide) hq21) [0, 1, 2] (hp_X1_readWorkers_0 E a b q16.2 T) (by decide) 0 rfl rfl rfl g_X4_51 hd_X7_take ⟨Nat.le_of_ble_eq_true rfl, Nat.le_of_ble_eq_true rfl⟩ ⟨Nat.zero_le _, Nat.zero_le _⟩ (Nat.le_of_ble_eq_true rfl) rfl dX4_comparison_39 (fun w1 hw1 => ?_)
      subst hw1
      refine ⟨(wTk E a q21 ++ wFl E b T), by exact (pw_X1_readWorkers_0 E a b q16.2 T q21), ?_⟩
      refine r_aload_n (pc := 42) C (i := 0) dX4_comparison_42 rfl rfl ?_
      obtain ⟨q22, hq22, h⟩ := bnd h
      refine r_callS_CI (pc := 43) C [.ref (a 0)] (c_X4_takeValue E l k a q21 hq22) [0, 1, 2] (hp_X1_readWorkers_0 E a b q21 T) (by decide) g_X4_61 hd_X4_takeValue.2 ⟨Nat.le_of_ble_eq_true rfl, Nat.le_of_ble_eq_true rfl⟩ ⟨Nat.zero_le _, Nat.zero_le _⟩ (Nat.le_of_ble_eq_true rfl) rfl dX4_comparison_43 (fun r w1 hw1 => ?_)
      obtain ⟨hr1, hw1⟩ := hw1
      subst hr1 hw1
      refine ⟨(wTk E a q22.2 ++ wFl E b T), by exact (pw_X1_readWorkers_0 E a b q21 T q22.2), ?_⟩
      refine r_istore (pc := 46) C (i := 5) dX4_comparison_46 (by decide) rfl ?_
      refine r_lconst (pc := 48) C (v := 0) dX4_comparison_48 (by decide) ?_
      refine r_lstore (pc := 49) C (i := 6) dX4_comparison_49 (by decide) rfl ?_
      refine r_iconst (pc := 51) C (v := 0) dX4_comparison_51 (by decide) ?_
      refine r_istore (pc := 52) C (i := 8) dX4_comparison_52 (by decide) rfl ?_
      refine r_weak (lSub_s (lSub_s (lSub_s (lSub_s (lSub_s (lSub_s (lSub_s (lSub_n (lSub_s (lSub_n (lSub_n lSub_e))))))))))) ?_
      exact N_X4_comparison_54 C a b k T k q16.1 q17 q18 q22.1 (0 : Int64) (0 : Int32) q22.2 q  h hq
    · rw [if_neg c20] at h
      refine r_weak (lSub_s (lSub_s (lSub_s (lSub_s (lSub_s (lSub_n (lSub_n (lSub_n (lSub_n (lSub_n (lSub_n lSub_e))))))))))) ?_
      exact N_X4_comparison_29 C a b k T q16.1 q17 q18 q16.2 q  h hq
def M_X4_comparison (k : Nat) (S : Nat → Nat → Int32) (T : Nat → Nat → Int32) : Option (Int64 × (Nat → Nat → Int32)) := M_X4_comparison_0 k T S
set_option maxRecDepth 100000 in
set_option maxHeartbeats 4000000 in
theorem c_X4_comparison (E : ENV) (l : Launch) (k : Nat) (a : Nat → Nat) (b : Nat → Nat) (S : Nat → Nat → Int32) (T : Nat → Nat → Int32) {q : Int64 × (Nat → Nat → Int32)} (hm : M_X4_comparison k S T = some q) : CL E l yX4_comparison cX4_comparison 11 (some .long) rm_X4_comparison [.ref (a 0), .ref (b 0)] (wTk E a S ++ wFl E b T) (fun r w' => r = q.1 ∧ w' = (wTk E a q.2 ++ wFl E b T)) :=
  CL.of 9 (by decide) (Nat.le_of_ble_eq_true rfl) (fun p e s m below meth c A C _ => r_weak (lSub_s (lSub_s (lSub_n (lSub_n (lSub_n (lSub_n (lSub_n (lSub_n (lSub_n (lSub_n (lSub_n lSub_e))))))))))) (N_X4_comparison_0 C a b k T S q  hm ⟨rfl, rfl⟩))
end WALKS
