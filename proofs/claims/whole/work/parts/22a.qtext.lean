section WALKS
variable {E : ENV} {p : Program} {l : Launch} {e : Env} {s : State} {m : MethodId} {args : Array Value} {below : List Frame} {meth : Method} {c : Code} {A : Nat → Prop}
-- ShardGuard$QueryText.allRequests(LShardGuard$Fleet;)J
theorem dX4_allRequests_0 : decode cX4_allRequests 0 = .ok (.lconst 1, 1) := by decide +kernel
theorem dX4_allRequests_1 : decode cX4_allRequests 1 = .ok (.aload_n 0, 1) := by decide +kernel
theorem dX4_allRequests_2 : decode cX4_allRequests 2 = .ok (.getfield 55, 3) := by decide +kernel
theorem dX4_allRequests_5 : decode cX4_allRequests 5 = .ok (.lshl, 1) := by decide +kernel
theorem dX4_allRequests_6 : decode cX4_allRequests 6 = .ok (.lconst 1, 1) := by decide +kernel
theorem dX4_allRequests_7 : decode cX4_allRequests 7 = .ok (.lsub, 1) := by decide +kernel
theorem dX4_allRequests_8 : decode cX4_allRequests 8 = .ok (.lreturn, 1) := by decide +kernel
def rm_X4_allRequests : Room := { frames := 0, cells := 0, slots := 0, locals := 0 }
def M_X4_allRequests_0 (k : Nat) (S : Nat → Nat → Int32) : Option (Int64) := some (((1 : Int64) <<< ((S 0 3).toInt64 &&& 63)) - (1 : Int64))
set_option maxRecDepth 100000 in
set_option maxHeartbeats 4000000 in
theorem N_X4_allRequests_0 (C : CX E p l s m args meth c cX4_allRequests 1 RX4 (some .long) A) (a : Nat → Nat) (k : Nat) (S : Nat → Nat → Int32) {post : Int64 → va_W → Prop} :
    ∀ (q : Int64), M_X4_allRequests_0 k S = some q → post q (wFl E a S) →
      WW E p l e rm_X4_allRequests s m args below meth c A 0 0 (QL E below post args s rm_X4_allRequests A) (wFl E a S) 1 [some (.ref (a 0))] 0 [] := by
  intro  q  h hq
  unfold M_X4_allRequests_0 at h
  refine r_lconst (pc := 0) C (v := 1) dX4_allRequests_0 (by decide) ?_
  refine r_aload_n (pc := 1) C (i := 0) dX4_allRequests_1 rfl rfl ?_
  refine r_get (pc := 2) C gwX0 0 rfl rfl 3 (by decide) wm_1_102 rfl dX4_allRequests_2 ?_
  refine r_lshl (pc := 5) C dX4_allRequests_5 ?_
  refine r_lconst (pc := 6) C (v := 1) dX4_allRequests_6 (by decide) ?_
  refine r_lsub (pc := 7) C dX4_allRequests_7 ?_
  cases h
  exact r_lret (pc := 8) C hq (Nat.zero_le _) (Nat.zero_le _) dX4_allRequests_8
def M_X4_allRequests (k : Nat) (S : Nat → Nat → Int32) : Option (Int64) := M_X4_allRequests_0 k S
set_option maxRecDepth 100000 in
set_option maxHeartbeats 4000000 in
theorem c_X4_allRequests (E : ENV) (l : Launch) (k : Nat) (a : Nat → Nat) (S : Nat → Nat → Int32) {q : Int64} (hm : M_X4_allRequests k S = some q) : CL E l yX4_allRequests cX4_allRequests 1 (some .long) rm_X4_allRequests [.ref (a 0)] (wFl E a S) (fun r w' => r = q ∧ w' = (wFl E a S)) :=
  CL.of 0 (by decide) (Nat.le_of_ble_eq_true rfl) (fun p e s m below meth c A C _ => r_weak (lSub_s lSub_e) (N_X4_allRequests_0 C a k S q  hm ⟨rfl, rfl⟩))
theorem g_X4_17 : GoodIn GW (wsV RX4 17 RX7 yX7_is (wsG yX7_is cX7_is 3 (some .boolean))) := gw_V wm_5_113 wm_3_42 wm_3_43 wm_1_7 wm_3_44
-- ShardGuard$QueryText.propertyNamed(LShardGuard$Tokens;)I
theorem dX4_propertyNamed_0 : decode cX4_propertyNamed 0 = .ok (.aload_n 0, 1) := by decide +kernel
theorem dX4_propertyNamed_1 : decode cX4_propertyNamed 1 = .ok (.ldc 86, 2) := by decide +kernel
theorem dX4_propertyNamed_3 : decode cX4_propertyNamed 3 = .ok (.invokevirtual 17, 3) := by decide +kernel
theorem dX4_propertyNamed_6 : decode cX4_propertyNamed 6 = .ok (.ifCond .eq 5, 3) := by decide +kernel
theorem dX4_propertyNamed_9 : decode cX4_propertyNamed 9 = .ok (.iconst 0, 1) := by decide +kernel
theorem dX4_propertyNamed_10 : decode cX4_propertyNamed 10 = .ok (.ireturn, 1) := by decide +kernel
theorem dX4_propertyNamed_11 : decode cX4_propertyNamed 11 = .ok (.aload_n 0, 1) := by decide +kernel
theorem dX4_propertyNamed_12 : decode cX4_propertyNamed 12 = .ok (.ldc 88, 2) := by decide +kernel
theorem dX4_propertyNamed_14 : decode cX4_propertyNamed 14 = .ok (.invokevirtual 17, 3) := by decide +kernel
theorem dX4_propertyNamed_17 : decode cX4_propertyNamed 17 = .ok (.ifCond .eq 5, 3) := by decide +kernel
theorem dX4_propertyNamed_20 : decode cX4_propertyNamed 20 = .ok (.iconst 1, 1) := by decide +kernel
theorem dX4_propertyNamed_21 : decode cX4_propertyNamed 21 = .ok (.ireturn, 1) := by decide +kernel
theorem dX4_propertyNamed_22 : decode cX4_propertyNamed 22 = .ok (.aload_n 0, 1) := by decide +kernel
theorem dX4_propertyNamed_23 : decode cX4_propertyNamed 23 = .ok (.ldc 90, 2) := by decide +kernel
theorem dX4_propertyNamed_25 : decode cX4_propertyNamed 25 = .ok (.invokevirtual 17, 3) := by decide +kernel
theorem dX4_propertyNamed_28 : decode cX4_propertyNamed 28 = .ok (.ifCond .eq 5, 3) := by decide +kernel
theorem dX4_propertyNamed_31 : decode cX4_propertyNamed 31 = .ok (.iconst 2, 1) := by decide +kernel
theorem dX4_propertyNamed_32 : decode cX4_propertyNamed 32 = .ok (.ireturn, 1) := by decide +kernel
theorem dX4_propertyNamed_33 : decode cX4_propertyNamed 33 = .ok (.aload_n 0, 1) := by decide +kernel
theorem dX4_propertyNamed_34 : decode cX4_propertyNamed 34 = .ok (.ldc 92, 2) := by decide +kernel
theorem dX4_propertyNamed_36 : decode cX4_propertyNamed 36 = .ok (.invokevirtual 17, 3) := by decide +kernel
theorem dX4_propertyNamed_39 : decode cX4_propertyNamed 39 = .ok (.ifCond .eq 5, 3) := by decide +kernel
theorem dX4_propertyNamed_42 : decode cX4_propertyNamed 42 = .ok (.iconst 3, 1) := by decide +kernel
theorem dX4_propertyNamed_43 : decode cX4_propertyNamed 43 = .ok (.ireturn, 1) := by decide +kernel
theorem dX4_propertyNamed_44 : decode cX4_propertyNamed 44 = .ok (.aload_n 0, 1) := by decide +kernel
theorem dX4_propertyNamed_45 : decode cX4_propertyNamed 45 = .ok (.ldc 94, 2) := by decide +kernel
theorem dX4_propertyNamed_47 : decode cX4_propertyNamed 47 = .ok (.invokevirtual 17, 3) := by decide +kernel
theorem dX4_propertyNamed_50 : decode cX4_propertyNamed 50 = .ok (.ifCond .eq 5, 3) := by decide +kernel
theorem dX4_propertyNamed_53 : decode cX4_propertyNamed 53 = .ok (.iconst 4, 1) := by decide +kernel
theorem dX4_propertyNamed_54 : decode cX4_propertyNamed 54 = .ok (.ireturn, 1) := by decide +kernel
theorem dX4_propertyNamed_55 : decode cX4_propertyNamed 55 = .ok (.aload_n 0, 1) := by decide +kernel
theorem dX4_propertyNamed_56 : decode cX4_propertyNamed 56 = .ok (.ldc 96, 2) := by decide +kernel
theorem dX4_propertyNamed_58 : decode cX4_propertyNamed 58 = .ok (.invokevirtual 17, 3) := by decide +kernel
theorem dX4_propertyNamed_61 : decode cX4_propertyNamed 61 = .ok (.ifCond .eq 5, 3) := by decide +kernel
theorem dX4_propertyNamed_64 : decode cX4_propertyNamed 64 = .ok (.iconst 5, 1) := by decide +kernel
theorem dX4_propertyNamed_65 : decode cX4_propertyNamed 65 = .ok (.ireturn, 1) := by decide +kernel
theorem dX4_propertyNamed_66 : decode cX4_propertyNamed 66 = .ok (.aload_n 0, 1) := by decide +kernel
theorem dX4_propertyNamed_67 : decode cX4_propertyNamed 67 = .ok (.ldc 98, 2) := by decide +kernel
theorem dX4_propertyNamed_69 : decode cX4_propertyNamed 69 = .ok (.invokevirtual 17, 3) := by decide +kernel
theorem dX4_propertyNamed_72 : decode cX4_propertyNamed 72 = .ok (.ifCond .eq 6, 3) := by decide +kernel
theorem dX4_propertyNamed_75 : decode cX4_propertyNamed 75 = .ok (.bipush 6, 2) := by decide +kernel
theorem dX4_propertyNamed_77 : decode cX4_propertyNamed 77 = .ok (.ireturn, 1) := by decide +kernel
theorem dX4_propertyNamed_78 : decode cX4_propertyNamed 78 = .ok (.aload_n 0, 1) := by decide +kernel
theorem dX4_propertyNamed_79 : decode cX4_propertyNamed 79 = .ok (.ldc 100, 2) := by decide +kernel
theorem dX4_propertyNamed_81 : decode cX4_propertyNamed 81 = .ok (.invokevirtual 17, 3) := by decide +kernel
theorem dX4_propertyNamed_84 : decode cX4_propertyNamed 84 = .ok (.ifCond .eq 6, 3) := by decide +kernel
theorem dX4_propertyNamed_87 : decode cX4_propertyNamed 87 = .ok (.bipush 7, 2) := by decide +kernel
theorem dX4_propertyNamed_89 : decode cX4_propertyNamed 89 = .ok (.ireturn, 1) := by decide +kernel
theorem dX4_propertyNamed_90 : decode cX4_propertyNamed 90 = .ok (.aload_n 0, 1) := by decide +kernel
theorem dX4_propertyNamed_91 : decode cX4_propertyNamed 91 = .ok (.ldc 102, 2) := by decide +kernel
theorem dX4_propertyNamed_93 : decode cX4_propertyNamed 93 = .ok (.invokevirtual 17, 3) := by decide +kernel
theorem dX4_propertyNamed_96 : decode cX4_propertyNamed 96 = .ok (.ifCond .eq 8, 3) := by decide +kernel
theorem dX4_propertyNamed_99 : decode cX4_propertyNamed 99 = .ok (.bipush 8, 2) := by decide +kernel
theorem dX4_propertyNamed_101 : decode cX4_propertyNamed 101 = .ok (.goto 4, 3) := by decide +kernel
theorem dX4_propertyNamed_104 : decode cX4_propertyNamed 104 = .ok (.iconst (-1), 1) := by decide +kernel
theorem dX4_propertyNamed_105 : decode cX4_propertyNamed 105 = .ok (.ireturn, 1) := by decide +kernel
def rm_X4_propertyNamed : Room := { frames := 7, cells := 0, slots := 0, locals := 172 }
def M_X4_propertyNamed_0 (k : Nat) (S : Nat → Nat → Int32) : Option (Int32) := (M_X7_is k S 39).bind fun q1 => if q1 = 0 then ((M_X7_is k S 40).bind fun q3 => if q3 = 0 then ((M_X7_is k S 41).bind fun q5 => if q5 = 0 then ((M_X7_is k S 42).bind fun q7 => if q7 = 0 then ((M_X7_is k S 43).bind fun q9 => if q9 = 0 then ((M_X7_is k S 44).bind fun q11 => if q11 = 0 then ((M_X7_is k S 45).bind fun q13 => if q13 = 0 then ((M_X7_is k S 46).bind fun q15 => if q15 = 0 then ((M_X7_is k S 47).bind fun q17 => if q17 = 0 then (some (-1 : Int32)) else (some (8 : Int32))) else (some (7 : Int32))) else (some (6 : Int32))) else (some (5 : Int32))) else (some (4 : Int32))) else (some (3 : Int32))) else (some (2 : Int32))) else (some (1 : Int32))) else (some (0 : Int32))
set_option maxRecDepth 100000 in
set_option maxHeartbeats 4000000 in
theorem N_X4_propertyNamed_0 (C : CX E p l s m args meth c cX4_propertyNamed 1 RX4 (some .int) A) (a : Nat → Nat) (k : Nat) (S : Nat → Nat → Int32) {post : Int32 → va_W → Prop} :
    ∀ (q : Int32), M_X4_propertyNamed_0 k S = some q → post q (wTk E a S) →
      WW E p l e rm_X4_propertyNamed s m args below meth c A 0 0 (QI E below post args s rm_X4_propertyNamed A) (wTk E a S) 1 [some (.ref (a 0))] 0 [] := by
  intro  q  h hq
  unfold M_X4_propertyNamed_0 at h
  refine r_aload_n (pc := 0) C (i := 0) dX4_propertyNamed_0 rfl rfl ?_
  refine r_ldcS (pc := 1) C 39 rfl dX4_propertyNamed_1 ?_
  obtain ⟨q1, hq1, h⟩ := bnd h
  refine r_callVp_CI (Cn := RX7) (pc := 3) C [.ref (eS E 39)] (c_X7_is E l k a S 39 (by decide) hq1) [0, 1, 2] rfl (by decide) 0 rfl rfl rfl g_X4_17 hd_X7_is ⟨Nat.le_of_ble_eq_true rfl, Nat.le_of_ble_eq_true rfl⟩ ⟨Nat.zero_le _, Nat.zero_le _⟩ (Nat.le_of_ble_eq_true rfl) rfl dX4_propertyNamed_3 (fun r hr => ?_)
  have hr := hr.symm
  subst hr
  refine r_if_eq (pc := 6) C (tgt := 11) dX4_propertyNamed_6 rfl (fun c2 => ?_) (fun c2 => ?_)
  · rw [if_pos c2] at h
    refine r_aload_n (pc := 11) C (i := 0) dX4_propertyNamed_11 rfl rfl ?_
    refine r_ldcS (pc := 12) C 40 rfl dX4_propertyNamed_12 ?_
    obtain ⟨q3, hq3, h⟩ := bnd h
    refine r_callVp_CI (Cn := RX7) (pc := 14) C [.ref (eS E 40)] (c_X7_is E l k a S 40 (by decide) hq3) [0, 1, 2] rfl (by decide) 0 rfl rfl rfl g_X4_17 hd_X7_is ⟨Nat.le_of_ble_eq_true rfl, Nat.le_of_ble_eq_true rfl⟩ ⟨Nat.zero_le _, Nat.zero_le _⟩ (Nat.le_of_ble_eq_true rfl) rfl dX4_propertyNamed_14 (fun r hr => ?_)
    have hr := hr.symm
    subst hr
    refine r_if_eq (pc := 17) C (tgt := 22) dX4_propertyNamed_17 rfl (fun c4 => ?_) (fun c4 => ?_)
    · rw [if_pos c4] at h
      refine r_aload_n (pc := 22) C (i := 0) dX4_propertyNamed_22 rfl rfl ?_
      refine r_ldcS (pc := 23) C 41 rfl dX4_propertyNamed_23 ?_
      obtain ⟨q5, hq5, h⟩ := bnd h
      refine r_callVp_CI (Cn := RX7) (pc := 25) C [.ref (eS E 41)] (c_X7_is E l k a S 41 (by decide) hq5) [0, 1, 2] rfl (by decide) 0 rfl rfl rfl g_X4_17 hd_X7_is ⟨Nat.le_of_ble_eq_true rfl, Nat.le_of_ble_eq_true rfl⟩ ⟨Nat.zero_le _, Nat.zero_le _⟩ (Nat.le_of_ble_eq_true rfl) rfl dX4_propertyNamed_25 (fun r hr => ?_)
      have hr := hr.symm
      subst hr
      refine r_if_eq (pc := 28) C (tgt := 33) dX4_propertyNamed_28 rfl (fun c6 => ?_) (fun c6 => ?_)
      · rw [if_pos c6] at h
        refine r_aload_n (pc := 33) C (i := 0) dX4_propertyNamed_33 rfl rfl ?_
        refine r_ldcS (pc := 34) C 42 rfl dX4_propertyNamed_34 ?_
        obtain ⟨q7, hq7, h⟩ := bnd h
        refine r_callVp_CI (Cn := RX7) (pc := 36) C [.ref (eS E 42)] (c_X7_is E l k a S 42 (by decide) hq7) [0, 1, 2] rfl (by decide) 0 rfl rfl rfl g_X4_17 hd_X7_is ⟨Nat.le_of_ble_eq_true rfl, Nat.le_of_ble_eq_true rfl⟩ ⟨Nat.zero_le _, Nat.zero_le _⟩ (Nat.le_of_ble_eq_true rfl) rfl dX4_propertyNamed_36 (fun r hr => ?_)
        have hr := hr.symm
        subst hr
        refine r_if_eq (pc := 39) C (tgt := 44) dX4_propertyNamed_39 rfl (fun c8 => ?_) (fun c8 => ?_)
        · rw [if_pos c8] at h
          refine r_aload_n (pc := 44) C (i := 0) dX4_propertyNamed_44 rfl rfl ?_
          refine r_ldcS (pc := 45) C 43 rfl dX4_propertyNamed_45 ?_
          obtain ⟨q9, hq9, h⟩ := bnd h
          refine r_callVp_CI (Cn := RX7) (pc := 47) C [.ref (eS E 43)] (c_X7_is E l k a S 43 (by decide) hq9) [0, 1, 2] rfl (by decide) 0 rfl rfl rfl g_X4_17 hd_X7_is ⟨Nat.le_of_ble_eq_true rfl, Nat.le_of_ble_eq_true rfl⟩ ⟨Nat.zero_le _, Nat.zero_le _⟩ (Nat.le_of_ble_eq_true rfl) rfl dX4_propertyNamed_47 (fun r hr => ?_)
          have hr := hr.symm
          subst hr
          refine r_if_eq (pc := 50) C (tgt := 55) dX4_propertyNamed_50 rfl (fun c10 => ?_) (fun c10 => ?_)
          · rw [if_pos c10] at h
            refine r_aload_n (pc := 55) C (i := 0) dX4_propertyNamed_55 rfl rfl ?_
            refine r_ldcS (pc := 56) C 44 rfl dX4_propertyNamed_56 ?_
            obtain ⟨q11, hq11, h⟩ := bnd h
            refine r_callVp_CI (Cn := RX7) (pc := 58) C [.ref (eS E 44)] (c_X7_is E l k a S 44 (by decide) hq11) [0, 1, 2] rfl (by decide) 0 rfl rfl rfl g_X4_17 hd_X7_is ⟨Nat.le_of_ble_eq_true rfl, Nat.le_of_ble_eq_true rfl⟩ ⟨Nat.zero_le _, Nat.zero_le _⟩ (Nat.le_of_ble_eq_true rfl) rfl dX4_propertyNamed_58 (fun r hr => ?_)
            have hr := hr.symm
            subst hr
            refine r_if_eq (pc := 61) C (tgt := 66) dX4_propertyNamed_61 rfl (fun c12 => ?_) (fun c12 => ?_)
            · rw [if_pos c12] at h
              refine r_aload_n (pc := 66) C (i := 0) dX4_propertyNamed_66 rfl rfl ?_
              refine r_ldcS (pc := 67) C 45 rfl dX4_propertyNamed_67 ?_
              obtain ⟨q13, hq13, h⟩ := bnd h
              refine r_callVp_CI (Cn := RX7) (pc := 69) C [.ref (eS E 45)] (c_X7_is E l k a S 45 (by decide) hq13) [0, 1, 2] rfl (by decide) 0 rfl rfl rfl g_X4_17 hd_X7_is ⟨Nat.le_of_ble_eq_true rfl, Nat.le_of_ble_eq_true rfl⟩ ⟨Nat.zero_le _, Nat.zero_le _⟩ (Nat.le_of_ble_eq_true rfl) rfl dX4_propertyNamed_69 (fun r hr => ?_)
              have hr := hr.symm
              subst hr
              refine r_if_eq (pc := 72) C (tgt := 78) dX4_propertyNamed_72 rfl (fun c14 => ?_) (fun c14 => ?_)
              · rw [if_pos c14] at h
                refine r_aload_n (pc := 78) C (i := 0) dX4_propertyNamed_78 rfl rfl ?_
                refine r_ldcS (pc := 79) C 46 rfl dX4_propertyNamed_79 ?_
                obtain ⟨q15, hq15, h⟩ := bnd h
                refine r_callVp_CI (Cn := RX7) (pc := 81) C [.ref (eS E 46)] (c_X7_is E l k a S 46 (by decide) hq15) [0, 1, 2] rfl (by decide) 0 rfl rfl rfl g_X4_17 hd_X7_is ⟨Nat.le_of_ble_eq_true rfl, Nat.le_of_ble_eq_true rfl⟩ ⟨Nat.zero_le _, Nat.zero_le _⟩ (Nat.le_of_ble_eq_true rfl) rfl dX4_propertyNamed_81 (fun r hr => ?_)
                have hr := hr.symm
                subst hr
                refine r_if_eq (pc := 84) C (tgt := 90) dX4_propertyNamed_84 rfl (fun c16 => ?_) (fun c16 => ?_)
                · rw [if_pos c16] at h
                  refine r_aload_n (pc := 90) C (i := 0) dX4_propertyNamed_90 rfl rfl ?_
                  refine r_ldcS (pc := 91) C 47 rfl dX4_propertyNamed_91 ?_
                  obtain ⟨q17, hq17, h⟩ := bnd h
                  refine r_callVp_CI (Cn := RX7) (pc := 93) C [.ref (eS E 47)] (c_X7_is E l k a S 47 (by decide) hq17) [0, 1, 2] rfl (by decide) 0 rfl rfl rfl g_X4_17 hd_X7_is ⟨Nat.le_of_ble_eq_true rfl, Nat.le_of_ble_eq_true rfl⟩ ⟨Nat.zero_le _, Nat.zero_le _⟩ (Nat.le_of_ble_eq_true rfl) rfl dX4_propertyNamed_93 (fun r hr => ?_)
                  have hr := hr.symm
                  subst hr
                  refine r_if_eq (pc := 96) C (tgt := 104) dX4_propertyNamed_96 rfl (fun c18 => ?_) (fun c18 => ?_)
                  · rw [if_pos c18] at h
                    refine r_iconst (pc := 104) C (v := (-1)) dX4_propertyNamed_104 (by decide) ?_
                    have h := Option.some.inj h
                    subst h
                    exact r_ireti (pc := 105) C hq (Nat.zero_le _) (Nat.zero_le _) dX4_propertyNamed_105
                  · rw [if_neg c18] at h
                    refine r_bipush (pc := 99) C (v := 8) dX4_propertyNamed_99 (by decide) ?_
                    refine r_goto (pc := 101) C (tgt := 105) dX4_propertyNamed_101 rfl ?_
                    cases h
                    exact r_ireti (pc := 105) C hq (Nat.zero_le _) (Nat.zero_le _) dX4_propertyNamed_105
                · rw [if_neg c16] at h
                  refine r_bipush (pc := 87) C (v := 7) dX4_propertyNamed_87 (by decide) ?_
                  cases h
                  exact r_ireti (pc := 89) C hq (Nat.zero_le _) (Nat.zero_le _) dX4_propertyNamed_89
              · rw [if_neg c14] at h
                refine r_bipush (pc := 75) C (v := 6) dX4_propertyNamed_75 (by decide) ?_
                cases h
                exact r_ireti (pc := 77) C hq (Nat.zero_le _) (Nat.zero_le _) dX4_propertyNamed_77
            · rw [if_neg c12] at h
              refine r_iconst (pc := 64) C (v := 5) dX4_propertyNamed_64 (by decide) ?_
              cases h
              exact r_ireti (pc := 65) C hq (Nat.zero_le _) (Nat.zero_le _) dX4_propertyNamed_65
          · rw [if_neg c10] at h
            refine r_iconst (pc := 53) C (v := 4) dX4_propertyNamed_53 (by decide) ?_
            cases h
            exact r_ireti (pc := 54) C hq (Nat.zero_le _) (Nat.zero_le _) dX4_propertyNamed_54
        · rw [if_neg c8] at h
          refine r_iconst (pc := 42) C (v := 3) dX4_propertyNamed_42 (by decide) ?_
          cases h
          exact r_ireti (pc := 43) C hq (Nat.zero_le _) (Nat.zero_le _) dX4_propertyNamed_43
      · rw [if_neg c6] at h
        refine r_iconst (pc := 31) C (v := 2) dX4_propertyNamed_31 (by decide) ?_
        cases h
        exact r_ireti (pc := 32) C hq (Nat.zero_le _) (Nat.zero_le _) dX4_propertyNamed_32
    · rw [if_neg c4] at h
      refine r_iconst (pc := 20) C (v := 1) dX4_propertyNamed_20 (by decide) ?_
      cases h
      exact r_ireti (pc := 21) C hq (Nat.zero_le _) (Nat.zero_le _) dX4_propertyNamed_21
  · rw [if_neg c2] at h
    refine r_iconst (pc := 9) C (v := 0) dX4_propertyNamed_9 (by decide) ?_
    cases h
    exact r_ireti (pc := 10) C hq (Nat.zero_le _) (Nat.zero_le _) dX4_propertyNamed_10
def M_X4_propertyNamed (k : Nat) (S : Nat → Nat → Int32) : Option (Int32) := M_X4_propertyNamed_0 k S
set_option maxRecDepth 100000 in
set_option maxHeartbeats 4000000 in
theorem c_X4_propertyNamed (E : ENV) (l : Launch) (k : Nat) (a : Nat → Nat) (S : Nat → Nat → Int32) {q : Int32} (hm : M_X4_propertyNamed k S = some q) : CI E l yX4_propertyNamed cX4_propertyNamed 1 (some .int) rm_X4_propertyNamed [.ref (a 0)] (wTk E a S) (fun r w' => r = q ∧ w' = (wTk E a S)) :=
  CI.of 0 (by decide) (Nat.le_of_ble_eq_true rfl) (fun p e s m below meth c A C _ => r_weak (lSub_s lSub_e) (N_X4_propertyNamed_0 C a k S q  hm ⟨rfl, rfl⟩))
theorem hd_X4_propertyNamed : yX4_propertyNamed.cls = RX4 ∧ yX4_propertyNamed.cls ≠ "java/lang/invoke/MethodHandle" ∧ yX4_propertyNamed.cls ≠ "java/lang/invoke/VarHandle" ∧ (parseMethodDescriptor yX4_propertyNamed.desc).map (fun d => d.parameters.length) = some 1 := by decide +kernel
theorem g_X4_79 : GoodIn GW (va_wsS RX4 79 yX4_propertyNamed (wsG yX4_propertyNamed cX4_propertyNamed 1 (some .int))) := gw_S wm_5_121 wm_5_122 wm_1_24 wm_5_123
theorem g_X4_25 : GoodIn GW (wsV RX4 25 RX7 yX7_advance (wsG yX7_advance cX7_advance 2 none)) := gw_V wm_5_134 wm_3_18 wm_3_19 wm_1_7 wm_3_20
theorem g_X4_82 : GoodIn GW (wsV RX4 82 RX7 yX7_takeNumber (wsG yX7_takeNumber cX7_takeNumber 4 (some .int))) := gw_V wm_5_133 wm_3_102 wm_3_103 wm_1_7 wm_3_104
-- ShardGuard$QueryText.takeValue(LShardGuard$Tokens;)I
theorem dX4_takeValue_0 : decode cX4_takeValue 0 = .ok (.aload_n 0, 1) := by decide +kernel
theorem dX4_takeValue_1 : decode cX4_takeValue 1 = .ok (.invokestatic 79, 3) := by decide +kernel
theorem dX4_takeValue_4 : decode cX4_takeValue 4 = .ok (.istore_n 1, 1) := by decide +kernel
theorem dX4_takeValue_5 : decode cX4_takeValue 5 = .ok (.iload_n 1, 1) := by decide +kernel
theorem dX4_takeValue_6 : decode cX4_takeValue 6 = .ok (.iconst (-1), 1) := by decide +kernel
theorem dX4_takeValue_7 : decode cX4_takeValue 7 = .ok (.if_icmp .ne 12, 3) := by decide +kernel
theorem dX4_takeValue_10 : decode cX4_takeValue 10 = .ok (.aload_n 0, 1) := by decide +kernel
theorem dX4_takeValue_11 : decode cX4_takeValue 11 = .ok (.iconst 0, 1) := by decide +kernel
theorem dX4_takeValue_12 : decode cX4_takeValue 12 = .ok (.sipush 9999, 3) := by decide +kernel
theorem dX4_takeValue_15 : decode cX4_takeValue 15 = .ok (.invokevirtual 82, 3) := by decide +kernel
theorem dX4_takeValue_18 : decode cX4_takeValue 18 = .ok (.ireturn, 1) := by decide +kernel
theorem dX4_takeValue_19 : decode cX4_takeValue 19 = .ok (.aload_n 0, 1) := by decide +kernel
theorem dX4_takeValue_20 : decode cX4_takeValue 20 = .ok (.invokevirtual 25, 3) := by decide +kernel
theorem dX4_takeValue_23 : decode cX4_takeValue 23 = .ok (.iconst (-1), 1) := by decide +kernel
theorem dX4_takeValue_24 : decode cX4_takeValue 24 = .ok (.iload_n 1, 1) := by decide +kernel
theorem dX4_takeValue_25 : decode cX4_takeValue 25 = .ok (.isub, 1) := by decide +kernel
theorem dX4_takeValue_26 : decode cX4_takeValue 26 = .ok (.ireturn, 1) := by decide +kernel
def rm_X4_takeValue : Room := { frames := 8, cells := 0, slots := 0, locals := 192 }
def M_X4_takeValue_0 (k : Nat) (S : Nat → Nat → Int32) : Option (Int32 × (Nat → Nat → Int32)) := (M_X4_propertyNamed k S).bind fun q1 => if q1 = (-1 : Int32) then ((M_X7_takeNumber k S (0 : Int32) (9999 : Int32)).bind fun q4 => some (q4.1, q4.2)) else ((M_X7_advance k S).bind fun q3 => some (((-1 : Int32) - q1), q3))
set_option maxRecDepth 100000 in
set_option maxHeartbeats 4000000 in
theorem N_X4_takeValue_0 (C : CX E p l s m args meth c cX4_takeValue 2 RX4 (some .int) A) (a : Nat → Nat) (k : Nat) {post : Int32 → va_W → Prop} :
    ∀ (S : Nat → Nat → Int32) (q : Int32 × (Nat → Nat → Int32)), M_X4_takeValue_0 k S = some q → post q.1 (wTk E a q.2) →
      WW E p l e rm_X4_takeValue s m args below meth c A 0 0 (QI E below post args s rm_X4_takeValue A) (wTk E a S) 2 [some (.ref (a 0)), none] 0 [] := by
  intro S q  h hq
  unfold M_X4_takeValue_0 at h
  refine r_aload_n (pc := 0) C (i := 0) dX4_takeValue_0 rfl rfl ?_
  obtain ⟨q1, hq1, h⟩ := bnd h
  refine r_callSp_CI (pc := 1) C [.ref (a 0)] (c_X4_propertyNamed E l k a S hq1) [0, 1, 2] rfl (by decide) g_X4_79 hd_X4_propertyNamed.2 ⟨Nat.le_of_ble_eq_true rfl, Nat.le_of_ble_eq_true rfl⟩ ⟨Nat.zero_le _, Nat.zero_le _⟩ (Nat.le_of_ble_eq_true rfl) rfl dX4_takeValue_1 (fun r hr => ?_)
  have hr := hr.symm
  subst hr
  refine r_istore_n (pc := 4) C (i := 1) dX4_takeValue_4 rfl (by decide) rfl ?_
  refine r_iload_n (pc := 5) C (i := 1) dX4_takeValue_5 rfl rfl ?_
  refine r_iconst (pc := 6) C (v := (-1)) dX4_takeValue_6 (by decide) ?_
  refine r_icmp_ne (pc := 7) C (tgt := 19) dX4_takeValue_7 rfl (fun c2 => ?_) (fun c2 => ?_)
  · rw [if_neg c2] at h
    refine r_aload_n (pc := 19) C (i := 0) dX4_takeValue_19 rfl rfl ?_
    obtain ⟨q3, hq3, h⟩ := bnd h
    refine r_callV_CV (Cn := RX7) (pc := 20) C [] (c_X7_advance E l k a S hq3) [0, 1, 2] rfl (by decide) 0 rfl rfl rfl g_X4_25 hd_X7_advance ⟨Nat.le_of_ble_eq_true rfl, Nat.le_of_ble_eq_true rfl⟩ ⟨Nat.zero_le _, Nat.zero_le _⟩ (Nat.le_of_ble_eq_true rfl) rfl dX4_takeValue_20 (fun w1 hw1 => ?_)
    subst hw1
    refine ⟨(wTk E a q3), by rfl, ?_⟩
    refine r_iconst (pc := 23) C (v := (-1)) dX4_takeValue_23 (by decide) ?_
    refine r_iload_n (pc := 24) C (i := 1) dX4_takeValue_24 rfl rfl ?_
    refine r_isub (pc := 25) C dX4_takeValue_25 ?_
    have h := Option.some.inj h
    subst h
    exact r_ireti (pc := 26) C hq (Nat.zero_le _) (Nat.zero_le _) dX4_takeValue_26
  · rw [if_pos c2] at h
    refine r_aload_n (pc := 10) C (i := 0) dX4_takeValue_10 rfl rfl ?_
    refine r_iconst (pc := 11) C (v := 0) dX4_takeValue_11 (by decide) ?_
    refine r_sipush (pc := 12) C (v := 9999) dX4_takeValue_12 (by decide) ?_
    obtain ⟨q4, hq4, h⟩ := bnd h
    refine r_callV_CI (Cn := RX7) (pc := 15) C [.int (0 : Int32), .int (9999 : Int32)] (c_X7_takeNumber E l k a S (0 : Int32) (9999 : Int32) hq4) [0, 1, 2] rfl (by decide) 0 rfl rfl rfl g_X4_82 hd_X7_takeNumber ⟨Nat.le_of_ble_eq_true rfl, Nat.le_of_ble_eq_true rfl⟩ ⟨Nat.zero_le _, Nat.zero_le _⟩ (Nat.le_of_ble_eq_true rfl) rfl dX4_takeValue_15 (fun r w1 hw1 => ?_)
    obtain ⟨hr1, hw1⟩ := hw1
    subst hr1 hw1
    refine ⟨(wTk E a q4.2), by rfl, ?_⟩
    cases h
    exact r_ireti (pc := 18) C hq (Nat.zero_le _) (Nat.zero_le _) dX4_takeValue_18
def M_X4_takeValue (k : Nat) (S : Nat → Nat → Int32) : Option (Int32 × (Nat → Nat → Int32)) := M_X4_takeValue_0 k S
set_option maxRecDepth 100000 in
set_option maxHeartbeats 4000000 in
theorem c_X4_takeValue (E : ENV) (l : Launch) (k : Nat) (a : Nat → Nat) (S : Nat → Nat → Int32) {q : Int32 × (Nat → Nat → Int32)} (hm : M_X4_takeValue k S = some q) : CI E l yX4_takeValue cX4_takeValue 2 (some .int) rm_X4_takeValue [.ref (a 0)] (wTk E a S) (fun r w' => r = q.1 ∧ w' = (wTk E a q.2)) :=
  CI.of 1 (by decide) (Nat.le_of_ble_eq_true rfl) (fun p e s m below meth c A C _ => r_weak (lSub_s (lSub_n lSub_e)) (N_X4_takeValue_0 C a k S q  hm ⟨rfl, rfl⟩))
theorem g_X4_112 : GoodIn GW (wsV RX4 112 RX6 yX6_at (wsG yX6_at cX6_at 5 (some .int))) := gw_V wm_5_147 wm_2_59 wm_2_60 wm_1_4 wm_2_61
theorem hd_X0_placeOf : yX0_placeOf.cls = RX0 ∧ yX0_placeOf.cls ≠ "java/lang/invoke/MethodHandle" ∧ yX0_placeOf.cls ≠ "java/lang/invoke/VarHandle" ∧ (parseMethodDescriptor yX0_placeOf.desc).map (fun d => d.parameters.length) = some 1 := by decide +kernel
theorem g_X4_104 : GoodIn GW (wsV RX4 104 RX0 yX0_placeOf (wsG yX0_placeOf cX0_placeOf 5 (some .int))) := gw_V wm_5_143 wm_5_144 wm_5_145 wm_1_2 wm_5_146
-- ShardGuard$QueryText.valueFor(ILShardGuard$Fleet;I)I
theorem dX4_valueFor_0 : decode cX4_valueFor 0 = .ok (.iload_n 0, 1) := by decide +kernel
theorem dX4_valueFor_1 : decode cX4_valueFor 1 = .ok (.ifCond .lt 5, 3) := by decide +kernel
theorem dX4_valueFor_4 : decode cX4_valueFor 4 = .ok (.iload_n 0, 1) := by decide +kernel
theorem dX4_valueFor_5 : decode cX4_valueFor 5 = .ok (.ireturn, 1) := by decide +kernel
theorem dX4_valueFor_6 : decode cX4_valueFor 6 = .ok (.iconst (-1), 1) := by decide +kernel
theorem dX4_valueFor_7 : decode cX4_valueFor 7 = .ok (.iload_n 0, 1) := by decide +kernel
theorem dX4_valueFor_8 : decode cX4_valueFor 8 = .ok (.isub, 1) := by decide +kernel
theorem dX4_valueFor_9 : decode cX4_valueFor 9 = .ok (.istore_n 3, 1) := by decide +kernel
theorem dX4_valueFor_10 : decode cX4_valueFor 10 = .ok (.iload_n 3, 1) := by decide +kernel
theorem dX4_valueFor_11 : decode cX4_valueFor 11 = .ok (.ifCond .ne 5, 3) := by decide +kernel
theorem dX4_valueFor_14 : decode cX4_valueFor 14 = .ok (.iload_n 2, 1) := by decide +kernel
theorem dX4_valueFor_15 : decode cX4_valueFor 15 = .ok (.ireturn, 1) := by decide +kernel
theorem dX4_valueFor_16 : decode cX4_valueFor 16 = .ok (.iload_n 3, 1) := by decide +kernel
theorem dX4_valueFor_17 : decode cX4_valueFor 17 = .ok (.bipush 8, 2) := by decide +kernel
theorem dX4_valueFor_19 : decode cX4_valueFor 19 = .ok (.if_icmp .ne 9, 3) := by decide +kernel
theorem dX4_valueFor_22 : decode cX4_valueFor 22 = .ok (.aload_n 1, 1) := by decide +kernel
theorem dX4_valueFor_23 : decode cX4_valueFor 23 = .ok (.iload_n 2, 1) := by decide +kernel
theorem dX4_valueFor_24 : decode cX4_valueFor 24 = .ok (.invokevirtual 104, 3) := by decide +kernel
theorem dX4_valueFor_27 : decode cX4_valueFor 27 = .ok (.ireturn, 1) := by decide +kernel
theorem dX4_valueFor_28 : decode cX4_valueFor 28 = .ok (.aload_n 1, 1) := by decide +kernel
theorem dX4_valueFor_29 : decode cX4_valueFor 29 = .ok (.getfield 108, 3) := by decide +kernel
theorem dX4_valueFor_32 : decode cX4_valueFor 32 = .ok (.iload_n 2, 1) := by decide +kernel
theorem dX4_valueFor_33 : decode cX4_valueFor 33 = .ok (.iload_n 3, 1) := by decide +kernel
theorem dX4_valueFor_34 : decode cX4_valueFor 34 = .ok (.iconst 1, 1) := by decide +kernel
theorem dX4_valueFor_35 : decode cX4_valueFor 35 = .ok (.isub, 1) := by decide +kernel
theorem dX4_valueFor_36 : decode cX4_valueFor 36 = .ok (.invokevirtual 112, 3) := by decide +kernel
theorem dX4_valueFor_39 : decode cX4_valueFor 39 = .ok (.istore 4, 2) := by decide +kernel
theorem dX4_valueFor_41 : decode cX4_valueFor 41 = .ok (.iload_n 3, 1) := by decide +kernel
theorem dX4_valueFor_42 : decode cX4_valueFor 42 = .ok (.bipush 7, 2) := by decide +kernel
theorem dX4_valueFor_44 : decode cX4_valueFor 44 = .ok (.if_icmp .ne 10, 3) := by decide +kernel
theorem dX4_valueFor_47 : decode cX4_valueFor 47 = .ok (.iload 4, 2) := by decide +kernel
theorem dX4_valueFor_49 : decode cX4_valueFor 49 = .ok (.iconst 1, 1) := by decide +kernel
theorem dX4_valueFor_50 : decode cX4_valueFor 50 = .ok (.iadd, 1) := by decide +kernel
theorem dX4_valueFor_51 : decode cX4_valueFor 51 = .ok (.goto 5, 3) := by decide +kernel
theorem dX4_valueFor_54 : decode cX4_valueFor 54 = .ok (.iload 4, 2) := by decide +kernel
theorem dX4_valueFor_56 : decode cX4_valueFor 56 = .ok (.ireturn, 1) := by decide +kernel
def rm_X4_valueFor : Room := { frames := 2, cells := 0, slots := 0, locals := 48 }
def M_X4_valueFor_0 (k : Nat) (S : Nat → Nat → Int32) (p0 : Int32) (p1 : Int32) : Option (Int32) := if p0 < 0 then (lt ((-1 : Int32) - p0) fun v2 => if v2 = 0 then (some p1) else (if v2 = (8 : Int32) then ((M_X0_placeOf k S p1).bind fun q7 => some q7) else ((M_X6_at k 60 8 480 (S 4) p1 (v2 - (1 : Int32))).bind fun q5 => if v2 = (7 : Int32) then (some (q5 + (1 : Int32))) else (some q5)))) else (some p0)
set_option maxRecDepth 100000 in
set_option maxHeartbeats 4000000 in
theorem N_X4_valueFor_0 (C : CX E p l s m args meth c cX4_valueFor 5 RX4 (some .int) A) (a : Nat → Nat) (k : Nat) (S : Nat → Nat → Int32) {post : Int32 → va_W → Prop} :
    ∀ (p0 : Int32) (p1 : Int32) (q : Int32), M_X4_valueFor_0 k S p0 p1 = some q → post q (wFl E a S) →
      WW E p l e rm_X4_valueFor s m args below meth c A 0 0 (QI E below post args s rm_X4_valueFor A) (wFl E a S) 5 [some (.int p0), some (.ref (a 0)), some (.int p1), none, none] 0 [] := by
  intro p0 p1 q  h hq
  unfold M_X4_valueFor_0 at h
  refine r_iload_n (pc := 0) C (i := 0) dX4_valueFor_0 rfl rfl ?_
  refine r_if_lt (pc := 1) C (tgt := 6) dX4_valueFor_1 rfl (fun c1 => ?_) (fun c1 => ?_)
  · rw [if_pos c1] at h
    refine r_iconst (pc := 6) C (v := (-1)) dX4_valueFor_6 (by decide) ?_
    refine r_iload_n (pc := 7) C (i := 0) dX4_valueFor_7 rfl rfl ?_
    refine r_isub (pc := 8) C dX4_valueFor_8 ?_
    obtain ⟨v2, hv2, h⟩ := lt_e h
    refine r_topi hv2 ?_
    refine r_istore_n (pc := 9) C (i := 3) dX4_valueFor_9 rfl (by decide) rfl ?_
    refine r_iload_n (pc := 10) C (i := 3) dX4_valueFor_10 rfl rfl ?_
    refine r_if_ne (pc := 11) C (tgt := 16) dX4_valueFor_11 rfl (fun c3 => ?_) (fun c3 => ?_)
    · rw [if_neg c3] at h
      refine r_iload_n (pc := 16) C (i := 3) dX4_valueFor_16 rfl rfl ?_
      refine r_bipush (pc := 17) C (v := 8) dX4_valueFor_17 (by decide) ?_
      refine r_icmp_ne (pc := 19) C (tgt := 28) dX4_valueFor_19 rfl (fun c4 => ?_) (fun c4 => ?_)
      · rw [if_neg c4] at h
        refine r_aload_n (pc := 28) C (i := 1) dX4_valueFor_28 rfl rfl ?_
        refine r_get (pc := 29) C gwX0 0 rfl rfl 9 (by decide) wm_1_117 rfl dX4_valueFor_29 ?_
        refine r_iload_n (pc := 32) C (i := 2) dX4_valueFor_32 rfl rfl ?_
        refine r_iload_n (pc := 33) C (i := 3) dX4_valueFor_33 rfl rfl ?_
        refine r_iconst (pc := 34) C (v := 1) dX4_valueFor_34 (by decide) ?_
        refine r_isub (pc := 35) C dX4_valueFor_35 ?_
        obtain ⟨q5, hq5, h⟩ := bnd h
        refine r_callVp_CI (Cn := RX6) (pc := 36) C [.int p1, .int (v2 - (1 : Int32))] (c_X6_at E l k (fun i => a (i + 7)) 60 8 480 (S 4) p1 (v2 - (1 : Int32)) hq5) [7, 8] (hp_X0_addRequest_0 E a S) (by decide) 0 rfl rfl rfl g_X4_112 hd_X6_at ⟨Nat.le_of_ble_eq_true rfl, Nat.le_of_ble_eq_true rfl⟩ ⟨Nat.zero_le _, Nat.zero_le _⟩ (Nat.le_of_ble_eq_true rfl) rfl dX4_valueFor_36 (fun r hr => ?_)
        have hr := hr.symm
        subst hr
        refine r_istore (pc := 39) C (i := 4) dX4_valueFor_39 (by decide) rfl ?_
        refine r_iload_n (pc := 41) C (i := 3) dX4_valueFor_41 rfl rfl ?_
        refine r_bipush (pc := 42) C (v := 7) dX4_valueFor_42 (by decide) ?_
        refine r_icmp_ne (pc := 44) C (tgt := 54) dX4_valueFor_44 rfl (fun c6 => ?_) (fun c6 => ?_)
        · rw [if_neg c6] at h
          refine r_iload (pc := 54) C (i := 4) dX4_valueFor_54 rfl ?_
          cases h
          exact r_ireti (pc := 56) C hq (Nat.zero_le _) (Nat.zero_le _) dX4_valueFor_56
        · rw [if_pos c6] at h
          refine r_iload (pc := 47) C (i := 4) dX4_valueFor_47 rfl ?_
          refine r_iconst (pc := 49) C (v := 1) dX4_valueFor_49 (by decide) ?_
          refine r_iadd (pc := 50) C dX4_valueFor_50 ?_
          refine r_goto (pc := 51) C (tgt := 56) dX4_valueFor_51 rfl ?_
          cases h
          exact r_ireti (pc := 56) C hq (Nat.zero_le _) (Nat.zero_le _) dX4_valueFor_56
      · rw [if_pos c4] at h
        refine r_aload_n (pc := 22) C (i := 1) dX4_valueFor_22 rfl rfl ?_
        refine r_iload_n (pc := 23) C (i := 2) dX4_valueFor_23 rfl rfl ?_
        obtain ⟨q7, hq7, h⟩ := bnd h
        refine r_callVp_CI (Cn := RX0) (pc := 24) C [.int p1] (c_X0_placeOf E l k a S p1 hq7) [0, 1, 2, 3, 4, 5, 6, 7, 8, 9, 10, 11, 12, 13, 14, 15, 16, 17] (hp_X0_isCutOff_0 E a S) (by decide) 0 rfl rfl rfl g_X4_104 hd_X0_placeOf ⟨Nat.le_of_ble_eq_true rfl, Nat.le_of_ble_eq_true rfl⟩ ⟨Nat.zero_le _, Nat.zero_le _⟩ (Nat.le_of_ble_eq_true rfl) rfl dX4_valueFor_24 (fun r hr => ?_)
        have hr := hr.symm
        subst hr
        cases h
        exact r_ireti (pc := 27) C hq (Nat.zero_le _) (Nat.zero_le _) dX4_valueFor_27
    · rw [if_pos c3] at h
      refine r_iload_n (pc := 14) C (i := 2) dX4_valueFor_14 rfl rfl ?_
      cases h
      exact r_ireti (pc := 15) C hq (Nat.zero_le _) (Nat.zero_le _) dX4_valueFor_15
  · rw [if_neg c1] at h
    refine r_iload_n (pc := 4) C (i := 0) dX4_valueFor_4 rfl rfl ?_
    cases h
    exact r_ireti (pc := 5) C hq (Nat.zero_le _) (Nat.zero_le _) dX4_valueFor_5
def M_X4_valueFor (k : Nat) (S : Nat → Nat → Int32) (p0 : Int32) (p1 : Int32) : Option (Int32) := M_X4_valueFor_0 k S p0 p1
set_option maxRecDepth 100000 in
set_option maxHeartbeats 4000000 in
theorem c_X4_valueFor (E : ENV) (l : Launch) (k : Nat) (a : Nat → Nat) (S : Nat → Nat → Int32) (p0 : Int32) (p1 : Int32) {q : Int32} (hm : M_X4_valueFor k S p0 p1 = some q) : CI E l yX4_valueFor cX4_valueFor 5 (some .int) rm_X4_valueFor [.int p0, .ref (a 0), .int p1] (wFl E a S) (fun r w' => r = q ∧ w' = (wFl E a S)) :=
  CI.of 2 (by decide) (Nat.le_of_ble_eq_true rfl) (fun p e s m below meth c A C _ => r_weak (lSub_s (lSub_s (lSub_s (lSub_n (lSub_n lSub_e))))) (N_X4_valueFor_0 C a k S p0 p1 q  hm ⟨rfl, rfl⟩))
end WALKS
