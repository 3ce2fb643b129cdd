section WALKS
variable {E : ENV} {p : Program} {l : Launch} {e : Env} {s : State} {m : MethodId} {args : Array Value} {below : List Frame} {meth : Method} {c : Code} {A : Nat → Prop}
-- ShardGuardModel.property(II)I
theorem dX10_property_0 : decode cX10_property 0 = .ok (.iload_n 2, 1) := by decide +kernel
theorem dX10_property_1 : decode cX10_property 1 = .ok (.lookupswitch 67 #[(0, 35), (7, 37), (8, 47)], 35) := by decide +kernel
theorem dX10_property_36 : decode cX10_property 36 = .ok (.iload_n 1, 1) := by decide +kernel
theorem dX10_property_37 : decode cX10_property 37 = .ok (.ireturn, 1) := by decide +kernel
theorem dX10_property_38 : decode cX10_property 38 = .ok (.iconst 1, 1) := by decide +kernel
theorem dX10_property_39 : decode cX10_property 39 = .ok (.aload_n 0, 1) := by decide +kernel
theorem dX10_property_40 : decode cX10_property 40 = .ok (.iload_n 1, 1) := by decide +kernel
theorem dX10_property_41 : decode cX10_property 41 = .ok (.bipush 6, 2) := by decide +kernel
theorem dX10_property_43 : decode cX10_property 43 = .ok (.invokevirtual 123, 3) := by decide +kernel
theorem dX10_property_46 : decode cX10_property 46 = .ok (.iadd, 1) := by decide +kernel
theorem dX10_property_47 : decode cX10_property 47 = .ok (.ireturn, 1) := by decide +kernel
theorem dX10_property_48 : decode cX10_property 48 = .ok (.aload_n 0, 1) := by decide +kernel
theorem dX10_property_49 : decode cX10_property 49 = .ok (.iload_n 1, 1) := by decide +kernel
theorem dX10_property_50 : decode cX10_property 50 = .ok (.iconst 4, 1) := by decide +kernel
theorem dX10_property_51 : decode cX10_property 51 = .ok (.invokevirtual 123, 3) := by decide +kernel
theorem dX10_property_54 : decode cX10_property 54 = .ok (.iconst 1, 1) := by decide +kernel
theorem dX10_property_55 : decode cX10_property 55 = .ok (.if_icmp .gt 11, 3) := by decide +kernel
theorem dX10_property_58 : decode cX10_property 58 = .ok (.aload_n 0, 1) := by decide +kernel
theorem dX10_property_59 : decode cX10_property 59 = .ok (.iload_n 1, 1) := by decide +kernel
theorem dX10_property_60 : decode cX10_property 60 = .ok (.invokevirtual 129, 3) := by decide +kernel
theorem dX10_property_63 : decode cX10_property 63 = .ok (.goto 4, 3) := by decide +kernel
theorem dX10_property_66 : decode cX10_property 66 = .ok (.iconst 0, 1) := by decide +kernel
theorem dX10_property_67 : decode cX10_property 67 = .ok (.ireturn, 1) := by decide +kernel
theorem dX10_property_68 : decode cX10_property 68 = .ok (.aload_n 0, 1) := by decide +kernel
theorem dX10_property_69 : decode cX10_property 69 = .ok (.iload_n 1, 1) := by decide +kernel
theorem dX10_property_70 : decode cX10_property 70 = .ok (.iload_n 2, 1) := by decide +kernel
theorem dX10_property_71 : decode cX10_property 71 = .ok (.iconst 1, 1) := by decide +kernel
theorem dX10_property_72 : decode cX10_property 72 = .ok (.isub, 1) := by decide +kernel
theorem dX10_property_73 : decode cX10_property 73 = .ok (.invokevirtual 123, 3) := by decide +kernel
theorem dX10_property_76 : decode cX10_property 76 = .ok (.ireturn, 1) := by decide +kernel
def rm_X10_property : Room := { frames := 4, cells := 0, slots := 0, locals := 90 }
def M_X10_property_0 (k : Nat) (S : Nat → Nat → Int32) (p0 : Int32) (p1 : Int32) : Option (Int32) := if p1 = (0 : Int32) then (some p0) else (if p1 = (7 : Int32) then ((M_X10_of k S p0 (6 : Int32)).bind fun q3 => some ((1 : Int32) + q3)) else (if p1 = (8 : Int32) then ((M_X10_of k S p0 (4 : Int32)).bind fun q5 => if (1 : Int32) < q5 then (some (0 : Int32)) else ((M_X10_placeOf k S p0).bind fun q7 => some q7)) else ((M_X10_of k S p0 (p1 - (1 : Int32))).bind fun q8 => some q8)))
set_option maxRecDepth 100000 in
set_option maxHeartbeats 4000000 in
theorem N_X10_property_0 (C : CX E p l s m args meth c cX10_property 3 RX10 (some .int) A) (a : Nat → Nat) (k : Nat) (S : Nat → Nat → Int32) {post : Int32 → va_W → Prop} :
    ∀ (p0 : Int32) (p1 : Int32) (q : Int32), M_X10_property_0 k S p0 p1 = some q → post q (wMd E a S) →
      WW E p l e rm_X10_property s m args below meth c A 0 0 (QI E below post args s rm_X10_property A) (wMd E a S) 3 [some (.ref (a 0)), some (.int p0), some (.int p1)] 0 [] := by
  intro p0 p1 q  h hq
  unfold M_X10_property_0 at h
  refine r_iload_n (pc := 0) C (i := 2) dX10_property_0 rfl rfl ?_
  by_cases c1 : p1 = (0 : Int32)
  · rw [if_pos c1] at h
    refine r_look (off := 35) (pc := 1) C 36 dX10_property_1 rfl (by rw [c1] <;> rfl) rfl ?_
    refine r_iload_n (pc := 36) C (i := 1) dX10_property_36 rfl rfl ?_
    cases h
    exact r_ireti (pc := 37) C hq (Nat.zero_le _) (Nat.zero_le _) dX10_property_37
  · rw [if_neg c1] at h
    by_cases c2 : p1 = (7 : Int32)
    · rw [if_pos c2] at h
      refine r_look (off := 37) (pc := 1) C 38 dX10_property_1 rfl (by rw [c2] <;> rfl) rfl ?_
      refine r_iconst (pc := 38) C (v := 1) dX10_property_38 (by decide) ?_
      refine r_aload_n (pc := 39) C (i := 0) dX10_property_39 rfl rfl ?_
      refine r_iload_n (pc := 40) C (i := 1) dX10_property_40 rfl rfl ?_
      refine r_bipush (pc := 41) C (v := 6) dX10_property_41 (by decide) ?_
      obtain ⟨q3, hq3, h⟩ := bnd h
      refine r_callVp_CI (Cn := RX10) (pc := 43) C [.int p0, .int (6 : Int32)] (c_X10_of E l k a S p0 (6 : Int32) hq3) [0, 1, 2, 3, 4, 5, 6, 7, 8, 9, 10, 11, 12] rfl (by decide) 0 rfl rfl rfl g_X10_123 hd_X10_of ⟨Nat.le_of_ble_eq_true rfl, Nat.le_of_ble_eq_true rfl⟩ ⟨Nat.zero_le _, Nat.zero_le _⟩ (Nat.le_of_ble_eq_true rfl) rfl dX10_property_43 (fun r hr => ?_)
      have hr := hr.symm
      subst hr
      refine r_iadd (pc := 46) C dX10_property_46 ?_
      cases h
      exact r_ireti (pc := 47) C hq (Nat.zero_le _) (Nat.zero_le _) dX10_property_47
    · rw [if_neg c2] at h
      by_cases c4 : p1 = (8 : Int32)
      · rw [if_pos c4] at h
        refine r_look (off := 47) (pc := 1) C 48 dX10_property_1 rfl (by rw [c4] <;> rfl) rfl ?_
        refine r_aload_n (pc := 48) C (i := 0) dX10_property_48 rfl rfl ?_
        refine r_iload_n (pc := 49) C (i := 1) dX10_property_49 rfl rfl ?_
        refine r_iconst (pc := 50) C (v := 4) dX10_property_50 (by decide) ?_
        obtain ⟨q5, hq5, h⟩ := bnd h
        refine r_callVp_CI (Cn := RX10) (pc := 51) C [.int p0, .int (4 : Int32)] (c_X10_of E l k a S p0 (4 : Int32) hq5) [0, 1, 2, 3, 4, 5, 6, 7, 8, 9, 10, 11, 12] rfl (by decide) 0 rfl rfl rfl g_X10_123 hd_X10_of ⟨Nat.le_of_ble_eq_true rfl, Nat.le_of_ble_eq_true rfl⟩ ⟨Nat.zero_le _, Nat.zero_le _⟩ (Nat.le_of_ble_eq_true rfl) rfl dX10_property_51 (fun r hr => ?_)
        have hr := hr.symm
        subst hr
        refine r_iconst (pc := 54) C (v := 1) dX10_property_54 (by decide) ?_
        refine r_icmp_gt (pc := 55) C (tgt := 66) dX10_property_55 rfl (fun c6 => ?_) (fun c6 => ?_)
        · rw [if_pos c6] at h
          refine r_iconst (pc := 66) C (v := 0) dX10_property_66 (by decide) ?_
          cases h
          exact r_ireti (pc := 67) C hq (Nat.zero_le _) (Nat.zero_le _) dX10_property_67
        · rw [if_neg c6] at h
          refine r_aload_n (pc := 58) C (i := 0) dX10_property_58 rfl rfl ?_
          refine r_iload_n (pc := 59) C (i := 1) dX10_property_59 rfl rfl ?_
          obtain ⟨q7, hq7, h⟩ := bnd h
          refine r_callVp_CI (Cn := RX10) (pc := 60) C [.int p0] (c_X10_placeOf E l k a S p0 hq7) [0, 1, 2, 3, 4, 5, 6, 7, 8, 9, 10, 11, 12] rfl (by decide) 0 rfl rfl rfl g_X10_129 hd_X10_placeOf ⟨Nat.le_of_ble_eq_true rfl, Nat.le_of_ble_eq_true rfl⟩ ⟨Nat.zero_le _, Nat.zero_le _⟩ (Nat.le_of_ble_eq_true rfl) rfl dX10_property_60 (fun r hr => ?_)
          have hr := hr.symm
          subst hr
          refine r_goto (pc := 63) C (tgt := 67) dX10_property_63 rfl ?_
          cases h
          exact r_ireti (pc := 67) C hq (Nat.zero_le _) (Nat.zero_le _) dX10_property_67
      · rw [if_neg c4] at h
        refine r_look (off := 67) (pc := 1) C 68 dX10_property_1 rfl (by rw [lv_osw c1 (by decide), lv_osw c2 (by decide), lv_osw c4 (by decide)] <;> rfl) rfl ?_
        refine r_aload_n (pc := 68) C (i := 0) dX10_property_68 rfl rfl ?_
        refine r_iload_n (pc := 69) C (i := 1) dX10_property_69 rfl rfl ?_
        refine r_iload_n (pc := 70) C (i := 2) dX10_property_70 rfl rfl ?_
        refine r_iconst (pc := 71) C (v := 1) dX10_property_71 (by decide) ?_
        refine r_isub (pc := 72) C dX10_property_72 ?_
        obtain ⟨q8, hq8, h⟩ := bnd h
        refine r_callVp_CI (Cn := RX10) (pc := 73) C [.int p0, .int (p1 - (1 : Int32))] (c_X10_of E l k a S p0 (p1 - (1 : Int32)) hq8) [0, 1, 2, 3, 4, 5, 6, 7, 8, 9, 10, 11, 12] rfl (by decide) 0 rfl rfl rfl g_X10_123 hd_X10_of ⟨Nat.le_of_ble_eq_true rfl, Nat.le_of_ble_eq_true rfl⟩ ⟨Nat.zero_le _, Nat.zero_le _⟩ (Nat.le_of_ble_eq_true rfl) rfl dX10_property_73 (fun r hr => ?_)
        have hr := hr.symm
        subst hr
        cases h
        exact r_ireti (pc := 76) C hq (Nat.zero_le _) (Nat.zero_le _) dX10_property_76
def M_X10_property (k : Nat) (S : Nat → Nat → Int32) (p0 : Int32) (p1 : Int32) : Option (Int32) := M_X10_property_0 k S p0 p1
set_option maxRecDepth 100000 in
set_option maxHeartbeats 4000000 in
theorem c_X10_property (E : ENV) (l : Launch) (k : Nat) (a : Nat → Nat) (S : Nat → Nat → Int32) (p0 : Int32) (p1 : Int32) {q : Int32} (hm : M_X10_property k S p0 p1 = some q) : CI E l yX10_property cX10_property 3 (some .int) rm_X10_property [.ref (a 0), .int p0, .int p1] (wMd E a S) (fun r w' => r = q ∧ w' = (wMd E a S)) :=
  CI.of 0 (by decide) (Nat.le_of_ble_eq_true rfl) (fun p e s m below meth c A C _ => r_weak (lSub_s (lSub_s (lSub_s lSub_e))) (N_X10_property_0 C a k S p0 p1 q  hm ⟨rfl, rfl⟩))
theorem hd_X10_operate : yX10_operate.cls = RX10 ∧ yX10_operate.cls ≠ "java/lang/invoke/MethodHandle" ∧ yX10_operate.cls ≠ "java/lang/invoke/VarHandle" ∧ (parseMethodDescriptor yX10_operate.desc).map (fun d => d.parameters.length) = some 3 := by decide +kernel
theorem g_X10_481 : GoodIn GW (va_wsS RX10 481 yX10_operate (wsG yX10_operate cX10_operate 5 (some .long))) := gw_S wm_8_113 wm_8_114 wm_1_9 wm_8_115
theorem hd_X10_property : yX10_property.cls = RX10 ∧ yX10_property.cls ≠ "java/lang/invoke/MethodHandle" ∧ yX10_property.cls ≠ "java/lang/invoke/VarHandle" ∧ (parseMethodDescriptor yX10_property.desc).map (fun d => d.parameters.length) = some 2 := by decide +kernel
theorem g_X10_478 : GoodIn GW (wsV RX10 478 RX10 yX10_property (wsG yX10_property cX10_property 3 (some .int))) := gw_V wm_8_109 wm_8_111 wm_0_106 wm_1_9 wm_8_112
-- ShardGuardModel.holdsFor(I)Z
theorem dX10_holdsFor_0 : decode cX10_holdsFor 0 = .ok (.iconst 0, 1) := by decide +kernel
theorem dX10_holdsFor_1 : decode cX10_holdsFor 1 = .ok (.istore_n 2, 1) := by decide +kernel
theorem dX10_holdsFor_2 : decode cX10_holdsFor 2 = .ok (.iconst 0, 1) := by decide +kernel
theorem dX10_holdsFor_3 : decode cX10_holdsFor 3 = .ok (.istore_n 3, 1) := by decide +kernel
theorem dX10_holdsFor_4 : decode cX10_holdsFor 4 = .ok (.iload_n 3, 1) := by decide +kernel
theorem dX10_holdsFor_5 : decode cX10_holdsFor 5 = .ok (.aload_n 0, 1) := by decide +kernel
theorem dX10_holdsFor_6 : decode cX10_holdsFor 6 = .ok (.getfield 451, 3) := by decide +kernel
theorem dX10_holdsFor_9 : decode cX10_holdsFor 9 = .ok (.if_icmp .ge 115, 3) := by decide +kernel
theorem dX10_holdsFor_12 : decode cX10_holdsFor 12 = .ok (.aload_n 0, 1) := by decide +kernel
theorem dX10_holdsFor_13 : decode cX10_holdsFor 13 = .ok (.getfield 78, 3) := by decide +kernel
theorem dX10_holdsFor_16 : decode cX10_holdsFor 16 = .ok (.iload_n 3, 1) := by decide +kernel
theorem dX10_holdsFor_17 : decode cX10_holdsFor 17 = .ok (.iaload, 1) := by decide +kernel
theorem dX10_holdsFor_18 : decode cX10_holdsFor 18 = .ok (.istore 4, 2) := by decide +kernel
theorem dX10_holdsFor_20 : decode cX10_holdsFor 20 = .ok (.iload 4, 2) := by decide +kernel
theorem dX10_holdsFor_22 : decode cX10_holdsFor 22 = .ok (.bipush (-23), 2) := by decide +kernel
theorem dX10_holdsFor_24 : decode cX10_holdsFor 24 = .ok (.if_icmp .ne 24, 3) := by decide +kernel
theorem dX10_holdsFor_27 : decode cX10_holdsFor 27 = .ok (.aload_n 0, 1) := by decide +kernel
theorem dX10_holdsFor_28 : decode cX10_holdsFor 28 = .ok (.getfield 81, 3) := by decide +kernel
theorem dX10_holdsFor_31 : decode cX10_holdsFor 31 = .ok (.iload_n 2, 1) := by decide +kernel
theorem dX10_holdsFor_32 : decode cX10_holdsFor 32 = .ok (.iconst 1, 1) := by decide +kernel
theorem dX10_holdsFor_33 : decode cX10_holdsFor 33 = .ok (.isub, 1) := by decide +kernel
theorem dX10_holdsFor_34 : decode cX10_holdsFor 34 = .ok (.lconst 1, 1) := by decide +kernel
theorem dX10_holdsFor_35 : decode cX10_holdsFor 35 = .ok (.aload_n 0, 1) := by decide +kernel
theorem dX10_holdsFor_36 : decode cX10_holdsFor 36 = .ok (.getfield 81, 3) := by decide +kernel
theorem dX10_holdsFor_39 : decode cX10_holdsFor 39 = .ok (.iload_n 2, 1) := by decide +kernel
theorem dX10_holdsFor_40 : decode cX10_holdsFor 40 = .ok (.iconst 1, 1) := by decide +kernel
theorem dX10_holdsFor_41 : decode cX10_holdsFor 41 = .ok (.isub, 1) := by decide +kernel
theorem dX10_holdsFor_42 : decode cX10_holdsFor 42 = .ok (.laload, 1) := by decide +kernel
theorem dX10_holdsFor_43 : decode cX10_holdsFor 43 = .ok (.lsub, 1) := by decide +kernel
theorem dX10_holdsFor_44 : decode cX10_holdsFor 44 = .ok (.lastore, 1) := by decide +kernel
theorem dX10_holdsFor_45 : decode cX10_holdsFor 45 = .ok (.goto 73, 3) := by decide +kernel
theorem dX10_holdsFor_48 : decode cX10_holdsFor 48 = .ok (.iload 4, 2) := by decide +kernel
theorem dX10_holdsFor_50 : decode cX10_holdsFor 50 = .ok (.bipush (-20), 2) := by decide +kernel
theorem dX10_holdsFor_52 : decode cX10_holdsFor 52 = .ok (.if_icmp .le 36, 3) := by decide +kernel
theorem dX10_holdsFor_55 : decode cX10_holdsFor 55 = .ok (.aload_n 0, 1) := by decide +kernel
theorem dX10_holdsFor_56 : decode cX10_holdsFor 56 = .ok (.getfield 81, 3) := by decide +kernel
theorem dX10_holdsFor_59 : decode cX10_holdsFor 59 = .ok (.iload_n 2, 1) := by decide +kernel
theorem dX10_holdsFor_60 : decode cX10_holdsFor 60 = .ok (.iload 4, 2) := by decide +kernel
theorem dX10_holdsFor_62 : decode cX10_holdsFor 62 = .ok (.ifCond .lt 9, 3) := by decide +kernel
theorem dX10_holdsFor_65 : decode cX10_holdsFor 65 = .ok (.iload 4, 2) := by decide +kernel
theorem dX10_holdsFor_67 : decode cX10_holdsFor 67 = .ok (.i2l, 1) := by decide +kernel
theorem dX10_holdsFor_68 : decode cX10_holdsFor 68 = .ok (.goto 13, 3) := by decide +kernel
theorem dX10_holdsFor_71 : decode cX10_holdsFor 71 = .ok (.aload_n 0, 1) := by decide +kernel
theorem dX10_holdsFor_72 : decode cX10_holdsFor 72 = .ok (.iload_n 1, 1) := by decide +kernel
theorem dX10_holdsFor_73 : decode cX10_holdsFor 73 = .ok (.iconst (-1), 1) := by decide +kernel
theorem dX10_holdsFor_74 : decode cX10_holdsFor 74 = .ok (.iload 4, 2) := by decide +kernel
theorem dX10_holdsFor_76 : decode cX10_holdsFor 76 = .ok (.isub, 1) := by decide +kernel
theorem dX10_holdsFor_77 : decode cX10_holdsFor 77 = .ok (.invokevirtual 478, 3) := by decide +kernel
theorem dX10_holdsFor_80 : decode cX10_holdsFor 80 = .ok (.i2l, 1) := by decide +kernel
theorem dX10_holdsFor_81 : decode cX10_holdsFor 81 = .ok (.lastore, 1) := by decide +kernel
theorem dX10_holdsFor_82 : decode cX10_holdsFor 82 = .ok (.iinc 2 1, 3) := by decide +kernel
theorem dX10_holdsFor_85 : decode cX10_holdsFor 85 = .ok (.goto 33, 3) := by decide +kernel
theorem dX10_holdsFor_88 : decode cX10_holdsFor 88 = .ok (.iinc 2 (-1), 3) := by decide +kernel
theorem dX10_holdsFor_91 : decode cX10_holdsFor 91 = .ok (.aload_n 0, 1) := by decide +kernel
theorem dX10_holdsFor_92 : decode cX10_holdsFor 92 = .ok (.getfield 81, 3) := by decide +kernel
theorem dX10_holdsFor_95 : decode cX10_holdsFor 95 = .ok (.iload_n 2, 1) := by decide +kernel
theorem dX10_holdsFor_96 : decode cX10_holdsFor 96 = .ok (.iconst 1, 1) := by decide +kernel
theorem dX10_holdsFor_97 : decode cX10_holdsFor 97 = .ok (.isub, 1) := by decide +kernel
theorem dX10_holdsFor_98 : decode cX10_holdsFor 98 = .ok (.iload 4, 2) := by decide +kernel
theorem dX10_holdsFor_100 : decode cX10_holdsFor 100 = .ok (.aload_n 0, 1) := by decide +kernel
theorem dX10_holdsFor_101 : decode cX10_holdsFor 101 = .ok (.getfield 81, 3) := by decide +kernel
theorem dX10_holdsFor_104 : decode cX10_holdsFor 104 = .ok (.iload_n 2, 1) := by decide +kernel
theorem dX10_holdsFor_105 : decode cX10_holdsFor 105 = .ok (.iconst 1, 1) := by decide +kernel
theorem dX10_holdsFor_106 : decode cX10_holdsFor 106 = .ok (.isub, 1) := by decide +kernel
theorem dX10_holdsFor_107 : decode cX10_holdsFor 107 = .ok (.laload, 1) := by decide +kernel
theorem dX10_holdsFor_108 : decode cX10_holdsFor 108 = .ok (.aload_n 0, 1) := by decide +kernel
theorem dX10_holdsFor_109 : decode cX10_holdsFor 109 = .ok (.getfield 81, 3) := by decide +kernel
theorem dX10_holdsFor_112 : decode cX10_holdsFor 112 = .ok (.iload_n 2, 1) := by decide +kernel
theorem dX10_holdsFor_113 : decode cX10_holdsFor 113 = .ok (.laload, 1) := by decide +kernel
theorem dX10_holdsFor_114 : decode cX10_holdsFor 114 = .ok (.invokestatic 481, 3) := by decide +kernel
theorem dX10_holdsFor_117 : decode cX10_holdsFor 117 = .ok (.lastore, 1) := by decide +kernel
theorem dX10_holdsFor_118 : decode cX10_holdsFor 118 = .ok (.iinc 3 1, 3) := by decide +kernel
theorem dX10_holdsFor_121 : decode cX10_holdsFor 121 = .ok (.goto (-117), 3) := by decide +kernel
theorem dX10_holdsFor_124 : decode cX10_holdsFor 124 = .ok (.aload_n 0, 1) := by decide +kernel
theorem dX10_holdsFor_125 : decode cX10_holdsFor 125 = .ok (.getfield 81, 3) := by decide +kernel
theorem dX10_holdsFor_128 : decode cX10_holdsFor 128 = .ok (.iconst 0, 1) := by decide +kernel
theorem dX10_holdsFor_129 : decode cX10_holdsFor 129 = .ok (.laload, 1) := by decide +kernel
theorem dX10_holdsFor_130 : decode cX10_holdsFor 130 = .ok (.lconst 1, 1) := by decide +kernel
theorem dX10_holdsFor_131 : decode cX10_holdsFor 131 = .ok (.lcmp, 1) := by decide +kernel
theorem dX10_holdsFor_132 : decode cX10_holdsFor 132 = .ok (.ifCond .ne 7, 3) := by decide +kernel
theorem dX10_holdsFor_135 : decode cX10_holdsFor 135 = .ok (.iconst 1, 1) := by decide +kernel
theorem dX10_holdsFor_136 : decode cX10_holdsFor 136 = .ok (.goto 4, 3) := by decide +kernel
theorem dX10_holdsFor_139 : decode cX10_holdsFor 139 = .ok (.iconst 0, 1) := by decide +kernel
theorem dX10_holdsFor_140 : decode cX10_holdsFor 140 = .ok (.ireturn, 1) := by decide +kernel
def rm_X10_holdsFor : Room := { frames := 5, cells := 0, slots := 0, locals := 112 }
def M_X10_holdsFor_4 (k : Nat) : Nat → (Int32) → (Int32) → (Int32) → (Nat → Nat → Int32) → Option (Int32 × (Nat → Nat → Int32))
  | 0, _, _, _, _ => none
  | n + 1, x1, x2, x3, S => if (S 0 15) ≤ x3 then ((if inb (0 : Int32) 200 = true then if (lg_cmp (((S 10) (0 : Int32).toNatClampNeg).toInt64) (1 : Int64)) = 0 then (some ((1 : Int32), S)) else (some ((0 : Int32), S)) else none)) else ((if inb x3 200 = true then lt ((S 9) x3.toNatClampNeg) fun v5 => if v5 = (-23 : Int32) then ((if inb (x2 - (1 : Int32)) 200 = true then (if inb (x2 - (1 : Int32)) 200 = true then (if ((1 : Int64) - (((S 10) (x2 - (1 : Int32)).toNatClampNeg).toInt64)).toInt32.toInt64 = ((1 : Int64) - (((S 10) (x2 - (1 : Int32)).toNatClampNeg).toInt64)) then lt (va_up S 10 (upd (S 10) (x2 - (1 : Int32)).toNatClampNeg ((1 : Int64) - (((S 10) (x2 - (1 : Int32)).toNatClampNeg).toInt64)).toInt32)) fun F25 => M_X10_holdsFor_4 k n x1 x2 (x3 + 1) F25 else none) else none) else none)) else (if v5 ≤ (-20 : Int32) then ((if inb ((x2 + (-1)) - (1 : Int32)) 200 = true then (if inb (x2 + (-1)) 200 = true then (M_X10_operate k v5 (((S 10) ((x2 + (-1)) - (1 : Int32)).toNatClampNeg).toInt64) (((S 10) (x2 + (-1)).toNatClampNeg).toInt64)).bind fun q10 => (if inb ((x2 + (-1)) - (1 : Int32)) 200 = true then (if q10.toInt32.toInt64 = q10 then lt (va_up S 10 (upd (S 10) ((x2 + (-1)) - (1 : Int32)).toNatClampNeg q10.toInt32)) fun F13 => M_X10_holdsFor_4 k n x1 (x2 + (-1)) (x3 + 1) F13 else none) else none) else none) else none)) else (if v5 < 0 then ((M_X10_property k S x1 ((-1 : Int32) - v5)).bind fun q15 => (if inb x2 200 = true then (if (q15.toInt64).toInt32.toInt64 = (q15.toInt64) then lt (va_up S 10 (upd (S 10) x2.toNatClampNeg (q15.toInt64).toInt32)) fun F18 => M_X10_holdsFor_4 k n x1 (x2 + 1) (x3 + 1) F18 else none) else none)) else ((if inb x2 200 = true then (if (v5.toInt64).toInt32.toInt64 = (v5.toInt64) then lt (va_up S 10 (upd (S 10) x2.toNatClampNeg (v5.toInt64).toInt32)) fun F21 => M_X10_holdsFor_4 k n x1 (x2 + 1) (x3 + 1) F21 else none) else none)))) else none))
theorem M_X10_holdsFor_4_s (k : Nat) (n : Nat) (x1 : Int32) (x2 : Int32) (x3 : Int32) (S : Nat → Nat → Int32) : M_X10_holdsFor_4 k (n + 1) x1 x2 x3 S = (if (S 0 15) ≤ x3 then ((if inb (0 : Int32) 200 = true then if (lg_cmp (((S 10) (0 : Int32).toNatClampNeg).toInt64) (1 : Int64)) = 0 then (some ((1 : Int32), S)) else (some ((0 : Int32), S)) else none)) else ((if inb x3 200 = true then lt ((S 9) x3.toNatClampNeg) fun v5 => if v5 = (-23 : Int32) then ((if inb (x2 - (1 : Int32)) 200 = true then (if inb (x2 - (1 : Int32)) 200 = true then (if ((1 : Int64) - (((S 10) (x2 - (1 : Int32)).toNatClampNeg).toInt64)).toInt32.toInt64 = ((1 : Int64) - (((S 10) (x2 - (1 : Int32)).toNatClampNeg).toInt64)) then lt (va_up S 10 (upd (S 10) (x2 - (1 : Int32)).toNatClampNeg ((1 : Int64) - (((S 10) (x2 - (1 : Int32)).toNatClampNeg).toInt64)).toInt32)) fun F25 => M_X10_holdsFor_4 k n x1 x2 (x3 + 1) F25 else none) else none) else none)) else (if v5 ≤ (-20 : Int32) then ((if inb ((x2 + (-1)) - (1 : Int32)) 200 = true then (if inb (x2 + (-1)) 200 = true then (M_X10_operate k v5 (((S 10) ((x2 + (-1)) - (1 : Int32)).toNatClampNeg).toInt64) (((S 10) (x2 + (-1)).toNatClampNeg).toInt64)).bind fun q10 => (if inb ((x2 + (-1)) - (1 : Int32)) 200 = true then (if q10.toInt32.toInt64 = q10 then lt (va_up S 10 (upd (S 10) ((x2 + (-1)) - (1 : Int32)).toNatClampNeg q10.toInt32)) fun F13 => M_X10_holdsFor_4 k n x1 (x2 + (-1)) (x3 + 1) F13 else none) else none) else none) else none)) else (if v5 < 0 then ((M_X10_property k S x1 ((-1 : Int32) - v5)).bind fun q15 => (if inb x2 200 = true then (if (q15.toInt64).toInt32.toInt64 = (q15.toInt64) then lt (va_up S 10 (upd (S 10) x2.toNatClampNeg (q15.toInt64).toInt32)) fun F18 => M_X10_holdsFor_4 k n x1 (x2 + 1) (x3 + 1) F18 else none) else none)) else ((if inb x2 200 = true then (if (v5.toInt64).toInt32.toInt64 = (v5.toInt64) then lt (va_up S 10 (upd (S 10) x2.toNatClampNeg (v5.toInt64).toInt32)) fun F21 => M_X10_holdsFor_4 k n x1 (x2 + 1) (x3 + 1) F21 else none) else none)))) else none))) := rfl
set_option maxRecDepth 100000 in
set_option maxHeartbeats 4000000 in
theorem N_X10_holdsFor_4 (C : CX E p l s m args meth c cX10_holdsFor 5 RX10 (some .boolean) A) (a : Nat → Nat) (k : Nat) {post : Int32 → va_W → Prop} :
    ∀ (n : Nat) (x1 : Int32) (x2 : Int32) (x3 : Int32) (S : Nat → Nat → Int32) (q : Int32 × (Nat → Nat → Int32)), M_X10_holdsFor_4 k n x1 x2 x3 S = some q → post q.1 (wMd E a q.2) →
      WW E p l e rm_X10_holdsFor s m args below meth c A 0 0 (QI E below post args s rm_X10_holdsFor A) (wMd E a S) 5 [some (.ref (a 0)), some (.int x1), some (.int x2), some (.int x3), none] 4 [] := by
  intro n
  induction n with
  | zero => intro x1 x2 x3 S q  h _; cases h
  | succ n ih =>
    intro x1 x2 x3 S q  h hq
    rw [M_X10_holdsFor_4_s] at h
    refine r_iload_n (pc := 4) C (i := 3) dX10_holdsFor_4 rfl rfl ?_
    refine r_aload_n (pc := 5) C (i := 0) dX10_holdsFor_5 rfl rfl ?_
    refine r_get (pc := 6) C gwX10 0 rfl rfl 27 (by decide) wm_5_230 rfl dX10_holdsFor_6 ?_
    refine r_icmp_ge (pc := 9) C (tgt := 124) dX10_holdsFor_9 rfl (fun c1 => ?_) (fun c1 => ?_)
    · rw [if_pos c1] at h
      refine r_aload_n (pc := 124) C (i := 0) dX10_holdsFor_124 rfl rfl ?_
      refine r_get (pc := 125) C gwX10 0 rfl rfl 26 (by decide) wm_5_229 rfl dX10_holdsFor_125 ?_
      refine r_iconst (pc := 128) C (v := 0) dX10_holdsFor_128 (by decide) ?_
      obtain ⟨hi2, h⟩ := ifn h
      refine r_lald (pc := 129) C 10 rfl hi2 dX10_holdsFor_129 ?_
      refine r_lconst (pc := 130) C (v := 1) dX10_holdsFor_130 (by decide) ?_
      refine r_lcmp (pc := 131) C dX10_holdsFor_131 ?_
      refine r_if_ne (pc := 132) C (tgt := 139) dX10_holdsFor_132 rfl (fun c3 => ?_) (fun c3 => ?_)
      · rw [if_neg c3] at h
        refine r_iconst (pc := 139) C (v := 0) dX10_holdsFor_139 (by decide) ?_
        cases h
        exact r_iretz (pc := 140) C (Or.inl rfl) hq (Nat.zero_le _) (Nat.zero_le _) dX10_holdsFor_140
      · rw [if_pos c3] at h
        refine r_iconst (pc := 135) C (v := 1) dX10_holdsFor_135 (by decide) ?_
        refine r_goto (pc := 136) C (tgt := 140) dX10_holdsFor_136 rfl ?_
        cases h
        exact r_iretz (pc := 140) C (Or.inr rfl) hq (Nat.zero_le _) (Nat.zero_le _) dX10_holdsFor_140
    · rw [if_neg c1] at h
      refine r_aload_n (pc := 12) C (i := 0) dX10_holdsFor_12 rfl rfl ?_
      refine r_get (pc := 13) C gwX10 0 rfl rfl 25 (by decide) wm_5_228 rfl dX10_holdsFor_13 ?_
      refine r_iload_n (pc := 16) C (i := 3) dX10_holdsFor_16 rfl rfl ?_
      obtain ⟨hi4, h⟩ := ifn h
      refine r_iald (pc := 17) C 9 rfl hi4 dX10_holdsFor_17 ?_
      obtain ⟨v5, hv5, h⟩ := lt_e h
      refine r_topi hv5 ?_
      refine r_istore (pc := 18) C (i := 4) dX10_holdsFor_18 (by decide) rfl ?_
      refine r_iload (pc := 20) C (i := 4) dX10_holdsFor_20 rfl ?_
      refine r_bipush (pc := 22) C (v := (-23)) dX10_holdsFor_22 (by decide) ?_
      refine r_icmp_ne (pc := 24) C (tgt := 48) dX10_holdsFor_24 rfl (fun c6 => ?_) (fun c6 => ?_)
      · rw [if_neg c6] at h
        refine r_iload (pc := 48) C (i := 4) dX10_holdsFor_48 rfl ?_
        refine r_bipush (pc := 50) C (v := (-20)) dX10_holdsFor_50 (by decide) ?_
        refine r_icmp_le (pc := 52) C (tgt := 88) dX10_holdsFor_52 rfl (fun c7 => ?_) (fun c7 => ?_)
        · rw [if_pos c7] at h
          refine r_iinc (pc := 88) C (v := (x2 + (-1))) dX10_holdsFor_88 rfl rfl (by decide) rfl ?_
          refine r_aload_n (pc := 91) C (i := 0) dX10_holdsFor_91 rfl rfl ?_
          refine r_get (pc := 92) C gwX10 0 rfl rfl 26 (by decide) wm_5_229 rfl dX10_holdsFor_92 ?_
          refine r_iload_n (pc := 95) C (i := 2) dX10_holdsFor_95 rfl rfl ?_
          refine r_iconst (pc := 96) C (v := 1) dX10_holdsFor_96 (by decide) ?_
          refine r_isub (pc := 97) C dX10_holdsFor_97 ?_
          refine r_iload (pc := 98) C (i := 4) dX10_holdsFor_98 rfl ?_
          refine r_aload_n (pc := 100) C (i := 0) dX10_holdsFor_100 rfl rfl ?_
          refine r_get (pc := 101) C gwX10 0 rfl rfl 26 (by decide) wm_5_229 rfl dX10_holdsFor_101 ?_
          refine r_iload_n (pc := 104) C (i := 2) dX10_holdsFor_104 rfl rfl ?_
          refine r_iconst (pc := 105) C (v := 1) dX10_holdsFor_105 (by decide) ?_
          refine r_isub (pc := 106) C dX10_holdsFor_106 ?_
          obtain ⟨hi8, h⟩ := ifn h
          refine r_lald (pc := 107) C 10 rfl hi8 dX10_holdsFor_107 ?_
          refine r_aload_n (pc := 108) C (i := 0) dX10_holdsFor_108 rfl rfl ?_
          refine r_get (pc := 109) C gwX10 0 rfl rfl 26 (by decide) wm_5_229 rfl dX10_holdsFor_109 ?_
          refine r_iload_n (pc := 112) C (i := 2) dX10_holdsFor_112 rfl rfl ?_
          obtain ⟨hi9, h⟩ := ifn h
          refine r_lald (pc := 113) C 10 rfl hi9 dX10_holdsFor_113 ?_
          obtain ⟨q10, hq10, h⟩ := bnd h
          refine r_callSp_CL (pc := 114) C [.int v5, .long (((S 10) ((x2 + (-1)) - (1 : Int32)).toNatClampNeg).toInt64), .long (((S 10) (x2 + (-1)).toNatClampNeg).toInt64)] (c_X10_operate E l k v5 (((S 10) ((x2 + (-1)) - (1 : Int32)).toNatClampNeg).toInt64) (((S 10) (x2 + (-1)).toNatClampNeg).toInt64) hq10) [] rfl (by decide) g_X10_481 hd_X10_operate.2 ⟨Nat.le_of_ble_eq_true rfl, Nat.le_of_ble_eq_true rfl⟩ ⟨Nat.zero_le _, Nat.zero_le _⟩ (Nat.le_of_ble_eq_true rfl) rfl dX10_holdsFor_114 (fun r hr => ?_)
          have hr := hr.symm
          subst hr
          obtain ⟨hi11, h⟩ := ifn h
          obtain ⟨hz12, h⟩ := ifn h
          obtain ⟨F13, hF13, h⟩ := lt_e h
          refine r_last (pc := 117) C 10 rfl hi11 (w' := (wMd E a F13)) (by rw [updL64 _ _ _ hz12, hF13]; rfl) dX10_holdsFor_117 ?_
          refine r_iinc (pc := 118) C (v := (x3 + 1)) dX10_holdsFor_118 rfl rfl (by decide) rfl ?_
          refine r_goto (pc := 121) C (tgt := 4) dX10_holdsFor_121 rfl ?_
          refine r_weak (lSub_s (lSub_s (lSub_s (lSub_s (lSub_n lSub_e))))) ?_
          exact ih x1 (x2 + (-1)) (x3 + 1) F13 q  h hq
        · rw [if_neg c7] at h
          refine r_aload_n (pc := 55) C (i := 0) dX10_holdsFor_55 rfl rfl ?_
          refine r_get (pc := 56) C gwX10 0 rfl rfl 26 (by decide) wm_5_229 rfl dX10_holdsFor_56 ?_
          refine r_iload_n (pc := 59) C (i := 2) dX10_holdsFor_59 rfl rfl ?_
          refine r_iload (pc := 60) C (i := 4) dX10_holdsFor_60 rfl ?_
          refine r_if_lt (pc := 62) C (tgt := 71) dX10_holdsFor_62 rfl (fun c14 => ?_) (fun c14 => ?_)
          · rw [if_pos c14] at h
            refine r_aload_n (pc := 71) C (i := 0) dX10_holdsFor_71 rfl rfl ?_
            refine r_iload_n (pc := 72) C (i := 1) dX10_holdsFor_72 rfl rfl ?_
            refine r_iconst (pc := 73) C (v := (-1)) dX10_holdsFor_73 (by decide) ?_
            refine r_iload (pc := 74) C (i := 4) dX10_holdsFor_74 rfl ?_
            refine r_isub (pc := 76) C dX10_holdsFor_76 ?_
            obtain ⟨q15, hq15, h⟩ := bnd h
            refine r_callVp_CI (Cn := RX10) (pc := 77) C [.int x1, .int ((-1 : Int32) - v5)] (c_X10_property E l k a S x1 ((-1 : Int32) - v5) hq15) [0, 1, 2, 3, 4, 5, 6, 7, 8, 9, 10, 11, 12] rfl (by decide) 0 rfl rfl rfl g_X10_478 hd_X10_property ⟨Nat.le_of_ble_eq_true rfl, Nat.le_of_ble_eq_true rfl⟩ ⟨Nat.zero_le _, Nat.zero_le _⟩ (Nat.le_of_ble_eq_true rfl) rfl dX10_holdsFor_77 (fun r hr => ?_)
            have hr := hr.symm
            subst hr
            refine r_i2l (pc := 80) C dX10_holdsFor_80 ?_
            obtain ⟨hi16, h⟩ := ifn h
            obtain ⟨hz17, h⟩ := ifn h
            obtain ⟨F18, hF18, h⟩ := lt_e h
            refine r_last (pc := 81) C 10 rfl hi16 (w' := (wMd E a F18)) (by rw [updL64 _ _ _ hz17, hF18]; rfl) dX10_holdsFor_81 ?_
            refine r_iinc (pc := 82) C (v := (x2 + 1)) dX10_holdsFor_82 rfl rfl (by decide) rfl ?_
            refine r_goto (pc := 85) C (tgt := 118) dX10_holdsFor_85 rfl ?_
            refine r_iinc (pc := 118) C (v := (x3 + 1)) dX10_holdsFor_118 rfl rfl (by decide) rfl ?_
            refine r_goto (pc := 121) C (tgt := 4) dX10_holdsFor_121 rfl ?_
            refine r_weak (lSub_s (lSub_s (lSub_s (lSub_s (lSub_n lSub_e))))) ?_
            exact ih x1 (x2 + 1) (x3 + 1) F18 q  h hq
          · rw [if_neg c14] at h
            refine r_iload (pc := 65) C (i := 4) dX10_holdsFor_65 rfl ?_
            refine r_i2l (pc := 67) C dX10_holdsFor_67 ?_
            refine r_goto (pc := 68) C (tgt := 81) dX10_holdsFor_68 rfl ?_
            obtain ⟨hi19, h⟩ := ifn h
            obtain ⟨hz20, h⟩ := ifn h
            obtain ⟨F21, hF21, h⟩ := lt_e h
            refine r_last (pc := 81) C 10 rfl hi19 (w' := (wMd E a F21)) (by rw [updL64 _ _ _ hz20, hF21]; rfl) dX10_holdsFor_81 ?_
            refine r_iinc (pc := 82) C (v := (x2 + 1)) dX10_holdsFor_82 rfl rfl (by decide) rfl ?_
            refine r_goto (pc := 85) C (tgt := 118) dX10_holdsFor_85 rfl ?_
            refine r_iinc (pc := 118) C (v := (x3 + 1)) dX10_holdsFor_118 rfl rfl (by decide) rfl ?_
            refine r_goto (pc := 121) C (tgt := 4) dX10_holdsFor_121 rfl ?_
            refine r_weak (lSub_s (lSub_s (lSub_s (lSub_s (lSub_n lSub_e))))) ?_
            exact ih x1 (x2 + 1) (x3 + 1) F21 q  h hq
      · rw [if_pos c6] at h
        refine r_aload_n (pc := 27) C (i := 0) dX10_holdsFor_27 rfl rfl ?_
        refine r_get (pc := 28) C gwX10 0 rfl rfl 26 (by decide) wm_5_229 rfl dX10_holdsFor_28 ?_
        refine r_iload_n (pc := 31) C (i := 2) dX10_holdsFor_31 rfl rfl ?_
        refine r_iconst (pc := 32) C (v := 1) dX10_holdsFor_32 (by decide) ?_
        refine r_isub (pc := 33) C dX10_holdsFor_33 ?_
        refine r_lconst (pc := 34) C (v := 1) dX10_holdsFor_34 (by decide) ?_
        refine r_aload_n (pc := 35) C (i := 0) dX10_holdsFor_35 rfl rfl ?_
        refine r_get (pc := 36) C gwX10 0 rfl rfl 26 (by decide) wm_5_229 rfl dX10_holdsFor_36 ?_
        refine r_iload_n (pc := 39) C (i := 2) dX10_holdsFor_39 rfl rfl ?_
        refine r_iconst (pc := 40) C (v := 1) dX10_holdsFor_40 (by decide) ?_
        refine r_isub (pc := 41) C dX10_holdsFor_41 ?_
        obtain ⟨hi22, h⟩ := ifn h
        refine r_lald (pc := 42) C 10 rfl hi22 dX10_holdsFor_42 ?_
        refine r_lsub (pc := 43) C dX10_holdsFor_43 ?_
        obtain ⟨hi23, h⟩ := ifn h
        obtain ⟨hz24, h⟩ := ifn h
        obtain ⟨F25, hF25, h⟩ := lt_e h
        refine r_last (pc := 44) C 10 rfl hi23 (w' := (wMd E a F25)) (by rw [updL64 _ _ _ hz24, hF25]; rfl) dX10_holdsFor_44 ?_
        refine r_goto (pc := 45) C (tgt := 118) dX10_holdsFor_45 rfl ?_
        refine r_iinc (pc := 118) C (v := (x3 + 1)) dX10_holdsFor_118 rfl rfl (by decide) rfl ?_
        refine r_goto (pc := 121) C (tgt := 4) dX10_holdsFor_121 rfl ?_
        refine r_weak (lSub_s (lSub_s (lSub_s (lSub_s (lSub_n lSub_e))))) ?_
        exact ih x1 x2 (x3 + 1) F25 q  h hq
def M_X10_holdsFor_0 (k : Nat) (p0 : Int32) (S : Nat → Nat → Int32) : Option (Int32 × (Nat → Nat → Int32)) := M_X10_holdsFor_4 k k p0 (0 : Int32) (0 : Int32) S
set_option maxRecDepth 100000 in
set_option maxHeartbeats 4000000 in
theorem N_X10_holdsFor_0 (C : CX E p l s m args meth c cX10_holdsFor 5 RX10 (some .boolean) A) (a : Nat → Nat) (k : Nat) {post : Int32 → va_W → Prop} :
    ∀ (p0 : Int32) (S : Nat → Nat → Int32) (q : Int32 × (Nat → Nat → Int32)), M_X10_holdsFor_0 k p0 S = some q → post q.1 (wMd E a q.2) →
      WW E p l e rm_X10_holdsFor s m args below meth c A 0 0 (QI E below post args s rm_X10_holdsFor A) (wMd E a S) 5 [some (.ref (a 0)), some (.int p0), none, none, none] 0 [] := by
  intro p0 S q  h hq
  unfold M_X10_holdsFor_0 at h
  refine r_iconst (pc := 0) C (v := 0) dX10_holdsFor_0 (by decide) ?_
  refine r_istore_n (pc := 1) C (i := 2) dX10_holdsFor_1 rfl (by decide) rfl ?_
  refine r_iconst (pc := 2) C (v := 0) dX10_holdsFor_2 (by decide) ?_
  refine r_istore_n (pc := 3) C (i := 3) dX10_holdsFor_3 rfl (by decide) rfl ?_
  refine r_weak (lSub_s (lSub_s (lSub_s (lSub_s (lSub_n lSub_e))))) ?_
  exact N_X10_holdsFor_4 C a k k p0 (0 : Int32) (0 : Int32) S q  h hq
def M_X10_holdsFor (k : Nat) (S : Nat → Nat → Int32) (p0 : Int32) : Option (Int32 × (Nat → Nat → Int32)) := M_X10_holdsFor_0 k p0 S
set_option maxRecDepth 100000 in
set_option maxHeartbeats 4000000 in
theorem c_X10_holdsFor (E : ENV) (l : Launch) (k : Nat) (a : Nat → Nat) (S : Nat → Nat → Int32) (p0 : Int32) {q : Int32 × (Nat → Nat → Int32)} (hm : M_X10_holdsFor k S p0 = some q) : CI E l yX10_holdsFor cX10_holdsFor 5 (some .boolean) rm_X10_holdsFor [.ref (a 0), .int p0] (wMd E a S) (fun r w' => r = q.1 ∧ w' = (wMd E a q.2)) :=
  CI.of 3 (by decide) (Nat.le_of_ble_eq_true rfl) (fun p e s m below meth c A C _ => r_weak (lSub_s (lSub_s (lSub_n (lSub_n (lSub_n lSub_e))))) (N_X10_holdsFor_0 C a k p0 S q  hm ⟨rfl, rfl⟩))
theorem hd_X10_finish : yX10_finish.cls = RX10 ∧ yX10_finish.cls ≠ "java/lang/invoke/MethodHandle" ∧ yX10_finish.cls ≠ "java/lang/invoke/VarHandle" ∧ (parseMethodDescriptor yX10_finish.desc).map (fun d => d.parameters.length) = some 2 := by decide +kernel
theorem g_X10_168 : GoodIn GW (wsV RX10 168 RX10 yX10_finish (wsG yX10_finish cX10_finish 3 none)) := gw_V wm_7_75 wm_7_77 wm_0_65 wm_1_9 wm_7_78
-- ShardGuardModel.workAll()V
theorem dX10_workAll_0 : decode cX10_workAll 0 = .ok (.iconst 0, 1) := by decide +kernel
theorem dX10_workAll_1 : decode cX10_workAll 1 = .ok (.istore_n 1, 1) := by decide +kernel
theorem dX10_workAll_2 : decode cX10_workAll 2 = .ok (.iload_n 1, 1) := by decide +kernel
theorem dX10_workAll_3 : decode cX10_workAll 3 = .ok (.aload_n 0, 1) := by decide +kernel
theorem dX10_workAll_4 : decode cX10_workAll 4 = .ok (.invokevirtual 106, 3) := by decide +kernel
theorem dX10_workAll_7 : decode cX10_workAll 7 = .ok (.if_icmp .ge 61, 3) := by decide +kernel
theorem dX10_workAll_10 : decode cX10_workAll 10 = .ok (.aload_n 0, 1) := by decide +kernel
theorem dX10_workAll_11 : decode cX10_workAll 11 = .ok (.getfield 28, 3) := by decide +kernel
theorem dX10_workAll_14 : decode cX10_workAll 14 = .ok (.iload_n 1, 1) := by decide +kernel
theorem dX10_workAll_15 : decode cX10_workAll 15 = .ok (.iconst (-1), 1) := by decide +kernel
theorem dX10_workAll_16 : decode cX10_workAll 16 = .ok (.iastore, 1) := by decide +kernel
theorem dX10_workAll_17 : decode cX10_workAll 17 = .ok (.aload_n 0, 1) := by decide +kernel
theorem dX10_workAll_18 : decode cX10_workAll 18 = .ok (.iload_n 1, 1) := by decide +kernel
theorem dX10_workAll_19 : decode cX10_workAll 19 = .ok (.invokevirtual 137, 3) := by decide +kernel
theorem dX10_workAll_22 : decode cX10_workAll 22 = .ok (.ifCond .eq 13, 3) := by decide +kernel
theorem dX10_workAll_25 : decode cX10_workAll 25 = .ok (.aload_n 0, 1) := by decide +kernel
theorem dX10_workAll_26 : decode cX10_workAll 26 = .ok (.iconst 0, 1) := by decide +kernel
theorem dX10_workAll_27 : decode cX10_workAll 27 = .ok (.iload_n 1, 1) := by decide +kernel
theorem dX10_workAll_28 : decode cX10_workAll 28 = .ok (.iconst 0, 1) := by decide +kernel
theorem dX10_workAll_29 : decode cX10_workAll 29 = .ok (.invokevirtual 154, 3) := by decide +kernel
theorem dX10_workAll_32 : decode cX10_workAll 32 = .ok (.goto 4, 3) := by decide +kernel
theorem dX10_workAll_35 : decode cX10_workAll 35 = .ok (.iconst (-1), 1) := by decide +kernel
theorem dX10_workAll_36 : decode cX10_workAll 36 = .ok (.istore_n 2, 1) := by decide +kernel
theorem dX10_workAll_37 : decode cX10_workAll 37 = .ok (.iload_n 2, 1) := by decide +kernel
theorem dX10_workAll_38 : decode cX10_workAll 38 = .ok (.iconst (-1), 1) := by decide +kernel
theorem dX10_workAll_39 : decode cX10_workAll 39 = .ok (.if_icmp .eq 23, 3) := by decide +kernel
theorem dX10_workAll_42 : decode cX10_workAll 42 = .ok (.aload_n 0, 1) := by decide +kernel
theorem dX10_workAll_43 : decode cX10_workAll 43 = .ok (.iload_n 2, 1) := by decide +kernel
theorem dX10_workAll_44 : decode cX10_workAll 44 = .ok (.iconst 2, 1) := by decide +kernel
theorem dX10_workAll_45 : decode cX10_workAll 45 = .ok (.aload_n 0, 1) := by decide +kernel
theorem dX10_workAll_46 : decode cX10_workAll 46 = .ok (.iload_n 2, 1) := by decide +kernel
theorem dX10_workAll_47 : decode cX10_workAll 47 = .ok (.iconst 2, 1) := by decide +kernel
theorem dX10_workAll_48 : decode cX10_workAll 48 = .ok (.invokevirtual 123, 3) := by decide +kernel
theorem dX10_workAll_51 : decode cX10_workAll 51 = .ok (.iconst 1, 1) := by decide +kernel
theorem dX10_workAll_52 : decode cX10_workAll 52 = .ok (.isub, 1) := by decide +kernel
theorem dX10_workAll_53 : decode cX10_workAll 53 = .ok (.invokevirtual 147, 3) := by decide +kernel
theorem dX10_workAll_56 : decode cX10_workAll 56 = .ok (.aload_n 0, 1) := by decide +kernel
theorem dX10_workAll_57 : decode cX10_workAll 57 = .ok (.iload_n 1, 1) := by decide +kernel
theorem dX10_workAll_58 : decode cX10_workAll 58 = .ok (.iload_n 2, 1) := by decide +kernel
theorem dX10_workAll_59 : decode cX10_workAll 59 = .ok (.invokevirtual 168, 3) := by decide +kernel
theorem dX10_workAll_62 : decode cX10_workAll 62 = .ok (.iinc 1 1, 3) := by decide +kernel
theorem dX10_workAll_65 : decode cX10_workAll 65 = .ok (.goto (-63), 3) := by decide +kernel
theorem dX10_workAll_68 : decode cX10_workAll 68 = .ok (.return_, 1) := by decide +kernel
def rm_X10_workAll : Room := { frames := 4, cells := 0, slots := 0, locals := 92 }
def M_X10_workAll_36 (k : Nat) (κ2 : Int32 → (Nat → Nat → Int32) → Option ((Nat → Nat → Int32))) (x1 : Int32) (y0 : Int32) (S : Nat → Nat → Int32) : Option ((Nat → Nat → Int32)) := if y0 = (-1 : Int32) then (κ2 (x1 + 1) S) else ((M_X10_of k S y0 (2 : Int32)).bind fun q2 => (M_X10_put k S y0 (2 : Int32) (q2 - (1 : Int32))).bind fun q3 => (M_X10_finish k q3 x1 y0).bind fun q4 => κ2 (x1 + 1) q4)
set_option maxRecDepth 100000 in
set_option maxHeartbeats 4000000 in
theorem N_X10_workAll_36 (C : CX E p l s m args meth c cX10_workAll 3 RX10 none A) (a : Nat → Nat) (k : Nat) {post : va_W → Prop} (κ2 : Int32 → (Nat → Nat → Int32) → Option ((Nat → Nat → Int32))) (hκ2 : ∀ (x1 : Int32) (S : Nat → Nat → Int32) (q : (Nat → Nat → Int32)), κ2 x1 S = some q → post (wMd E a q) → WW E p l e rm_X10_workAll s m args below meth c A 0 0 (QV E below post args s rm_X10_workAll A) (wMd E a S) 3 [some (.ref (a 0)), some (.int x1), none] 2 []) :
    ∀ (x1 : Int32) (y0 : Int32) (S : Nat → Nat → Int32) (q : (Nat → Nat → Int32)), M_X10_workAll_36 k κ2 x1 y0 S = some q → post (wMd E a q) →
      WW E p l e rm_X10_workAll s m args below meth c A 0 0 (QV E below post args s rm_X10_workAll A) (wMd E a S) 3 [some (.ref (a 0)), some (.int x1), none] 36 [.int y0] := by
  intro x1 y0 S q  h hq
  unfold M_X10_workAll_36 at h
  refine r_istore_n (pc := 36) C (i := 2) dX10_workAll_36 rfl (by decide) rfl ?_
  refine r_iload_n (pc := 37) C (i := 2) dX10_workAll_37 rfl rfl ?_
  refine r_iconst (pc := 38) C (v := (-1)) dX10_workAll_38 (by decide) ?_
  refine r_icmp_eq (pc := 39) C (tgt := 62) dX10_workAll_39 rfl (fun c1 => ?_) (fun c1 => ?_)
  · rw [if_pos c1] at h
    refine r_iinc (pc := 62) C (v := (x1 + 1)) dX10_workAll_62 rfl rfl (by decide) rfl ?_
    refine r_goto (pc := 65) C (tgt := 2) dX10_workAll_65 rfl ?_
    refine r_weak (lSub_s (lSub_s (lSub_n lSub_e))) ?_
    exact hκ2 (x1 + 1) S q  h hq
  · rw [if_neg c1] at h
    refine r_aload_n (pc := 42) C (i := 0) dX10_workAll_42 rfl rfl ?_
    refine r_iload_n (pc := 43) C (i := 2) dX10_workAll_43 rfl rfl ?_
    refine r_iconst (pc := 44) C (v := 2) dX10_workAll_44 (by decide) ?_
    refine r_aload_n (pc := 45) C (i := 0) dX10_workAll_45 rfl rfl ?_
    refine r_iload_n (pc := 46) C (i := 2) dX10_workAll_46 rfl rfl ?_
    refine r_iconst (pc := 47) C (v := 2) dX10_workAll_47 (by decide) ?_
    obtain ⟨q2, hq2, h⟩ := bnd h
    refine r_callVp_CI (Cn := RX10) (pc := 48) C [.int y0, .int (2 : Int32)] (c_X10_of E l k a S y0 (2 : Int32) hq2) [0, 1, 2, 3, 4, 5, 6, 7, 8, 9, 10, 11, 12] rfl (by decide) 0 rfl rfl rfl g_X10_123 hd_X10_of ⟨Nat.le_of_ble_eq_true rfl, Nat.le_of_ble_eq_true rfl⟩ ⟨Nat.zero_le _, Nat.zero_le _⟩ (Nat.le_of_ble_eq_true rfl) rfl dX10_workAll_48 (fun r hr => ?_)
    have hr := hr.symm
    subst hr
    refine r_iconst (pc := 51) C (v := 1) dX10_workAll_51 (by decide) ?_
    refine r_isub (pc := 52) C dX10_workAll_52 ?_
    obtain ⟨q3, hq3, h⟩ := bnd h
    refine r_callV_CV (Cn := RX10) (pc := 53) C [.int y0, .int (2 : Int32), .int (q2 - (1 : Int32))] (c_X10_put E l k a S y0 (2 : Int32) (q2 - (1 : Int32)) hq3) [0, 1, 2, 3, 4, 5, 6, 7, 8, 9, 10, 11, 12] rfl (by decide) 0 rfl rfl rfl g_X10_147 hd_X10_put ⟨Nat.le_of_ble_eq_true rfl, Nat.le_of_ble_eq_true rfl⟩ ⟨Nat.zero_le _, Nat.zero_le _⟩ (Nat.le_of_ble_eq_true rfl) rfl dX10_workAll_53 (fun w1 hw1 => ?_)
    subst hw1
    refine ⟨(wMd E a q3), by rfl, ?_⟩
    refine r_aload_n (pc := 56) C (i := 0) dX10_workAll_56 rfl rfl ?_
    refine r_iload_n (pc := 57) C (i := 1) dX10_workAll_57 rfl rfl ?_
    refine r_iload_n (pc := 58) C (i := 2) dX10_workAll_58 rfl rfl ?_
    obtain ⟨q4, hq4, h⟩ := bnd h
    refine r_callV_CV (Cn := RX10) (pc := 59) C [.int x1, .int y0] (c_X10_finish E l k a q3 x1 y0 hq4) [0, 1, 2, 3, 4, 5, 6, 7, 8, 9, 10, 11, 12] rfl (by decide) 0 rfl rfl rfl g_X10_168 hd_X10_finish ⟨Nat.le_of_ble_eq_true rfl, Nat.le_of_ble_eq_true rfl⟩ ⟨Nat.zero_le _, Nat.zero_le _⟩ (Nat.le_of_ble_eq_true rfl) rfl dX10_workAll_59 (fun w1 hw1 => ?_)
    subst hw1
    refine ⟨(wMd E a q4), by rfl, ?_⟩
    refine r_iinc (pc := 62) C (v := (x1 + 1)) dX10_workAll_62 rfl rfl (by decide) rfl ?_
    refine r_goto (pc := 65) C (tgt := 2) dX10_workAll_65 rfl ?_
    refine r_weak (lSub_s (lSub_s (lSub_n lSub_e))) ?_
    exact hκ2 (x1 + 1) q4 q  h hq
def M_X10_workAll_2 (k : Nat) : Nat → (Int32) → (Nat → Nat → Int32) → Option ((Nat → Nat → Int32))
  | 0, _, _ => none
  | n + 1, x1, S => (M_X10_workers k S).bind fun q5 => if q5 ≤ x1 then (some S) else ((if inb x1 12 = true then lt (va_up S 6 (upd (S 6) x1.toNatClampNeg (-1 : Int32))) fun F8 => (M_X10_isUp k F8 x1).bind fun q9 => if q9 = 0 then (M_X10_workAll_36 k (M_X10_workAll_2 k n) x1 (-1 : Int32) F8) else ((M_X10_next k F8 (0 : Int32) x1 (0 : Int32)).bind fun q11 => M_X10_workAll_36 k (M_X10_workAll_2 k n) x1 q11 F8) else none))
theorem M_X10_workAll_2_s (k : Nat) (n : Nat) (x1 : Int32) (S : Nat → Nat → Int32) : M_X10_workAll_2 k (n + 1) x1 S = ((M_X10_workers k S).bind fun q5 => if q5 ≤ x1 then (some S) else ((if inb x1 12 = true then lt (va_up S 6 (upd (S 6) x1.toNatClampNeg (-1 : Int32))) fun F8 => (M_X10_isUp k F8 x1).bind fun q9 => if q9 = 0 then (M_X10_workAll_36 k (M_X10_workAll_2 k n) x1 (-1 : Int32) F8) else ((M_X10_next k F8 (0 : Int32) x1 (0 : Int32)).bind fun q11 => M_X10_workAll_36 k (M_X10_workAll_2 k n) x1 q11 F8) else none))) := rfl
set_option maxRecDepth 100000 in
set_option maxHeartbeats 4000000 in
theorem N_X10_workAll_2 (C : CX E p l s m args meth c cX10_workAll 3 RX10 none A) (a : Nat → Nat) (k : Nat) {post : va_W → Prop} :
    ∀ (n : Nat) (x1 : Int32) (S : Nat → Nat → Int32) (q : (Nat → Nat → Int32)), M_X10_workAll_2 k n x1 S = some q → post (wMd E a q) →
      WW E p l e rm_X10_workAll s m args below meth c A 0 0 (QV E below post args s rm_X10_workAll A) (wMd E a S) 3 [some (.ref (a 0)), some (.int x1), none] 2 [] := by
  intro n
  induction n with
  | zero => intro x1 S q  h _; cases h
  | succ n ih =>
    intro x1 S q  h hq
    rw [M_X10_workAll_2_s] at h
    refine r_iload_n (pc := 2) C (i := 1) dX10_workAll_2 rfl rfl ?_
    refine r_aload_n (pc := 3) C (i := 0) dX10_workAll_3 rfl rfl ?_
    obtain ⟨q5, hq5, h⟩ := bnd h
    refine r_callVp_CI (Cn := RX10) (pc := 4) C [] (c_X10_workers E l k a S hq5) [0, 1, 2, 3, 4, 5, 6, 7, 8, 9, 10, 11, 12] rfl (by decide) 0 rfl rfl rfl g_X10_106 hd_X10_workers ⟨Nat.le_of_ble_eq_true rfl, Nat.le_of_ble_eq_true rfl⟩ ⟨Nat.zero_le _, Nat.zero_le _⟩ (Nat.le_of_ble_eq_true rfl) rfl dX10_workAll_4 (fun r hr => ?_)
    have hr := hr.symm
    subst hr
    refine r_icmp_ge (pc := 7) C (tgt := 68) dX10_workAll_7 rfl (fun c6 => ?_) (fun c6 => ?_)
    · rw [if_pos c6] at h
      cases h
      exact r_vret (pc := 68) C hq (Nat.zero_le _) (Nat.zero_le _) dX10_workAll_68
    · rw [if_neg c6] at h
      refine r_aload_n (pc := 10) C (i := 0) dX10_workAll_10 rfl rfl ?_
      refine r_get (pc := 11) C gwX10 0 rfl rfl 9 (by decide) wm_5_212 rfl dX10_workAll_11 ?_
      refine r_iload_n (pc := 14) C (i := 1) dX10_workAll_14 rfl rfl ?_
      refine r_iconst (pc := 15) C (v := (-1)) dX10_workAll_15 (by decide) ?_
      obtain ⟨hi7, h⟩ := ifn h
      obtain ⟨F8, hF8, h⟩ := lt_e h
      refine r_iast (pc := 16) C 6 rfl hi7 (w' := (wMd E a F8)) (by rw [hF8]; rfl) dX10_workAll_16 ?_
      refine r_aload_n (pc := 17) C (i := 0) dX10_workAll_17 rfl rfl ?_
      refine r_iload_n (pc := 18) C (i := 1) dX10_workAll_18 rfl rfl ?_
      obtain ⟨q9, hq9, h⟩ := bnd h
      refine r_callVp_CI (Cn := RX10) (pc := 19) C [.int x1] (c_X10_isUp E l k a F8 x1 hq9) [0, 1, 2, 3, 4, 5, 6, 7, 8, 9, 10, 11, 12] rfl (by decide) 0 rfl rfl rfl g_X10_137 hd_X10_isUp ⟨Nat.le_of_ble_eq_true rfl, Nat.le_of_ble_eq_true rfl⟩ ⟨Nat.zero_le _, Nat.zero_le _⟩ (Nat.le_of_ble_eq_true rfl) rfl dX10_workAll_19 (fun r hr => ?_)
      have hr := hr.symm
      subst hr
      refine r_if_eq (pc := 22) C (tgt := 35) dX10_workAll_22 rfl (fun c10 => ?_) (fun c10 => ?_)
      · rw [if_pos c10] at h
        refine r_iconst (pc := 35) C (v := (-1)) dX10_workAll_35 (by decide) ?_
        refine r_weak (lSub_s (lSub_s (lSub_n lSub_e))) ?_
        exact N_X10_workAll_36 C a k (M_X10_workAll_2 k n) ih x1 (-1 : Int32) F8 q  h hq
      · rw [if_neg c10] at h
        refine r_aload_n (pc := 25) C (i := 0) dX10_workAll_25 rfl rfl ?_
        refine r_iconst (pc := 26) C (v := 0) dX10_workAll_26 (by decide) ?_
        refine r_iload_n (pc := 27) C (i := 1) dX10_workAll_27 rfl rfl ?_
        refine r_iconst (pc := 28) C (v := 0) dX10_workAll_28 (by decide) ?_
        obtain ⟨q11, hq11, h⟩ := bnd h
        refine r_callVp_CI (Cn := RX10) (pc := 29) C [.int (0 : Int32), .int x1, .int (0 : Int32)] (c_X10_next E l k a F8 (0 : Int32) x1 (0 : Int32) hq11) [0, 1, 2, 3, 4, 5, 6, 7, 8, 9, 10, 11, 12] rfl (by decide) 0 rfl rfl rfl g_X10_154 hd_X10_next ⟨Nat.le_of_ble_eq_true rfl, Nat.le_of_ble_eq_true rfl⟩ ⟨Nat.zero_le _, Nat.zero_le _⟩ (Nat.le_of_ble_eq_true rfl) rfl dX10_workAll_29 (fun r hr => ?_)
        have hr := hr.symm
        subst hr
        refine r_goto (pc := 32) C (tgt := 36) dX10_workAll_32 rfl ?_
        refine r_weak (lSub_s (lSub_s (lSub_n lSub_e))) ?_
        exact N_X10_workAll_36 C a k (M_X10_workAll_2 k n) ih x1 q11 F8 q  h hq
def M_X10_workAll_0 (k : Nat) (S : Nat → Nat → Int32) : Option ((Nat → Nat → Int32)) := M_X10_workAll_2 k k (0 : Int32) S
set_option maxRecDepth 100000 in
set_option maxHeartbeats 4000000 in
theorem N_X10_workAll_0 (C : CX E p l s m args meth c cX10_workAll 3 RX10 none A) (a : Nat → Nat) (k : Nat) {post : va_W → Prop} :
    ∀ (S : Nat → Nat → Int32) (q : (Nat → Nat → Int32)), M_X10_workAll_0 k S = some q → post (wMd E a q) →
      WW E p l e rm_X10_workAll s m args below meth c A 0 0 (QV E below post args s rm_X10_workAll A) (wMd E a S) 3 [some (.ref (a 0)), none, none] 0 [] := by
  intro S q  h hq
  unfold M_X10_workAll_0 at h
  refine r_iconst (pc := 0) C (v := 0) dX10_workAll_0 (by decide) ?_
  refine r_istore_n (pc := 1) C (i := 1) dX10_workAll_1 rfl (by decide) rfl ?_
  refine r_weak (lSub_s (lSub_s (lSub_n lSub_e))) ?_
  exact N_X10_workAll_2 C a k k (0 : Int32) S q  h hq
def M_X10_workAll (k : Nat) (S : Nat → Nat → Int32) : Option ((Nat → Nat → Int32)) := M_X10_workAll_0 k S
set_option maxRecDepth 100000 in
set_option maxHeartbeats 4000000 in
theorem c_X10_workAll (E : ENV) (l : Launch) (k : Nat) (a : Nat → Nat) (S : Nat → Nat → Int32) {q : (Nat → Nat → Int32)} (hm : M_X10_workAll k S = some q) : CV E l yX10_workAll cX10_workAll 3 none rm_X10_workAll [.ref (a 0)] (wMd E a S) (fun w' => w' = (wMd E a q)) :=
  CV.of 2 (by decide) (Nat.le_of_ble_eq_true rfl) (fun p e s m below meth c A C _ => r_weak (lSub_s (lSub_n (lSub_n lSub_e))) (N_X10_workAll_0 C a k S q  hm rfl))
end WALKS
