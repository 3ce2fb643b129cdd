section WALKS
variable {E : ENV} {p : Program} {l : Launch} {e : Env} {s : State} {m : MethodId} {args : Array Value} {below : List Frame} {meth : Method} {c : Code} {A : Nat → Prop}
theorem hd_X10_byteAt : yX10_byteAt.cls = RX10 ∧ yX10_byteAt.cls ≠ "java/lang/invoke/MethodHandle" ∧ yX10_byteAt.cls ≠ "java/lang/invoke/VarHandle" ∧ (parseMethodDescriptor yX10_byteAt.desc).map (fun d => d.parameters.length) = some 1 := by decide +kernel
theorem g_X10_358 : GoodIn GW (wsV RX10 358 RX10 yX10_byteAt (wsG yX10_byteAt cX10_byteAt 2 (some .int))) := gw_V wm_7_227 wm_7_229 wm_0_80 wm_1_9 wm_7_230
-- ShardGuardModel.isLetter(I)Z
theorem dX10_isLetter_0 : decode cX10_isLetter 0 = .ok (.aload_n 0, 1) := by decide +kernel
theorem dX10_isLetter_1 : decode cX10_isLetter 1 = .ok (.iload_n 1, 1) := by decide +kernel
theorem dX10_isLetter_2 : decode cX10_isLetter 2 = .ok (.invokevirtual 358, 3) := by decide +kernel
theorem dX10_isLetter_5 : decode cX10_isLetter 5 = .ok (.bipush 97, 2) := by decide +kernel
theorem dX10_isLetter_7 : decode cX10_isLetter 7 = .ok (.if_icmp .lt 17, 3) := by decide +kernel
theorem dX10_isLetter_10 : decode cX10_isLetter 10 = .ok (.aload_n 0, 1) := by decide +kernel
theorem dX10_isLetter_11 : decode cX10_isLetter 11 = .ok (.iload_n 1, 1) := by decide +kernel
theorem dX10_isLetter_12 : decode cX10_isLetter 12 = .ok (.invokevirtual 358, 3) := by decide +kernel
theorem dX10_isLetter_15 : decode cX10_isLetter 15 = .ok (.bipush 122, 2) := by decide +kernel
theorem dX10_isLetter_17 : decode cX10_isLetter 17 = .ok (.if_icmp .gt 7, 3) := by decide +kernel
theorem dX10_isLetter_20 : decode cX10_isLetter 20 = .ok (.iconst 1, 1) := by decide +kernel
theorem dX10_isLetter_21 : decode cX10_isLetter 21 = .ok (.goto 4, 3) := by decide +kernel
theorem dX10_isLetter_24 : decode cX10_isLetter 24 = .ok (.iconst 0, 1) := by decide +kernel
theorem dX10_isLetter_25 : decode cX10_isLetter 25 = .ok (.ireturn, 1) := by decide +kernel
def rm_X10_isLetter : Room := { frames := 1, cells := 0, slots := 0, locals := 21 }
def M_X10_isLetter_0 (k : Nat) (S : Nat → Nat → Int32) (p0 : Int32) : Option (Int32) := (M_X10_byteAt k S p0).bind fun q1 => if q1 < (97 : Int32) then (some (0 : Int32)) else ((M_X10_byteAt k S p0).bind fun q3 => if (122 : Int32) < q3 then (some (0 : Int32)) else (some (1 : Int32)))
set_option maxRecDepth 100000 in
set_option maxHeartbeats 4000000 in
theorem N_X10_isLetter_0 (C : CX E p l s m args meth c cX10_isLetter 2 RX10 (some .boolean) A) (a : Nat → Nat) (k : Nat) (S : Nat → Nat → Int32) {post : Int32 → va_W → Prop} :
    ∀ (p0 : Int32) (q : Int32), M_X10_isLetter_0 k S p0 = some q → post q (wMd E a S) →
      WW E p l e rm_X10_isLetter s m args below meth c A 0 0 (QI E below post args s rm_X10_isLetter A) (wMd E a S) 2 [some (.ref (a 0)), some (.int p0)] 0 [] := by
  intro p0 q  h hq
  unfold M_X10_isLetter_0 at h
  refine r_aload_n (pc := 0) C (i := 0) dX10_isLetter_0 rfl rfl ?_
  refine r_iload_n (pc := 1) C (i := 1) dX10_isLetter_1 rfl rfl ?_
  obtain ⟨q1, hq1, h⟩ := bnd h
  refine r_callVp_CI (Cn := RX10) (pc := 2) C [.int p0] (c_X10_byteAt E l k a S p0 hq1) [0, 1, 2, 3, 4, 5, 6, 7, 8, 9, 10, 11, 12] rfl (by decide) 0 rfl rfl rfl g_X10_358 hd_X10_byteAt ⟨Nat.le_of_ble_eq_true rfl, Nat.le_of_ble_eq_true rfl⟩ ⟨Nat.zero_le _, Nat.zero_le _⟩ (Nat.le_of_ble_eq_true rfl) rfl dX10_isLetter_2 (fun r hr => ?_)
  have hr := hr.symm
  subst hr
  refine r_bipush (pc := 5) C (v := 97) dX10_isLetter_5 (by decide) ?_
  refine r_icmp_lt (pc := 7) C (tgt := 24) dX10_isLetter_7 rfl (fun c2 => ?_) (fun c2 => ?_)
  · rw [if_pos c2] at h
    refine r_iconst (pc := 24) C (v := 0) dX10_isLetter_24 (by decide) ?_
    cases h
    exact r_iretz (pc := 25) C (Or.inl rfl) hq (Nat.zero_le _) (Nat.zero_le _) dX10_isLetter_25
  · rw [if_neg c2] at h
    refine r_aload_n (pc := 10) C (i := 0) dX10_isLetter_10 rfl rfl ?_
    refine r_iload_n (pc := 11) C (i := 1) dX10_isLetter_11 rfl rfl ?_
    obtain ⟨q3, hq3, h⟩ := bnd h
    refine r_callVp_CI (Cn := RX10) (pc := 12) C [.int p0] (c_X10_byteAt E l k a S p0 hq3) [0, 1, 2, 3, 4, 5, 6, 7, 8, 9, 10, 11, 12] rfl (by decide) 0 rfl rfl rfl g_X10_358 hd_X10_byteAt ⟨Nat.le_of_ble_eq_true rfl, Nat.le_of_ble_eq_true rfl⟩ ⟨Nat.zero_le _, Nat.zero_le _⟩ (Nat.le_of_ble_eq_true rfl) rfl dX10_isLetter_12 (fun r hr => ?_)
    have hr := hr.symm
    subst hr
    refine r_bipush (pc := 15) C (v := 122) dX10_isLetter_15 (by decide) ?_
    refine r_icmp_gt (pc := 17) C (tgt := 24) dX10_isLetter_17 rfl (fun c4 => ?_) (fun c4 => ?_)
    · rw [if_pos c4] at h
      refine r_iconst (pc := 24) C (v := 0) dX10_isLetter_24 (by decide) ?_
      cases h
      exact r_iretz (pc := 25) C (Or.inl rfl) hq (Nat.zero_le _) (Nat.zero_le _) dX10_isLetter_25
    · rw [if_neg c4] at h
      refine r_iconst (pc := 20) C (v := 1) dX10_isLetter_20 (by decide) ?_
      refine r_goto (pc := 21) C (tgt := 25) dX10_isLetter_21 rfl ?_
      cases h
      exact r_iretz (pc := 25) C (Or.inr rfl) hq (Nat.zero_le _) (Nat.zero_le _) dX10_isLetter_25
def M_X10_isLetter (k : Nat) (S : Nat → Nat → Int32) (p0 : Int32) : Option (Int32) := M_X10_isLetter_0 k S p0
set_option maxRecDepth 100000 in
set_option maxHeartbeats 4000000 in
theorem c_X10_isLetter (E : ENV) (l : Launch) (k : Nat) (a : Nat → Nat) (S : Nat → Nat → Int32) (p0 : Int32) {q : Int32} (hm : M_X10_isLetter k S p0 = some q) : CI E l yX10_isLetter cX10_isLetter 2 (some .boolean) rm_X10_isLetter [.ref (a 0), .int p0] (wMd E a S) (fun r w' => r = q ∧ w' = (wMd E a S)) :=
  CI.of 0 (by decide) (Nat.le_of_ble_eq_true rfl) (fun p e s m below meth c A C _ => r_weak (lSub_s (lSub_s lSub_e)) (N_X10_isLetter_0 C a k S p0 q  hm ⟨rfl, rfl⟩))
-- ShardGuardModel.isDigit(I)Z
theorem dX10_isDigit_0 : decode cX10_isDigit 0 = .ok (.aload_n 0, 1) := by decide +kernel
theorem dX10_isDigit_1 : decode cX10_isDigit 1 = .ok (.iload_n 1, 1) := by decide +kernel
theorem dX10_isDigit_2 : decode cX10_isDigit 2 = .ok (.invokevirtual 358, 3) := by decide +kernel
theorem dX10_isDigit_5 : decode cX10_isDigit 5 = .ok (.bipush 48, 2) := by decide +kernel
theorem dX10_isDigit_7 : decode cX10_isDigit 7 = .ok (.if_icmp .lt 17, 3) := by decide +kernel
theorem dX10_isDigit_10 : decode cX10_isDigit 10 = .ok (.aload_n 0, 1) := by decide +kernel
theorem dX10_isDigit_11 : decode cX10_isDigit 11 = .ok (.iload_n 1, 1) := by decide +kernel
theorem dX10_isDigit_12 : decode cX10_isDigit 12 = .ok (.invokevirtual 358, 3) := by decide +kernel
theorem dX10_isDigit_15 : decode cX10_isDigit 15 = .ok (.bipush 57, 2) := by decide +kernel
theorem dX10_isDigit_17 : decode cX10_isDigit 17 = .ok (.if_icmp .gt 7, 3) := by decide +kernel
theorem dX10_isDigit_20 : decode cX10_isDigit 20 = .ok (.iconst 1, 1) := by decide +kernel
theorem dX10_isDigit_21 : decode cX10_isDigit 21 = .ok (.goto 4, 3) := by decide +kernel
theorem dX10_isDigit_24 : decode cX10_isDigit 24 = .ok (.iconst 0, 1) := by decide +kernel
theorem dX10_isDigit_25 : decode cX10_isDigit 25 = .ok (.ireturn, 1) := by decide +kernel
def rm_X10_isDigit : Room := { frames := 1, cells := 0, slots := 0, locals := 21 }
def M_X10_isDigit_0 (k : Nat) (S : Nat → Nat → Int32) (p0 : Int32) : Option (Int32) := (M_X10_byteAt k S p0).bind fun q1 => if q1 < (48 : Int32) then (some (0 : Int32)) else ((M_X10_byteAt k S p0).bind fun q3 => if (57 : Int32) < q3 then (some (0 : Int32)) else (some (1 : Int32)))
set_option maxRecDepth 100000 in
set_option maxHeartbeats 4000000 in
theorem N_X10_isDigit_0 (C : CX E p l s m args meth c cX10_isDigit 2 RX10 (some .boolean) A) (a : Nat → Nat) (k : Nat) (S : Nat → Nat → Int32) {post : Int32 → va_W → Prop} :
    ∀ (p0 : Int32) (q : Int32), M_X10_isDigit_0 k S p0 = some q → post q (wMd E a S) →
      WW E p l e rm_X10_isDigit s m args below meth c A 0 0 (QI E below post args s rm_X10_isDigit A) (wMd E a S) 2 [some (.ref (a 0)), some (.int p0)] 0 [] := by
  intro p0 q  h hq
  unfold M_X10_isDigit_0 at h
  refine r_aload_n (pc := 0) C (i := 0) dX10_isDigit_0 rfl rfl ?_
  refine r_iload_n (pc := 1) C (i := 1) dX10_isDigit_1 rfl rfl ?_
  obtain ⟨q1, hq1, h⟩ := bnd h
  refine r_callVp_CI (Cn := RX10) (pc := 2) C [.int p0] (c_X10_byteAt E l k a S p0 hq1) [0, 1, 2, 3, 4, 5, 6, 7, 8, 9, 10, 11, 12] rfl (by decide) 0 rfl rfl rfl g_X10_358 hd_X10_byteAt ⟨Nat.le_of_ble_eq_true rfl, Nat.le_of_ble_eq_true rfl⟩ ⟨Nat.zero_le _, Nat.zero_le _⟩ (Nat.le_of_ble_eq_true rfl) rfl dX10_isDigit_2 (fun r hr => ?_)
  have hr := hr.symm
  subst hr
  refine r_bipush (pc := 5) C (v := 48) dX10_isDigit_5 (by decide) ?_
  refine r_icmp_lt (pc := 7) C (tgt := 24) dX10_isDigit_7 rfl (fun c2 => ?_) (fun c2 => ?_)
  · rw [if_pos c2] at h
    refine r_iconst (pc := 24) C (v := 0) dX10_isDigit_24 (by decide) ?_
    cases h
    exact r_iretz (pc := 25) C (Or.inl rfl) hq (Nat.zero_le _) (Nat.zero_le _) dX10_isDigit_25
  · rw [if_neg c2] at h
    refine r_aload_n (pc := 10) C (i := 0) dX10_isDigit_10 rfl rfl ?_
    refine r_iload_n (pc := 11) C (i := 1) dX10_isDigit_11 rfl rfl ?_
    obtain ⟨q3, hq3, h⟩ := bnd h
    refine r_callVp_CI (Cn := RX10) (pc := 12) C [.int p0] (c_X10_byteAt E l k a S p0 hq3) [0, 1, 2, 3, 4, 5, 6, 7, 8, 9, 10, 11, 12] rfl (by decide) 0 rfl rfl rfl g_X10_358 hd_X10_byteAt ⟨Nat.le_of_ble_eq_true rfl, Nat.le_of_ble_eq_true rfl⟩ ⟨Nat.zero_le _, Nat.zero_le _⟩ (Nat.le_of_ble_eq_true rfl) rfl dX10_isDigit_12 (fun r hr => ?_)
    have hr := hr.symm
    subst hr
    refine r_bipush (pc := 15) C (v := 57) dX10_isDigit_15 (by decide) ?_
    refine r_icmp_gt (pc := 17) C (tgt := 24) dX10_isDigit_17 rfl (fun c4 => ?_) (fun c4 => ?_)
    · rw [if_pos c4] at h
      refine r_iconst (pc := 24) C (v := 0) dX10_isDigit_24 (by decide) ?_
      cases h
      exact r_iretz (pc := 25) C (Or.inl rfl) hq (Nat.zero_le _) (Nat.zero_le _) dX10_isDigit_25
    · rw [if_neg c4] at h
      refine r_iconst (pc := 20) C (v := 1) dX10_isDigit_20 (by decide) ?_
      refine r_goto (pc := 21) C (tgt := 25) dX10_isDigit_21 rfl ?_
      cases h
      exact r_iretz (pc := 25) C (Or.inr rfl) hq (Nat.zero_le _) (Nat.zero_le _) dX10_isDigit_25
def M_X10_isDigit (k : Nat) (S : Nat → Nat → Int32) (p0 : Int32) : Option (Int32) := M_X10_isDigit_0 k S p0
set_option maxRecDepth 100000 in
set_option maxHeartbeats 4000000 in
theorem c_X10_isDigit (E : ENV) (l : Launch) (k : Nat) (a : Nat → Nat) (S : Nat → Nat → Int32) (p0 : Int32) {q : Int32} (hm : M_X10_isDigit k S p0 = some q) : CI E l yX10_isDigit cX10_isDigit 2 (some .boolean) rm_X10_isDigit [.ref (a 0), .int p0] (wMd E a S) (fun r w' => r = q ∧ w' = (wMd E a S)) :=
  CI.of 0 (by decide) (Nat.le_of_ble_eq_true rfl) (fun p e s m below meth c A C _ => r_weak (lSub_s (lSub_s lSub_e)) (N_X10_isDigit_0 C a k S p0 q  hm ⟨rfl, rfl⟩))
theorem hd_X10_isDigit : yX10_isDigit.cls = RX10 ∧ yX10_isDigit.cls ≠ "java/lang/invoke/MethodHandle" ∧ yX10_isDigit.cls ≠ "java/lang/invoke/VarHandle" ∧ (parseMethodDescriptor yX10_isDigit.desc).map (fun d => d.parameters.length) = some 1 := by decide +kernel
theorem g_X10_372 : GoodIn GW (wsV RX10 372 RX10 yX10_isDigit (wsG yX10_isDigit cX10_isDigit 2 (some .boolean))) := gw_V wm_7_235 wm_7_237 wm_0_82 wm_1_9 wm_7_238
theorem hd_X10_isLetter : yX10_isLetter.cls = RX10 ∧ yX10_isLetter.cls ≠ "java/lang/invoke/MethodHandle" ∧ yX10_isLetter.cls ≠ "java/lang/invoke/VarHandle" ∧ (parseMethodDescriptor yX10_isLetter.desc).map (fun d => d.parameters.length) = some 1 := by decide +kernel
theorem g_X10_369 : GoodIn GW (wsV RX10 369 RX10 yX10_isLetter (wsG yX10_isLetter cX10_isLetter 2 (some .boolean))) := gw_V wm_7_231 wm_7_233 wm_0_81 wm_1_9 wm_7_234
-- ShardGuardModel.scan()V
theorem dX10_scan_0 : decode cX10_scan 0 = .ok (.aload_n 0, 1) := by decide +kernel
theorem dX10_scan_1 : decode cX10_scan 1 = .ok (.aload_n 0, 1) := by decide +kernel
theorem dX10_scan_2 : decode cX10_scan 2 = .ok (.getfield 361, 3) := by decide +kernel
theorem dX10_scan_5 : decode cX10_scan 5 = .ok (.invokevirtual 358, 3) := by decide +kernel
theorem dX10_scan_8 : decode cX10_scan 8 = .ok (.bipush 32, 2) := by decide +kernel
theorem dX10_scan_10 : decode cX10_scan 10 = .ok (.if_icmp .eq 16, 3) := by decide +kernel
theorem dX10_scan_13 : decode cX10_scan 13 = .ok (.aload_n 0, 1) := by decide +kernel
theorem dX10_scan_14 : decode cX10_scan 14 = .ok (.aload_n 0, 1) := by decide +kernel
theorem dX10_scan_15 : decode cX10_scan 15 = .ok (.getfield 361, 3) := by decide +kernel
theorem dX10_scan_18 : decode cX10_scan 18 = .ok (.invokevirtual 358, 3) := by decide +kernel
theorem dX10_scan_21 : decode cX10_scan 21 = .ok (.bipush 10, 2) := by decide +kernel
theorem dX10_scan_23 : decode cX10_scan 23 = .ok (.if_icmp .ne 16, 3) := by decide +kernel
theorem dX10_scan_26 : decode cX10_scan 26 = .ok (.aload_n 0, 1) := by decide +kernel
theorem dX10_scan_27 : decode cX10_scan 27 = .ok (.dup, 1) := by decide +kernel
theorem dX10_scan_28 : decode cX10_scan 28 = .ok (.getfield 361, 3) := by decide +kernel
theorem dX10_scan_31 : decode cX10_scan 31 = .ok (.iconst 1, 1) := by decide +kernel
theorem dX10_scan_32 : decode cX10_scan 32 = .ok (.iadd, 1) := by decide +kernel
theorem dX10_scan_33 : decode cX10_scan 33 = .ok (.putfield 361, 3) := by decide +kernel
theorem dX10_scan_36 : decode cX10_scan 36 = .ok (.goto (-36), 3) := by decide +kernel
theorem dX10_scan_39 : decode cX10_scan 39 = .ok (.aload_n 0, 1) := by decide +kernel
theorem dX10_scan_40 : decode cX10_scan 40 = .ok (.aload_n 0, 1) := by decide +kernel
theorem dX10_scan_41 : decode cX10_scan 41 = .ok (.getfield 361, 3) := by decide +kernel
theorem dX10_scan_44 : decode cX10_scan 44 = .ok (.putfield 363, 3) := by decide +kernel
theorem dX10_scan_47 : decode cX10_scan 47 = .ok (.aload_n 0, 1) := by decide +kernel
theorem dX10_scan_48 : decode cX10_scan 48 = .ok (.getfield 361, 3) := by decide +kernel
theorem dX10_scan_51 : decode cX10_scan 51 = .ok (.aload_n 0, 1) := by decide +kernel
theorem dX10_scan_52 : decode cX10_scan 52 = .ok (.getfield 356, 3) := by decide +kernel
theorem dX10_scan_55 : decode cX10_scan 55 = .ok (.if_icmp .lt 11, 3) := by decide +kernel
theorem dX10_scan_58 : decode cX10_scan 58 = .ok (.aload_n 0, 1) := by decide +kernel
theorem dX10_scan_59 : decode cX10_scan 59 = .ok (.iconst 0, 1) := by decide +kernel
theorem dX10_scan_60 : decode cX10_scan 60 = .ok (.putfield 366, 3) := by decide +kernel
theorem dX10_scan_63 : decode cX10_scan 63 = .ok (.goto 104, 3) := by decide +kernel
theorem dX10_scan_66 : decode cX10_scan 66 = .ok (.aload_n 0, 1) := by decide +kernel
theorem dX10_scan_67 : decode cX10_scan 67 = .ok (.aload_n 0, 1) := by decide +kernel
theorem dX10_scan_68 : decode cX10_scan 68 = .ok (.getfield 361, 3) := by decide +kernel
theorem dX10_scan_71 : decode cX10_scan 71 = .ok (.invokevirtual 369, 3) := by decide +kernel
theorem dX10_scan_74 : decode cX10_scan 74 = .ok (.ifCond .eq 35, 3) := by decide +kernel
theorem dX10_scan_77 : decode cX10_scan 77 = .ok (.aload_n 0, 1) := by decide +kernel
theorem dX10_scan_78 : decode cX10_scan 78 = .ok (.aload_n 0, 1) := by decide +kernel
theorem dX10_scan_79 : decode cX10_scan 79 = .ok (.getfield 361, 3) := by decide +kernel
theorem dX10_scan_82 : decode cX10_scan 82 = .ok (.invokevirtual 369, 3) := by decide +kernel
theorem dX10_scan_85 : decode cX10_scan 85 = .ok (.ifCond .eq 16, 3) := by decide +kernel
theorem dX10_scan_88 : decode cX10_scan 88 = .ok (.aload_n 0, 1) := by decide +kernel
theorem dX10_scan_89 : decode cX10_scan 89 = .ok (.dup, 1) := by decide +kernel
theorem dX10_scan_90 : decode cX10_scan 90 = .ok (.getfield 361, 3) := by decide +kernel
theorem dX10_scan_93 : decode cX10_scan 93 = .ok (.iconst 1, 1) := by decide +kernel
theorem dX10_scan_94 : decode cX10_scan 94 = .ok (.iadd, 1) := by decide +kernel
theorem dX10_scan_95 : decode cX10_scan 95 = .ok (.putfield 361, 3) := by decide +kernel
theorem dX10_scan_98 : decode cX10_scan 98 = .ok (.goto (-21), 3) := by decide +kernel
theorem dX10_scan_101 : decode cX10_scan 101 = .ok (.aload_n 0, 1) := by decide +kernel
theorem dX10_scan_102 : decode cX10_scan 102 = .ok (.iconst 1, 1) := by decide +kernel
theorem dX10_scan_103 : decode cX10_scan 103 = .ok (.putfield 366, 3) := by decide +kernel
theorem dX10_scan_106 : decode cX10_scan 106 = .ok (.goto 61, 3) := by decide +kernel
theorem dX10_scan_109 : decode cX10_scan 109 = .ok (.aload_n 0, 1) := by decide +kernel
theorem dX10_scan_110 : decode cX10_scan 110 = .ok (.aload_n 0, 1) := by decide +kernel
theorem dX10_scan_111 : decode cX10_scan 111 = .ok (.getfield 361, 3) := by decide +kernel
theorem dX10_scan_114 : decode cX10_scan 114 = .ok (.invokevirtual 372, 3) := by decide +kernel
theorem dX10_scan_117 : decode cX10_scan 117 = .ok (.ifCond .eq 35, 3) := by decide +kernel
theorem dX10_scan_120 : decode cX10_scan 120 = .ok (.aload_n 0, 1) := by decide +kernel
theorem dX10_scan_121 : decode cX10_scan 121 = .ok (.aload_n 0, 1) := by decide +kernel
theorem dX10_scan_122 : decode cX10_scan 122 = .ok (.getfield 361, 3) := by decide +kernel
theorem dX10_scan_125 : decode cX10_scan 125 = .ok (.invokevirtual 372, 3) := by decide +kernel
theorem dX10_scan_128 : decode cX10_scan 128 = .ok (.ifCond .eq 16, 3) := by decide +kernel
theorem dX10_scan_131 : decode cX10_scan 131 = .ok (.aload_n 0, 1) := by decide +kernel
theorem dX10_scan_132 : decode cX10_scan 132 = .ok (.dup, 1) := by decide +kernel
theorem dX10_scan_133 : decode cX10_scan 133 = .ok (.getfield 361, 3) := by decide +kernel
theorem dX10_scan_136 : decode cX10_scan 136 = .ok (.iconst 1, 1) := by decide +kernel
theorem dX10_scan_137 : decode cX10_scan 137 = .ok (.iadd, 1) := by decide +kernel
theorem dX10_scan_138 : decode cX10_scan 138 = .ok (.putfield 361, 3) := by decide +kernel
theorem dX10_scan_141 : decode cX10_scan 141 = .ok (.goto (-21), 3) := by decide +kernel
theorem dX10_scan_144 : decode cX10_scan 144 = .ok (.aload_n 0, 1) := by decide +kernel
theorem dX10_scan_145 : decode cX10_scan 145 = .ok (.iconst 2, 1) := by decide +kernel
theorem dX10_scan_146 : decode cX10_scan 146 = .ok (.putfield 366, 3) := by decide +kernel
theorem dX10_scan_149 : decode cX10_scan 149 = .ok (.goto 18, 3) := by decide +kernel
theorem dX10_scan_152 : decode cX10_scan 152 = .ok (.aload_n 0, 1) := by decide +kernel
theorem dX10_scan_153 : decode cX10_scan 153 = .ok (.dup, 1) := by decide +kernel
theorem dX10_scan_154 : decode cX10_scan 154 = .ok (.getfield 361, 3) := by decide +kernel
theorem dX10_scan_157 : decode cX10_scan 157 = .ok (.iconst 1, 1) := by decide +kernel
theorem dX10_scan_158 : decode cX10_scan 158 = .ok (.iadd, 1) := by decide +kernel
theorem dX10_scan_159 : decode cX10_scan 159 = .ok (.putfield 361, 3) := by decide +kernel
theorem dX10_scan_162 : decode cX10_scan 162 = .ok (.aload_n 0, 1) := by decide +kernel
theorem dX10_scan_163 : decode cX10_scan 163 = .ok (.iconst 3, 1) := by decide +kernel
theorem dX10_scan_164 : decode cX10_scan 164 = .ok (.putfield 366, 3) := by decide +kernel
theorem dX10_scan_167 : decode cX10_scan 167 = .ok (.return_, 1) := by decide +kernel
def rm_X10_scan : Room := { frames := 2, cells := 0, slots := 0, locals := 42 }
def M_X10_scan_120 (k : Nat) : Nat → (Nat → Nat → Int32) → Option ((Nat → Nat → Int32))
  | 0, _ => none
  | n + 1, S => (M_X10_isDigit k S (S 0 8)).bind fun q1 => if q1 = 0 then (lt (va_up S 0 (upd (S 0) 10 (2 : Int32))) fun F3 => some F3) else (lt (va_up S 0 (upd (S 0) 8 ((S 0 8) + (1 : Int32)))) fun F4 => M_X10_scan_120 k n F4)
theorem M_X10_scan_120_s (k : Nat) (n : Nat) (S : Nat → Nat → Int32) : M_X10_scan_120 k (n + 1) S = ((M_X10_isDigit k S (S 0 8)).bind fun q1 => if q1 = 0 then (lt (va_up S 0 (upd (S 0) 10 (2 : Int32))) fun F3 => some F3) else (lt (va_up S 0 (upd (S 0) 8 ((S 0 8) + (1 : Int32)))) fun F4 => M_X10_scan_120 k n F4)) := rfl
set_option maxRecDepth 100000 in
set_option maxHeartbeats 4000000 in
theorem N_X10_scan_120 (C : CX E p l s m args meth c cX10_scan 1 RX10 none A) (a : Nat → Nat) (k : Nat) {post : va_W → Prop} :
    ∀ (n : Nat) (S : Nat → Nat → Int32) (q : (Nat → Nat → Int32)), M_X10_scan_120 k n S = some q → post (wMd E a q) →
      WW E p l e rm_X10_scan s m args below meth c A 0 0 (QV E below post args s rm_X10_scan A) (wMd E a S) 1 [some (.ref (a 0))] 120 [] := by
  intro n
  induction n with
  | zero => intro S q  h _; cases h
  | succ n ih =>
    intro S q  h hq
    rw [M_X10_scan_120_s] at h
    refine r_aload_n (pc := 120) C (i := 0) dX10_scan_120 rfl rfl ?_
    refine r_aload_n (pc := 121) C (i := 0) dX10_scan_121 rfl rfl ?_
    refine r_get (pc := 122) C gwX10 0 rfl rfl 16 (by decide) wm_5_219 rfl dX10_scan_122 ?_
    obtain ⟨q1, hq1, h⟩ := bnd h
    refine r_callVp_CI (Cn := RX10) (pc := 125) C [.int (S 0 8)] (c_X10_isDigit E l k a S (S 0 8) hq1) [0, 1, 2, 3, 4, 5, 6, 7, 8, 9, 10, 11, 12] rfl (by decide) 0 rfl rfl rfl g_X10_372 hd_X10_isDigit ⟨Nat.le_of_ble_eq_true rfl, Nat.le_of_ble_eq_true rfl⟩ ⟨Nat.zero_le _, Nat.zero_le _⟩ (Nat.le_of_ble_eq_true rfl) rfl dX10_scan_125 (fun r hr => ?_)
    have hr := hr.symm
    subst hr
    refine r_if_eq (pc := 128) C (tgt := 144) dX10_scan_128 rfl (fun c2 => ?_) (fun c2 => ?_)
    · rw [if_pos c2] at h
      refine r_aload_n (pc := 144) C (i := 0) dX10_scan_144 rfl rfl ?_
      refine r_iconst (pc := 145) C (v := 2) dX10_scan_145 (by decide) ?_
      obtain ⟨F3, hF3, h⟩ := lt_e h
      refine r_put (pc := 146) C gwX10 tyX10 tyX10_ok nmX10 0 rfl rfl 18 (by decide) wm_5_221 rfl rfl rfl rfl (Nat.le_of_ble_eq_true rfl) (w' := (wMd E a F3)) (by rw [hF3]; rfl) dX10_scan_146 ?_
      refine r_goto (pc := 149) C (tgt := 167) dX10_scan_149 rfl ?_
      cases h
      exact r_vret (pc := 167) C hq (Nat.zero_le _) (Nat.zero_le _) dX10_scan_167
    · rw [if_neg c2] at h
      refine r_aload_n (pc := 131) C (i := 0) dX10_scan_131 rfl rfl ?_
      refine r_dup (pc := 132) C dX10_scan_132 rfl ?_
      refine r_get (pc := 133) C gwX10 0 rfl rfl 16 (by decide) wm_5_219 rfl dX10_scan_133 ?_
      refine r_iconst (pc := 136) C (v := 1) dX10_scan_136 (by decide) ?_
      refine r_iadd (pc := 137) C dX10_scan_137 ?_
      obtain ⟨F4, hF4, h⟩ := lt_e h
      refine r_put (pc := 138) C gwX10 tyX10 tyX10_ok nmX10 0 rfl rfl 16 (by decide) wm_5_219 rfl rfl rfl rfl (Nat.le_of_ble_eq_true rfl) (w' := (wMd E a F4)) (by rw [hF4]; rfl) dX10_scan_138 ?_
      refine r_goto (pc := 141) C (tgt := 120) dX10_scan_141 rfl ?_
      refine r_weak (lSub_s lSub_e) ?_
      exact ih F4 q  h hq
def M_X10_scan_77 (k : Nat) : Nat → (Nat → Nat → Int32) → Option ((Nat → Nat → Int32))
  | 0, _ => none
  | n + 1, S => (M_X10_isLetter k S (S 0 8)).bind fun q5 => if q5 = 0 then (lt (va_up S 0 (upd (S 0) 10 (1 : Int32))) fun F7 => some F7) else (lt (va_up S 0 (upd (S 0) 8 ((S 0 8) + (1 : Int32)))) fun F8 => M_X10_scan_77 k n F8)
theorem M_X10_scan_77_s (k : Nat) (n : Nat) (S : Nat → Nat → Int32) : M_X10_scan_77 k (n + 1) S = ((M_X10_isLetter k S (S 0 8)).bind fun q5 => if q5 = 0 then (lt (va_up S 0 (upd (S 0) 10 (1 : Int32))) fun F7 => some F7) else (lt (va_up S 0 (upd (S 0) 8 ((S 0 8) + (1 : Int32)))) fun F8 => M_X10_scan_77 k n F8)) := rfl
set_option maxRecDepth 100000 in
set_option maxHeartbeats 4000000 in
theorem N_X10_scan_77 (C : CX E p l s m args meth c cX10_scan 1 RX10 none A) (a : Nat → Nat) (k : Nat) {post : va_W → Prop} :
    ∀ (n : Nat) (S : Nat → Nat → Int32) (q : (Nat → Nat → Int32)), M_X10_scan_77 k n S = some q → post (wMd E a q) →
      WW E p l e rm_X10_scan s m args below meth c A 0 0 (QV E below post args s rm_X10_scan A) (wMd E a S) 1 [some (.ref (a 0))] 77 [] := by
  intro n
  induction n with
  | zero => intro S q  h _; cases h
  | succ n ih =>
    intro S q  h hq
    rw [M_X10_scan_77_s] at h
    refine r_aload_n (pc := 77) C (i := 0) dX10_scan_77 rfl rfl ?_
    refine r_aload_n (pc := 78) C (i := 0) dX10_scan_78 rfl rfl ?_
    refine r_get (pc := 79) C gwX10 0 rfl rfl 16 (by decide) wm_5_219 rfl dX10_scan_79 ?_
    obtain ⟨q5, hq5, h⟩ := bnd h
    refine r_callVp_CI (Cn := RX10) (pc := 82) C [.int (S 0 8)] (c_X10_isLetter E l k a S (S 0 8) hq5) [0, 1, 2, 3, 4, 5, 6, 7, 8, 9, 10, 11, 12] rfl (by decide) 0 rfl rfl rfl g_X10_369 hd_X10_isLetter ⟨Nat.le_of_ble_eq_true rfl, Nat.le_of_ble_eq_true rfl⟩ ⟨Nat.zero_le _, Nat.zero_le _⟩ (Nat.le_of_ble_eq_true rfl) rfl dX10_scan_82 (fun r hr => ?_)
    have hr := hr.symm
    subst hr
    refine r_if_eq (pc := 85) C (tgt := 101) dX10_scan_85 rfl (fun c6 => ?_) (fun c6 => ?_)
    · rw [if_pos c6] at h
      refine r_aload_n (pc := 101) C (i := 0) dX10_scan_101 rfl rfl ?_
      refine r_iconst (pc := 102) C (v := 1) dX10_scan_102 (by decide) ?_
      obtain ⟨F7, hF7, h⟩ := lt_e h
      refine r_put (pc := 103) C gwX10 tyX10 tyX10_ok nmX10 0 rfl rfl 18 (by decide) wm_5_221 rfl rfl rfl rfl (Nat.le_of_ble_eq_true rfl) (w' := (wMd E a F7)) (by rw [hF7]; rfl) dX10_scan_103 ?_
      refine r_goto (pc := 106) C (tgt := 167) dX10_scan_106 rfl ?_
      cases h
      exact r_vret (pc := 167) C hq (Nat.zero_le _) (Nat.zero_le _) dX10_scan_167
    · rw [if_neg c6] at h
      refine r_aload_n (pc := 88) C (i := 0) dX10_scan_88 rfl rfl ?_
      refine r_dup (pc := 89) C dX10_scan_89 rfl ?_
      refine r_get (pc := 90) C gwX10 0 rfl rfl 16 (by decide) wm_5_219 rfl dX10_scan_90 ?_
      refine r_iconst (pc := 93) C (v := 1) dX10_scan_93 (by decide) ?_
      refine r_iadd (pc := 94) C dX10_scan_94 ?_
      obtain ⟨F8, hF8, h⟩ := lt_e h
      refine r_put (pc := 95) C gwX10 tyX10 tyX10_ok nmX10 0 rfl rfl 16 (by decide) wm_5_219 rfl rfl rfl rfl (Nat.le_of_ble_eq_true rfl) (w' := (wMd E a F8)) (by rw [hF8]; rfl) dX10_scan_95 ?_
      refine r_goto (pc := 98) C (tgt := 77) dX10_scan_98 rfl ?_
      refine r_weak (lSub_s lSub_e) ?_
      exact ih F8 q  h hq
def M_X10_scan_0 (k : Nat) : Nat → (Nat → Nat → Int32) → Option ((Nat → Nat → Int32))
  | 0, _ => none
  | n + 1, S => (M_X10_byteAt k S (S 0 8)).bind fun q9 => if q9 = (32 : Int32) then (lt (va_up S 0 (upd (S 0) 8 ((S 0 8) + (1 : Int32)))) fun F11 => M_X10_scan_0 k n F11) else ((M_X10_byteAt k S (S 0 8)).bind fun q12 => if q12 = (10 : Int32) then (lt (va_up S 0 (upd (S 0) 8 ((S 0 8) + (1 : Int32)))) fun F23 => M_X10_scan_0 k n F23) else (lt (va_up S 0 (upd (S 0) 9 (S 0 8))) fun F14 => if (F14 0 8) < (F14 0 7) then ((M_X10_isLetter k F14 (F14 0 8)).bind fun q16 => if q16 = 0 then ((M_X10_isDigit k F14 (F14 0 8)).bind fun q18 => if q18 = 0 then (lt (va_up F14 0 (upd (F14 0) 8 ((F14 0 8) + (1 : Int32)))) fun F20 => lt (va_up F20 0 (upd (F20 0) 10 (3 : Int32))) fun F21 => some F21) else (M_X10_scan_120 k k F14)) else (M_X10_scan_77 k k F14)) else (lt (va_up F14 0 (upd (F14 0) 10 (0 : Int32))) fun F22 => some F22)))
theorem M_X10_scan_0_s (k : Nat) (n : Nat) (S : Nat → Nat → Int32) : M_X10_scan_0 k (n + 1) S = ((M_X10_byteAt k S (S 0 8)).bind fun q9 => if q9 = (32 : Int32) then (lt (va_up S 0 (upd (S 0) 8 ((S 0 8) + (1 : Int32)))) fun F11 => M_X10_scan_0 k n F11) else ((M_X10_byteAt k S (S 0 8)).bind fun q12 => if q12 = (10 : Int32) then (lt (va_up S 0 (upd (S 0) 8 ((S 0 8) + (1 : Int32)))) fun F23 => M_X10_scan_0 k n F23) else (lt (va_up S 0 (upd (S 0) 9 (S 0 8))) fun F14 => if (F14 0 8) < (F14 0 7) then ((M_X10_isLetter k F14 (F14 0 8)).bind fun q16 => if q16 = 0 then ((M_X10_isDigit k F14 (F14 0 8)).bind fun q18 => if q18 = 0 then (lt (va_up F14 0 (upd (F14 0) 8 ((F14 0 8) + (1 : Int32)))) fun F20 => lt (va_up F20 0 (upd (F20 0) 10 (3 : Int32))) fun F21 => some F21) else (M_X10_scan_120 k k F14)) else (M_X10_scan_77 k k F14)) else (lt (va_up F14 0 (upd (F14 0) 10 (0 : Int32))) fun F22 => some F22)))) := rfl
set_option maxRecDepth 100000 in
set_option maxHeartbeats 4000000 in
theorem N_X10_scan_0 (C : CX E p l s m args meth c cX10_scan 1 RX10 none A) (a : Nat → Nat) (k : Nat) {post : va_W → Prop} :
    ∀ (n : Nat) (S : Nat → Nat → Int32) (q : (Nat → Nat → Int32)), M_X10_scan_0 k n S = some q → post (wMd E a q) →
      WW E p l e rm_X10_scan s m args below meth c A 0 0 (QV E below post args s rm_X10_scan A) (wMd E a S) 1 [some (.ref (a 0))] 0 [] := by
  intro n
  induction n with
  | zero => intro S q  h _; cases h
  | succ n ih =>
    intro S q  h hq
    rw [M_X10_scan_0_s] at h
    refine r_aload_n (pc := 0) C (i := 0) dX10_scan_0 rfl rfl ?_
    refine r_aload_n (pc := 1) C (i := 0) dX10_scan_1 rfl rfl ?_
    refine r_get (pc := 2) C gwX10 0 rfl rfl 16 (by decide) wm_5_219 rfl dX10_scan_2 ?_
    obtain ⟨q9, hq9, h⟩ := bnd h
    refine r_callVp_CI (Cn := RX10) (pc := 5) C [.int (S 0 8)] (c_X10_byteAt E l k a S (S 0 8) hq9) [0, 1, 2, 3, 4, 5, 6, 7, 8, 9, 10, 11, 12] rfl (by decide) 0 rfl rfl rfl g_X10_358 hd_X10_byteAt ⟨Nat.le_of_ble_eq_true rfl, Nat.le_of_ble_eq_true rfl⟩ ⟨Nat.zero_le _, Nat.zero_le _⟩ (Nat.le_of_ble_eq_true rfl) rfl dX10_scan_5 (fun r hr => ?_)
    have hr := hr.symm
    subst hr
    refine r_bipush (pc := 8) C (v := 32) dX10_scan_8 (by decide) ?_
    refine r_icmp_eq (pc := 10) C (tgt := 26) dX10_scan_10 rfl (fun c10 => ?_) (fun c10 => ?_)
    · rw [if_pos c10] at h
      refine r_aload_n (pc := 26) C (i := 0) dX10_scan_26 rfl rfl ?_
      refine r_dup (pc := 27) C dX10_scan_27 rfl ?_
      refine r_get (pc := 28) C gwX10 0 rfl rfl 16 (by decide) wm_5_219 rfl dX10_scan_28 ?_
      refine r_iconst (pc := 31) C (v := 1) dX10_scan_31 (by decide) ?_
      refine r_iadd (pc := 32) C dX10_scan_32 ?_
      obtain ⟨F11, hF11, h⟩ := lt_e h
      refine r_put (pc := 33) C gwX10 tyX10 tyX10_ok nmX10 0 rfl rfl 16 (by decide) wm_5_219 rfl rfl rfl rfl (Nat.le_of_ble_eq_true rfl) (w' := (wMd E a F11)) (by rw [hF11]; rfl) dX10_scan_33 ?_
      refine r_goto (pc := 36) C (tgt := 0) dX10_scan_36 rfl ?_
      refine r_weak (lSub_s lSub_e) ?_
      exact ih F11 q  h hq
    · rw [if_neg c10] at h
      refine r_aload_n (pc := 13) C (i := 0) dX10_scan_13 rfl rfl ?_
      refine r_aload_n (pc := 14) C (i := 0) dX10_scan_14 rfl rfl ?_
      refine r_get (pc := 15) C gwX10 0 rfl rfl 16 (by decide) wm_5_219 rfl dX10_scan_15 ?_
      obtain ⟨q12, hq12, h⟩ := bnd h
      refine r_callVp_CI (Cn := RX10) (pc := 18) C [.int (S 0 8)] (c_X10_byteAt E l k a S (S 0 8) hq12) [0, 1, 2, 3, 4, 5, 6, 7, 8, 9, 10, 11, 12] rfl (by decide) 0 rfl rfl rfl g_X10_358 hd_X10_byteAt ⟨Nat.le_of_ble_eq_true rfl, Nat.le_of_ble_eq_true rfl⟩ ⟨Nat.zero_le _, Nat.zero_le _⟩ (Nat.le_of_ble_eq_true rfl) rfl dX10_scan_18 (fun r hr => ?_)
      have hr := hr.symm
      subst hr
      refine r_bipush (pc := 21) C (v := 10) dX10_scan_21 (by decide) ?_
      refine r_icmp_ne (pc := 23) C (tgt := 39) dX10_scan_23 rfl (fun c13 => ?_) (fun c13 => ?_)
      · rw [if_neg c13] at h
        refine r_aload_n (pc := 39) C (i := 0) dX10_scan_39 rfl rfl ?_
        refine r_aload_n (pc := 40) C (i := 0) dX10_scan_40 rfl rfl ?_
        refine r_get (pc := 41) C gwX10 0 rfl rfl 16 (by decide) wm_5_219 rfl dX10_scan_41 ?_
        obtain ⟨F14, hF14, h⟩ := lt_e h
        refine r_put (pc := 44) C gwX10 tyX10 tyX10_ok nmX10 0 rfl rfl 17 (by decide) wm_5_220 rfl rfl rfl rfl (Nat.le_of_ble_eq_true rfl) (w' := (wMd E a F14)) (by rw [hF14]; rfl) dX10_scan_44 ?_
        refine r_aload_n (pc := 47) C (i := 0) dX10_scan_47 rfl rfl ?_
        refine r_get (pc := 48) C gwX10 0 rfl rfl 16 (by decide) wm_5_219 rfl dX10_scan_48 ?_
        refine r_aload_n (pc := 51) C (i := 0) dX10_scan_51 rfl rfl ?_
        refine r_get (pc := 52) C gwX10 0 rfl rfl 15 (by decide) wm_5_218 rfl dX10_scan_52 ?_
        refine r_icmp_lt (pc := 55) C (tgt := 66) dX10_scan_55 rfl (fun c15 => ?_) (fun c15 => ?_)
        · rw [if_pos c15] at h
          refine r_aload_n (pc := 66) C (i := 0) dX10_scan_66 rfl rfl ?_
          refine r_aload_n (pc := 67) C (i := 0) dX10_scan_67 rfl rfl ?_
          refine r_get (pc := 68) C gwX10 0 rfl rfl 16 (by decide) wm_5_219 rfl dX10_scan_68 ?_
          obtain ⟨q16, hq16, h⟩ := bnd h
          refine r_callVp_CI (Cn := RX10) (pc := 71) C [.int (F14 0 8)] (c_X10_isLetter E l k a F14 (F14 0 8) hq16) [0, 1, 2, 3, 4, 5, 6, 7, 8, 9, 10, 11, 12] rfl (by decide) 0 rfl rfl rfl g_X10_369 hd_X10_isLetter ⟨Nat.le_of_ble_eq_true rfl, Nat.le_of_ble_eq_true rfl⟩ ⟨Nat.zero_le _, Nat.zero_le _⟩ (Nat.le_of_ble_eq_true rfl) rfl dX10_scan_71 (fun r hr => ?_)
          have hr := hr.symm
          subst hr
          refine r_if_eq (pc := 74) C (tgt := 109) dX10_scan_74 rfl (fun c17 => ?_) (fun c17 => ?_)
          · rw [if_pos c17] at h
            refine r_aload_n (pc := 109) C (i := 0) dX10_scan_109 rfl rfl ?_
            refine r_aload_n (pc := 110) C (i := 0) dX10_scan_110 rfl rfl ?_
            refine r_get (pc := 111) C gwX10 0 rfl rfl 16 (by decide) wm_5_219 rfl dX10_scan_111 ?_
            obtain ⟨q18, hq18, h⟩ := bnd h
            refine r_callVp_CI (Cn := RX10) (pc := 114) C [.int (F14 0 8)] (c_X10_isDigit E l k a F14 (F14 0 8) hq18) [0, 1, 2, 3, 4, 5, 6, 7, 8, 9, 10, 11, 12] rfl (by decide) 0 rfl rfl rfl g_X10_372 hd_X10_isDigit ⟨Nat.le_of_ble_eq_true rfl, Nat.le_of_ble_eq_true rfl⟩ ⟨Nat.zero_le _, Nat.zero_le _⟩ (Nat.le_of_ble_eq_true rfl) rfl dX10_scan_114 (fun r hr => ?_)
            have hr := hr.symm
            subst hr
            refine r_if_eq (pc := 117) C (tgt := 152) dX10_scan_117 rfl (fun c19 => ?_) (fun c19 => ?_)
            · rw [if_pos c19] at h
              refine r_aload_n (pc := 152) C (i := 0) dX10_scan_152 rfl rfl ?_
              refine r_dup (pc := 153) C dX10_scan_153 rfl ?_
              refine r_get (pc := 154) C gwX10 0 rfl rfl 16 (by decide) wm_5_219 rfl dX10_scan_154 ?_
              refine r_iconst (pc := 157) C (v := 1) dX10_scan_157 (by decide) ?_
              refine r_iadd (pc := 158) C dX10_scan_158 ?_
              obtain ⟨F20, hF20, h⟩ := lt_e h
              refine r_put (pc := 159) C gwX10 tyX10 tyX10_ok nmX10 0 rfl rfl 16 (by decide) wm_5_219 rfl rfl rfl rfl (Nat.le_of_ble_eq_true rfl) (w' := (wMd E a F20)) (by rw [hF20]; rfl) dX10_scan_159 ?_
              refine r_aload_n (pc := 162) C (i := 0) dX10_scan_162 rfl rfl ?_
              refine r_iconst (pc := 163) C (v := 3) dX10_scan_163 (by decide) ?_
              obtain ⟨F21, hF21, h⟩ := lt_e h
              refine r_put (pc := 164) C gwX10 tyX10 tyX10_ok nmX10 0 rfl rfl 18 (by decide) wm_5_221 rfl rfl rfl rfl (Nat.le_of_ble_eq_true rfl) (w' := (wMd E a F21)) (by rw [hF21]; rfl) dX10_scan_164 ?_
              cases h
              exact r_vret (pc := 167) C hq (Nat.zero_le _) (Nat.zero_le _) dX10_scan_167
            · rw [if_neg c19] at h
              refine r_weak (lSub_s lSub_e) ?_
              exact N_X10_scan_120 C a k k F14 q  h hq
          · rw [if_neg c17] at h
            refine r_weak (lSub_s lSub_e) ?_
            exact N_X10_scan_77 C a k k F14 q  h hq
        · rw [if_neg c15] at h
          refine r_aload_n (pc := 58) C (i := 0) dX10_scan_58 rfl rfl ?_
          refine r_iconst (pc := 59) C (v := 0) dX10_scan_59 (by decide) ?_
          obtain ⟨F22, hF22, h⟩ := lt_e h
          refine r_put (pc := 60) C gwX10 tyX10 tyX10_ok nmX10 0 rfl rfl 18 (by decide) wm_5_221 rfl rfl rfl rfl (Nat.le_of_ble_eq_true rfl) (w' := (wMd E a F22)) (by rw [hF22]; rfl) dX10_scan_60 ?_
          refine r_goto (pc := 63) C (tgt := 167) dX10_scan_63 rfl ?_
          cases h
          exact r_vret (pc := 167) C hq (Nat.zero_le _) (Nat.zero_le _) dX10_scan_167
      · rw [if_pos c13] at h
        refine r_aload_n (pc := 26) C (i := 0) dX10_scan_26 rfl rfl ?_
        refine r_dup (pc := 27) C dX10_scan_27 rfl ?_
        refine r_get (pc := 28) C gwX10 0 rfl rfl 16 (by decide) wm_5_219 rfl dX10_scan_28 ?_
        refine r_iconst (pc := 31) C (v := 1) dX10_scan_31 (by decide) ?_
        refine r_iadd (pc := 32) C dX10_scan_32 ?_
        obtain ⟨F23, hF23, h⟩ := lt_e h
        refine r_put (pc := 33) C gwX10 tyX10 tyX10_ok nmX10 0 rfl rfl 16 (by decide) wm_5_219 rfl rfl rfl rfl (Nat.le_of_ble_eq_true rfl) (w' := (wMd E a F23)) (by rw [hF23]; rfl) dX10_scan_33 ?_
        refine r_goto (pc := 36) C (tgt := 0) dX10_scan_36 rfl ?_
        refine r_weak (lSub_s lSub_e) ?_
        exact ih F23 q  h hq
def M_X10_scan (k : Nat) (S : Nat → Nat → Int32) : Option ((Nat → Nat → Int32)) := M_X10_scan_0 k k S
set_option maxRecDepth 100000 in
set_option maxHeartbeats 4000000 in
theorem c_X10_scan (E : ENV) (l : Launch) (k : Nat) (a : Nat → Nat) (S : Nat → Nat → Int32) {q : (Nat → Nat → Int32)} (hm : M_X10_scan k S = some q) : CV E l yX10_scan cX10_scan 1 none rm_X10_scan [.ref (a 0)] (wMd E a S) (fun w' => w' = (wMd E a q)) :=
  CV.of 0 (by decide) (Nat.le_of_ble_eq_true rfl) (fun p e s m below meth c A C _ => r_weak (lSub_s lSub_e) (N_X10_scan_0 C a k k S q  hm rfl))
theorem hd_X10_scan : yX10_scan.cls = RX10 ∧ yX10_scan.cls ≠ "java/lang/invoke/MethodHandle" ∧ yX10_scan.cls ≠ "java/lang/invoke/VarHandle" ∧ (parseMethodDescriptor yX10_scan.desc).map (fun d => d.parameters.length) = some 0 := by decide +kernel
theorem g_X10_381 : GoodIn GW (wsV RX10 381 RX10 yX10_scan (wsG yX10_scan cX10_scan 1 none)) := gw_V wm_7_223 wm_7_225 wm_0_79 wm_1_9 wm_7_226
-- ShardGuardModel.startText(I)V
theorem dX10_startText_0 : decode cX10_startText 0 = .ok (.aload_n 0, 1) := by decide +kernel
theorem dX10_startText_1 : decode cX10_startText 1 = .ok (.iload_n 1, 1) := by decide +kernel
theorem dX10_startText_2 : decode cX10_startText 2 = .ok (.putfield 356, 3) := by decide +kernel
theorem dX10_startText_5 : decode cX10_startText 5 = .ok (.aload_n 0, 1) := by decide +kernel
theorem dX10_startText_6 : decode cX10_startText 6 = .ok (.iconst 0, 1) := by decide +kernel
theorem dX10_startText_7 : decode cX10_startText 7 = .ok (.putfield 361, 3) := by decide +kernel
theorem dX10_startText_10 : decode cX10_startText 10 = .ok (.aload_n 0, 1) := by decide +kernel
theorem dX10_startText_11 : decode cX10_startText 11 = .ok (.iconst 0, 1) := by decide +kernel
theorem dX10_startText_12 : decode cX10_startText 12 = .ok (.putfield 375, 3) := by decide +kernel
theorem dX10_startText_15 : decode cX10_startText 15 = .ok (.aload_n 0, 1) := by decide +kernel
theorem dX10_startText_16 : decode cX10_startText 16 = .ok (.iconst 0, 1) := by decide +kernel
theorem dX10_startText_17 : decode cX10_startText 17 = .ok (.putfield 378, 3) := by decide +kernel
theorem dX10_startText_20 : decode cX10_startText 20 = .ok (.aload_n 0, 1) := by decide +kernel
theorem dX10_startText_21 : decode cX10_startText 21 = .ok (.invokevirtual 381, 3) := by decide +kernel
theorem dX10_startText_24 : decode cX10_startText 24 = .ok (.return_, 1) := by decide +kernel
def rm_X10_startText : Room := { frames := 3, cells := 0, slots := 0, locals := 62 }
def M_X10_startText_0 (k : Nat) (p0 : Int32) (S : Nat → Nat → Int32) : Option ((Nat → Nat → Int32)) := lt (va_up S 0 (upd (S 0) 7 p0)) fun F1 => lt (va_up F1 0 (upd (F1 0) 8 (0 : Int32))) fun F2 => lt (va_up F2 0 (upd (F2 0) 11 (0 : Int32))) fun F3 => lt (va_up F3 0 (upd (F3 0) 14 (0 : Int32))) fun F4 => (M_X10_scan k F4).bind fun q5 => some q5
set_option maxRecDepth 100000 in
set_option maxHeartbeats 4000000 in
theorem N_X10_startText_0 (C : CX E p l s m args meth c cX10_startText 2 RX10 none A) (a : Nat → Nat) (k : Nat) {post : va_W → Prop} :
    ∀ (p0 : Int32) (S : Nat → Nat → Int32) (q : (Nat → Nat → Int32)), M_X10_startText_0 k p0 S = some q → post (wMd E a q) →
      WW E p l e rm_X10_startText s m args below meth c A 0 0 (QV E below post args s rm_X10_startText A) (wMd E a S) 2 [some (.ref (a 0)), some (.int p0)] 0 [] := by
  intro p0 S q  h hq
  unfold M_X10_startText_0 at h
  refine r_aload_n (pc := 0) C (i := 0) dX10_startText_0 rfl rfl ?_
  refine r_iload_n (pc := 1) C (i := 1) dX10_startText_1 rfl rfl ?_
  obtain ⟨F1, hF1, h⟩ := lt_e h
  refine r_put (pc := 2) C gwX10 tyX10 tyX10_ok nmX10 0 rfl rfl 15 (by decide) wm_5_218 rfl rfl rfl rfl (Nat.le_of_ble_eq_true rfl) (w' := (wMd E a F1)) (by rw [hF1]; rfl) dX10_startText_2 ?_
  refine r_aload_n (pc := 5) C (i := 0) dX10_startText_5 rfl rfl ?_
  refine r_iconst (pc := 6) C (v := 0) dX10_startText_6 (by decide) ?_
  obtain ⟨F2, hF2, h⟩ := lt_e h
  refine r_put (pc := 7) C gwX10 tyX10 tyX10_ok nmX10 0 rfl rfl 16 (by decide) wm_5_219 rfl rfl rfl rfl (Nat.le_of_ble_eq_true rfl) (w' := (wMd E a F2)) (by rw [hF2]; rfl) dX10_startText_7 ?_
  refine r_aload_n (pc := 10) C (i := 0) dX10_startText_10 rfl rfl ?_
  refine r_iconst (pc := 11) C (v := 0) dX10_startText_11 (by decide) ?_
  obtain ⟨F3, hF3, h⟩ := lt_e h
  refine r_put (pc := 12) C gwX10 tyX10 tyX10_ok nmX10 0 rfl rfl 19 (by decide) wm_5_222 rfl rfl rfl rfl (Nat.le_of_ble_eq_true rfl) (w' := (wMd E a F3)) (by rw [hF3]; rfl) dX10_startText_12 ?_
  refine r_aload_n (pc := 15) C (i := 0) dX10_startText_15 rfl rfl ?_
  refine r_iconst (pc := 16) C (v := 0) dX10_startText_16 (by decide) ?_
  obtain ⟨F4, hF4, h⟩ := lt_e h
  refine r_put (pc := 17) C gwX10 tyX10 tyX10_ok nmX10 0 rfl rfl 22 (by decide) wm_5_225 rfl rfl rfl rfl (Nat.le_of_ble_eq_true rfl) (w' := (wMd E a F4)) (by rw [hF4]; rfl) dX10_startText_17 ?_
  refine r_aload_n (pc := 20) C (i := 0) dX10_startText_20 rfl rfl ?_
  obtain ⟨q5, hq5, h⟩ := bnd h
  refine r_callV_CV (Cn := RX10) (pc := 21) C [] (c_X10_scan E l k a F4 hq5) [0, 1, 2, 3, 4, 5, 6, 7, 8, 9, 10, 11, 12] rfl (by decide) 0 rfl rfl rfl g_X10_381 hd_X10_scan ⟨Nat.le_of_ble_eq_true rfl, Nat.le_of_ble_eq_true rfl⟩ ⟨Nat.zero_le _, Nat.zero_le _⟩ (Nat.le_of_ble_eq_true rfl) rfl dX10_startText_21 (fun w1 hw1 => ?_)
  subst hw1
  refine ⟨(wMd E a q5), by rfl, ?_⟩
  cases h
  exact r_vret (pc := 24) C hq (Nat.zero_le _) (Nat.zero_le _) dX10_startText_24
def M_X10_startText (k : Nat) (S : Nat → Nat → Int32) (p0 : Int32) : Option ((Nat → Nat → Int32)) := M_X10_startText_0 k p0 S
set_option maxRecDepth 100000 in
set_option maxHeartbeats 4000000 in
theorem c_X10_startText (E : ENV) (l : Launch) (k : Nat) (a : Nat → Nat) (S : Nat → Nat → Int32) (p0 : Int32) {q : (Nat → Nat → Int32)} (hm : M_X10_startText k S p0 = some q) : CV E l yX10_startText cX10_startText 2 none rm_X10_startText [.ref (a 0), .int p0] (wMd E a S) (fun w' => w' = (wMd E a q)) :=
  CV.of 0 (by decide) (Nat.le_of_ble_eq_true rfl) (fun p e s m below meth c A C _ => r_weak (lSub_s (lSub_s lSub_e)) (N_X10_startText_0 C a k p0 S q  hm rfl))
-- ShardGuardModel.finish()I
theorem dX10_finish__0 : decode cX10_finish_ 0 = .ok (.aload_n 0, 1) := by decide +kernel
theorem dX10_finish__1 : decode cX10_finish_ 1 = .ok (.iconst 0, 1) := by decide +kernel
theorem dX10_finish__2 : decode cX10_finish_ 2 = .ok (.putfield 353, 3) := by decide +kernel
theorem dX10_finish__5 : decode cX10_finish_ 5 = .ok (.aload_n 0, 1) := by decide +kernel
theorem dX10_finish__6 : decode cX10_finish_ 6 = .ok (.aload_n 0, 1) := by decide +kernel
theorem dX10_finish__7 : decode cX10_finish_ 7 = .ok (.getfield 375, 3) := by decide +kernel
theorem dX10_finish__10 : decode cX10_finish_ 10 = .ok (.ifCond .ne 7, 3) := by decide +kernel
theorem dX10_finish__13 : decode cX10_finish_ 13 = .ok (.iconst (-1), 1) := by decide +kernel
theorem dX10_finish__14 : decode cX10_finish_ 14 = .ok (.goto 7, 3) := by decide +kernel
theorem dX10_finish__17 : decode cX10_finish_ 17 = .ok (.aload_n 0, 1) := by decide +kernel
theorem dX10_finish__18 : decode cX10_finish_ 18 = .ok (.getfield 384, 3) := by decide +kernel
theorem dX10_finish__21 : decode cX10_finish_ 21 = .ok (.putfield 37, 3) := by decide +kernel
theorem dX10_finish__24 : decode cX10_finish_ 24 = .ok (.aload_n 0, 1) := by decide +kernel
theorem dX10_finish__25 : decode cX10_finish_ 25 = .ok (.getfield 375, 3) := by decide +kernel
theorem dX10_finish__28 : decode cX10_finish_ 28 = .ok (.ireturn, 1) := by decide +kernel
def rm_X10_finish_ : Room := { frames := 0, cells := 0, slots := 0, locals := 0 }
def M_X10_finish__0 (k : Nat) (S : Nat → Nat → Int32) : Option (Int32 × (Nat → Nat → Int32)) := lt (va_up S 0 (upd (S 0) 6 (0 : Int32))) fun F1 => if (F1 0 11) = 0 then (lt (va_up F1 0 (upd (F1 0) 13 (-1 : Int32))) fun F4 => some ((F4 0 11), F4)) else (lt (va_up F1 0 (upd (F1 0) 13 (F1 0 12))) fun F3 => some ((F3 0 11), F3))
set_option maxRecDepth 100000 in
set_option maxHeartbeats 4000000 in
theorem N_X10_finish__0 (C : CX E p l s m args meth c cX10_finish_ 1 RX10 (some .int) A) (a : Nat → Nat) (k : Nat) {post : Int32 → va_W → Prop} :
    ∀ (S : Nat → Nat → Int32) (q : Int32 × (Nat → Nat → Int32)), M_X10_finish__0 k S = some q → post q.1 (wMd E a q.2) →
      WW E p l e rm_X10_finish_ s m args below meth c A 0 0 (QI E below post args s rm_X10_finish_ A) (wMd E a S) 1 [some (.ref (a 0))] 0 [] := by
  intro S q  h hq
  unfold M_X10_finish__0 at h
  refine r_aload_n (pc := 0) C (i := 0) dX10_finish__0 rfl rfl ?_
  refine r_iconst (pc := 1) C (v := 0) dX10_finish__1 (by decide) ?_
  obtain ⟨F1, hF1, h⟩ := lt_e h
  refine r_put (pc := 2) C gwX10 tyX10 tyX10_ok nmX10 0 rfl rfl 14 (by decide) wm_5_217 rfl rfl rfl rfl (Nat.le_of_ble_eq_true rfl) (w' := (wMd E a F1)) (by rw [hF1]; rfl) dX10_finish__2 ?_
  refine r_aload_n (pc := 5) C (i := 0) dX10_finish__5 rfl rfl ?_
  refine r_aload_n (pc := 6) C (i := 0) dX10_finish__6 rfl rfl ?_
  refine r_get (pc := 7) C gwX10 0 rfl rfl 19 (by decide) wm_5_222 rfl dX10_finish__7 ?_
  refine r_if_ne (pc := 10) C (tgt := 17) dX10_finish__10 rfl (fun c2 => ?_) (fun c2 => ?_)
  · rw [if_neg c2] at h
    refine r_aload_n (pc := 17) C (i := 0) dX10_finish__17 rfl rfl ?_
    refine r_get (pc := 18) C gwX10 0 rfl rfl 20 (by decide) wm_5_223 rfl dX10_finish__18 ?_
    obtain ⟨F3, hF3, h⟩ := lt_e h
    refine r_put (pc := 21) C gwX10 tyX10 tyX10_ok nmX10 0 rfl rfl 21 (by decide) wm_5_224 rfl rfl rfl rfl (Nat.le_of_ble_eq_true rfl) (w' := (wMd E a F3)) (by rw [hF3]; rfl) dX10_finish__21 ?_
    refine r_aload_n (pc := 24) C (i := 0) dX10_finish__24 rfl rfl ?_
    refine r_get (pc := 25) C gwX10 0 rfl rfl 19 (by decide) wm_5_222 rfl dX10_finish__25 ?_
    cases h
    exact r_ireti (pc := 28) C hq (Nat.zero_le _) (Nat.zero_le _) dX10_finish__28
  · rw [if_pos c2] at h
    refine r_iconst (pc := 13) C (v := (-1)) dX10_finish__13 (by decide) ?_
    refine r_goto (pc := 14) C (tgt := 21) dX10_finish__14 rfl ?_
    obtain ⟨F4, hF4, h⟩ := lt_e h
    refine r_put (pc := 21) C gwX10 tyX10 tyX10_ok nmX10 0 rfl rfl 21 (by decide) wm_5_224 rfl rfl rfl rfl (Nat.le_of_ble_eq_true rfl) (w' := (wMd E a F4)) (by rw [hF4]; rfl) dX10_finish__21 ?_
    refine r_aload_n (pc := 24) C (i := 0) dX10_finish__24 rfl rfl ?_
    refine r_get (pc := 25) C gwX10 0 rfl rfl 19 (by decide) wm_5_222 rfl dX10_finish__25 ?_
    cases h
    exact r_ireti (pc := 28) C hq (Nat.zero_le _) (Nat.zero_le _) dX10_finish__28
def M_X10_finish_ (k : Nat) (S : Nat → Nat → Int32) : Option (Int32 × (Nat → Nat → Int32)) := M_X10_finish__0 k S
set_option maxRecDepth 100000 in
set_option maxHeartbeats 4000000 in
theorem c_X10_finish_ (E : ENV) (l : Launch) (k : Nat) (a : Nat → Nat) (S : Nat → Nat → Int32) {q : Int32 × (Nat → Nat → Int32)} (hm : M_X10_finish_ k S = some q) : CI E l yX10_finish_ cX10_finish_ 1 (some .int) rm_X10_finish_ [.ref (a 0)] (wMd E a S) (fun r w' => r = q.1 ∧ w' = (wMd E a q.2)) :=
  CI.of 0 (by decide) (Nat.le_of_ble_eq_true rfl) (fun p e s m below meth c A C _ => r_weak (lSub_s lSub_e) (N_X10_finish__0 C a k S q  hm ⟨rfl, rfl⟩))
-- ShardGuardModel.flaw(I)V
theorem dX10_flaw_0 : decode cX10_flaw 0 = .ok (.aload_n 0, 1) := by decide +kernel
theorem dX10_flaw_1 : decode cX10_flaw 1 = .ok (.getfield 375, 3) := by decide +kernel
theorem dX10_flaw_4 : decode cX10_flaw 4 = .ok (.ifCond .ne 16, 3) := by decide +kernel
theorem dX10_flaw_7 : decode cX10_flaw 7 = .ok (.aload_n 0, 1) := by decide +kernel
theorem dX10_flaw_8 : decode cX10_flaw 8 = .ok (.iload_n 1, 1) := by decide +kernel
theorem dX10_flaw_9 : decode cX10_flaw 9 = .ok (.putfield 375, 3) := by decide +kernel
theorem dX10_flaw_12 : decode cX10_flaw 12 = .ok (.aload_n 0, 1) := by decide +kernel
theorem dX10_flaw_13 : decode cX10_flaw 13 = .ok (.aload_n 0, 1) := by decide +kernel
theorem dX10_flaw_14 : decode cX10_flaw 14 = .ok (.getfield 363, 3) := by decide +kernel
theorem dX10_flaw_17 : decode cX10_flaw 17 = .ok (.putfield 384, 3) := by decide +kernel
theorem dX10_flaw_20 : decode cX10_flaw 20 = .ok (.return_, 1) := by decide +kernel
def rm_X10_flaw : Room := { frames := 0, cells := 0, slots := 0, locals := 0 }
def M_X10_flaw_0 (k : Nat) (p0 : Int32) (S : Nat → Nat → Int32) : Option ((Nat → Nat → Int32)) := if (S 0 11) = 0 then (lt (va_up S 0 (upd (S 0) 11 p0)) fun F2 => lt (va_up F2 0 (upd (F2 0) 12 (F2 0 9))) fun F3 => some F3) else (some S)
set_option maxRecDepth 100000 in
set_option maxHeartbeats 4000000 in
theorem N_X10_flaw_0 (C : CX E p l s m args meth c cX10_flaw 2 RX10 none A) (a : Nat → Nat) (k : Nat) {post : va_W → Prop} :
    ∀ (p0 : Int32) (S : Nat → Nat → Int32) (q : (Nat → Nat → Int32)), M_X10_flaw_0 k p0 S = some q → post (wMd E a q) →
      WW E p l e rm_X10_flaw s m args below meth c A 0 0 (QV E below post args s rm_X10_flaw A) (wMd E a S) 2 [some (.ref (a 0)), some (.int p0)] 0 [] := by
  intro p0 S q  h hq
  unfold M_X10_flaw_0 at h
  refine r_aload_n (pc := 0) C (i := 0) dX10_flaw_0 rfl rfl ?_
  refine r_get (pc := 1) C gwX10 0 rfl rfl 19 (by decide) wm_5_222 rfl dX10_flaw_1 ?_
  refine r_if_ne (pc := 4) C (tgt := 20) dX10_flaw_4 rfl (fun c1 => ?_) (fun c1 => ?_)
  · rw [if_neg c1] at h
    cases h
    exact r_vret (pc := 20) C hq (Nat.zero_le _) (Nat.zero_le _) dX10_flaw_20
  · rw [if_pos c1] at h
    refine r_aload_n (pc := 7) C (i := 0) dX10_flaw_7 rfl rfl ?_
    refine r_iload_n (pc := 8) C (i := 1) dX10_flaw_8 rfl rfl ?_
    obtain ⟨F2, hF2, h⟩ := lt_e h
    refine r_put (pc := 9) C gwX10 tyX10 tyX10_ok nmX10 0 rfl rfl 19 (by decide) wm_5_222 rfl rfl rfl rfl (Nat.le_of_ble_eq_true rfl) (w' := (wMd E a F2)) (by rw [hF2]; rfl) dX10_flaw_9 ?_
    refine r_aload_n (pc := 12) C (i := 0) dX10_flaw_12 rfl rfl ?_
    refine r_aload_n (pc := 13) C (i := 0) dX10_flaw_13 rfl rfl ?_
    refine r_get (pc := 14) C gwX10 0 rfl rfl 17 (by decide) wm_5_220 rfl dX10_flaw_14 ?_
    obtain ⟨F3, hF3, h⟩ := lt_e h
    refine r_put (pc := 17) C gwX10 tyX10 tyX10_ok nmX10 0 rfl rfl 20 (by decide) wm_5_223 rfl rfl rfl rfl (Nat.le_of_ble_eq_true rfl) (w' := (wMd E a F3)) (by rw [hF3]; rfl) dX10_flaw_17 ?_
    cases h
    exact r_vret (pc := 20) C hq (Nat.zero_le _) (Nat.zero_le _) dX10_flaw_20
def M_X10_flaw (k : Nat) (S : Nat → Nat → Int32) (p0 : Int32) : Option ((Nat → Nat → Int32)) := M_X10_flaw_0 k p0 S
set_option maxRecDepth 100000 in
set_option maxHeartbeats 4000000 in
theorem c_X10_flaw (E : ENV) (l : Launch) (k : Nat) (a : Nat → Nat) (S : Nat → Nat → Int32) (p0 : Int32) {q : (Nat → Nat → Int32)} (hm : M_X10_flaw k S p0 = some q) : CV E l yX10_flaw cX10_flaw 2 none rm_X10_flaw [.ref (a 0), .int p0] (wMd E a S) (fun w' => w' = (wMd E a q)) :=
  CV.of 0 (by decide) (Nat.le_of_ble_eq_true rfl) (fun p e s m below meth c A C _ => r_weak (lSub_s (lSub_s lSub_e)) (N_X10_flaw_0 C a k p0 S q  hm rfl))
theorem hd_X10_flaw : yX10_flaw.cls = RX10 ∧ yX10_flaw.cls ≠ "java/lang/invoke/MethodHandle" ∧ yX10_flaw.cls ≠ "java/lang/invoke/VarHandle" ∧ (parseMethodDescriptor yX10_flaw.desc).map (fun d => d.parameters.length) = some 1 := by decide +kernel
theorem g_X10_387 : GoodIn GW (wsV RX10 387 RX10 yX10_flaw (wsG yX10_flaw cX10_flaw 2 none)) := gw_V wm_8_16 wm_8_18 wm_0_87 wm_1_9 wm_8_19
-- ShardGuardModel.check(ZI)V
theorem dX10_check_0 : decode cX10_check 0 = .ok (.iload_n 1, 1) := by decide +kernel
theorem dX10_check_1 : decode cX10_check 1 = .ok (.ifCond .ne 8, 3) := by decide +kernel
theorem dX10_check_4 : decode cX10_check 4 = .ok (.aload_n 0, 1) := by decide +kernel
theorem dX10_check_5 : decode cX10_check 5 = .ok (.iload_n 2, 1) := by decide +kernel
theorem dX10_check_6 : decode cX10_check 6 = .ok (.invokevirtual 387, 3) := by decide +kernel
theorem dX10_check_9 : decode cX10_check 9 = .ok (.return_, 1) := by decide +kernel
def rm_X10_check : Room := { frames := 1, cells := 0, slots := 0, locals := 21 }
def M_X10_check_0 (k : Nat) (p0 : Int32) (p1 : Int32) (S : Nat → Nat → Int32) : Option ((Nat → Nat → Int32)) := if p0 = 0 then ((M_X10_flaw k S p1).bind fun q2 => some q2) else (some S)
set_option maxRecDepth 100000 in
set_option maxHeartbeats 4000000 in
theorem N_X10_check_0 (C : CX E p l s m args meth c cX10_check 3 RX10 none A) (a : Nat → Nat) (k : Nat) {post : va_W → Prop} :
    ∀ (p0 : Int32) (p1 : Int32) (S : Nat → Nat → Int32) (q : (Nat → Nat → Int32)), M_X10_check_0 k p0 p1 S = some q → post (wMd E a q) →
      WW E p l e rm_X10_check s m args below meth c A 0 0 (QV E below post args s rm_X10_check A) (wMd E a S) 3 [some (.ref (a 0)), some (.int p0), some (.int p1)] 0 [] := by
  intro p0 p1 S q  h hq
  unfold M_X10_check_0 at h
  refine r_iload_n (pc := 0) C (i := 1) dX10_check_0 rfl rfl ?_
  refine r_if_ne (pc := 1) C (tgt := 9) dX10_check_1 rfl (fun c1 => ?_) (fun c1 => ?_)
  · rw [if_neg c1] at h
    cases h
    exact r_vret (pc := 9) C hq (Nat.zero_le _) (Nat.zero_le _) dX10_check_9
  · rw [if_pos c1] at h
    refine r_aload_n (pc := 4) C (i := 0) dX10_check_4 rfl rfl ?_
    refine r_iload_n (pc := 5) C (i := 2) dX10_check_5 rfl rfl ?_
    obtain ⟨q2, hq2, h⟩ := bnd h
    refine r_callV_CV (Cn := RX10) (pc := 6) C [.int p1] (c_X10_flaw E l k a S p1 hq2) [0, 1, 2, 3, 4, 5, 6, 7, 8, 9, 10, 11, 12] rfl (by decide) 0 rfl rfl rfl g_X10_387 hd_X10_flaw ⟨Nat.le_of_ble_eq_true rfl, Nat.le_of_ble_eq_true rfl⟩ ⟨Nat.zero_le _, Nat.zero_le _⟩ (Nat.le_of_ble_eq_true rfl) rfl dX10_check_6 (fun w1 hw1 => ?_)
    subst hw1
    refine ⟨(wMd E a q2), by rfl, ?_⟩
    cases h
    exact r_vret (pc := 9) C hq (Nat.zero_le _) (Nat.zero_le _) dX10_check_9
def M_X10_check (k : Nat) (S : Nat → Nat → Int32) (p0 : Int32) (p1 : Int32) : Option ((Nat → Nat → Int32)) := M_X10_check_0 k p0 p1 S
set_option maxRecDepth 100000 in
set_option maxHeartbeats 4000000 in
theorem c_X10_check (E : ENV) (l : Launch) (k : Nat) (a : Nat → Nat) (S : Nat → Nat → Int32) (p0 : Int32) (p1 : Int32) {q : (Nat → Nat → Int32)} (hm : M_X10_check k S p0 p1 = some q) : CV E l yX10_check cX10_check 3 none rm_X10_check [.ref (a 0), .int p0, .int p1] (wMd E a S) (fun w' => w' = (wMd E a q)) :=
  CV.of 0 (by decide) (Nat.le_of_ble_eq_true rfl) (fun p e s m below meth c A C _ => r_weak (lSub_s (lSub_s (lSub_s lSub_e))) (N_X10_check_0 C a k p0 p1 S q  hm rfl))
-- ShardGuardModel.advance()V
theorem dX10_advance_0 : decode cX10_advance 0 = .ok (.aload_n 0, 1) := by decide +kernel
theorem dX10_advance_1 : decode cX10_advance 1 = .ok (.getfield 375, 3) := by decide +kernel
theorem dX10_advance_4 : decode cX10_advance 4 = .ok (.ifCond .ne 7, 3) := by decide +kernel
theorem dX10_advance_7 : decode cX10_advance 7 = .ok (.aload_n 0, 1) := by decide +kernel
theorem dX10_advance_8 : decode cX10_advance 8 = .ok (.invokevirtual 381, 3) := by decide +kernel
theorem dX10_advance_11 : decode cX10_advance 11 = .ok (.return_, 1) := by decide +kernel
def rm_X10_advance : Room := { frames := 3, cells := 0, slots := 0, locals := 62 }
def M_X10_advance_0 (k : Nat) (S : Nat → Nat → Int32) : Option ((Nat → Nat → Int32)) := if (S 0 11) = 0 then ((M_X10_scan k S).bind fun q2 => some q2) else (some S)
set_option maxRecDepth 100000 in
set_option maxHeartbeats 4000000 in
theorem N_X10_advance_0 (C : CX E p l s m args meth c cX10_advance 1 RX10 none A) (a : Nat → Nat) (k : Nat) {post : va_W → Prop} :
    ∀ (S : Nat → Nat → Int32) (q : (Nat → Nat → Int32)), M_X10_advance_0 k S = some q → post (wMd E a q) →
      WW E p l e rm_X10_advance s m args below meth c A 0 0 (QV E below post args s rm_X10_advance A) (wMd E a S) 1 [some (.ref (a 0))] 0 [] := by
  intro S q  h hq
  unfold M_X10_advance_0 at h
  refine r_aload_n (pc := 0) C (i := 0) dX10_advance_0 rfl rfl ?_
  refine r_get (pc := 1) C gwX10 0 rfl rfl 19 (by decide) wm_5_222 rfl dX10_advance_1 ?_
  refine r_if_ne (pc := 4) C (tgt := 11) dX10_advance_4 rfl (fun c1 => ?_) (fun c1 => ?_)
  · rw [if_neg c1] at h
    cases h
    exact r_vret (pc := 11) C hq (Nat.zero_le _) (Nat.zero_le _) dX10_advance_11
  · rw [if_pos c1] at h
    refine r_aload_n (pc := 7) C (i := 0) dX10_advance_7 rfl rfl ?_
    obtain ⟨q2, hq2, h⟩ := bnd h
    refine r_callV_CV (Cn := RX10) (pc := 8) C [] (c_X10_scan E l k a S hq2) [0, 1, 2, 3, 4, 5, 6, 7, 8, 9, 10, 11, 12] rfl (by decide) 0 rfl rfl rfl g_X10_381 hd_X10_scan ⟨Nat.le_of_ble_eq_true rfl, Nat.le_of_ble_eq_true rfl⟩ ⟨Nat.zero_le _, Nat.zero_le _⟩ (Nat.le_of_ble_eq_true rfl) rfl dX10_advance_8 (fun w1 hw1 => ?_)
    subst hw1
    refine ⟨(wMd E a q2), by rfl, ?_⟩
    cases h
    exact r_vret (pc := 11) C hq (Nat.zero_le _) (Nat.zero_le _) dX10_advance_11
def M_X10_advance (k : Nat) (S : Nat → Nat → Int32) : Option ((Nat → Nat → Int32)) := M_X10_advance_0 k S
set_option maxRecDepth 100000 in
set_option maxHeartbeats 4000000 in
theorem c_X10_advance (E : ENV) (l : Launch) (k : Nat) (a : Nat → Nat) (S : Nat → Nat → Int32) {q : (Nat → Nat → Int32)} (hm : M_X10_advance k S = some q) : CV E l yX10_advance cX10_advance 1 none rm_X10_advance [.ref (a 0)] (wMd E a S) (fun w' => w' = (wMd E a q)) :=
  CV.of 0 (by decide) (Nat.le_of_ble_eq_true rfl) (fun p e s m below meth c A C _ => r_weak (lSub_s lSub_e) (N_X10_advance_0 C a k S q  hm rfl))
end WALKS
