section WALKS
variable {E : ENV} {p : Program} {l : Launch} {e : Env} {s : State} {m : MethodId} {args : Array Value} {below : List Frame} {meth : Method} {c : Code} {A : Nat → Prop}
theorem hd_X10_holdsFor : yX10_holdsFor.cls = RX10 ∧ yX10_holdsFor.cls ≠ "java/lang/invoke/MethodHandle" ∧ yX10_holdsFor.cls ≠ "java/lang/invoke/VarHandle" ∧ (parseMethodDescriptor yX10_holdsFor.desc).map (fun d => d.parameters.length) = some 1 := by decide +kernel
theorem g_X10_490 : GoodIn GW (wsV RX10 490 RX10 yX10_holdsFor (wsG yX10_holdsFor cX10_holdsFor 5 (some .boolean))) := gw_V wm_8_105 wm_8_107 wm_0_105 wm_1_9 wm_8_108
-- ShardGuardModel.query(I)I
theorem dX10_query_0 : decode cX10_query 0 = .ok (.aload_n 0, 1) := by decide +kernel
theorem dX10_query_1 : decode cX10_query 1 = .ok (.iconst 0, 1) := by decide +kernel
theorem dX10_query_2 : decode cX10_query 2 = .ok (.putfield 93, 3) := by decide +kernel
theorem dX10_query_5 : decode cX10_query 5 = .ok (.iload_n 1, 1) := by decide +kernel
theorem dX10_query_6 : decode cX10_query 6 = .ok (.iconst 0, 1) := by decide +kernel
theorem dX10_query_7 : decode cX10_query 7 = .ok (.aload_n 0, 1) := by decide +kernel
theorem dX10_query_8 : decode cX10_query 8 = .ok (.getfield 353, 3) := by decide +kernel
theorem dX10_query_11 : decode cX10_query 11 = .ok (.sipush 200, 3) := by decide +kernel
theorem dX10_query_14 : decode cX10_query 14 = .ok (.invokestatic 300, 3) := by decide +kernel
theorem dX10_query_17 : decode cX10_query 17 = .ok (.invokestatic 110, 3) := by decide +kernel
theorem dX10_query_20 : decode cX10_query 20 = .ok (.ifCond .ne 9, 3) := by decide +kernel
theorem dX10_query_23 : decode cX10_query 23 = .ok (.aload_n 0, 1) := by decide +kernel
theorem dX10_query_24 : decode cX10_query 24 = .ok (.iconst 1, 1) := by decide +kernel
theorem dX10_query_25 : decode cX10_query 25 = .ok (.invokevirtual 267, 3) := by decide +kernel
theorem dX10_query_28 : decode cX10_query 28 = .ok (.ireturn, 1) := by decide +kernel
theorem dX10_query_29 : decode cX10_query 29 = .ok (.aload_n 0, 1) := by decide +kernel
theorem dX10_query_30 : decode cX10_query 30 = .ok (.iconst 0, 1) := by decide +kernel
theorem dX10_query_31 : decode cX10_query 31 = .ok (.putfield 451, 3) := by decide +kernel
theorem dX10_query_34 : decode cX10_query 34 = .ok (.aload_n 0, 1) := by decide +kernel
theorem dX10_query_35 : decode cX10_query 35 = .ok (.iload_n 1, 1) := by decide +kernel
theorem dX10_query_36 : decode cX10_query 36 = .ok (.invokevirtual 443, 3) := by decide +kernel
theorem dX10_query_39 : decode cX10_query 39 = .ok (.aload_n 0, 1) := by decide +kernel
theorem dX10_query_40 : decode cX10_query 40 = .ok (.ldc_w 485, 3) := by decide +kernel
theorem dX10_query_43 : decode cX10_query 43 = .ok (.invokevirtual 390, 3) := by decide +kernel
theorem dX10_query_46 : decode cX10_query 46 = .ok (.istore_n 2, 1) := by decide +kernel
theorem dX10_query_47 : decode cX10_query 47 = .ok (.aload_n 0, 1) := by decide +kernel
theorem dX10_query_48 : decode cX10_query 48 = .ok (.iload_n 2, 1) := by decide +kernel
theorem dX10_query_49 : decode cX10_query 49 = .ok (.ifCond .ne 13, 3) := by decide +kernel
theorem dX10_query_52 : decode cX10_query 52 = .ok (.aload_n 0, 1) := by decide +kernel
theorem dX10_query_53 : decode cX10_query 53 = .ok (.ldc_w 487, 3) := by decide +kernel
theorem dX10_query_56 : decode cX10_query 56 = .ok (.invokevirtual 390, 3) := by decide +kernel
theorem dX10_query_59 : decode cX10_query 59 = .ok (.ifCond .eq 7, 3) := by decide +kernel
theorem dX10_query_62 : decode cX10_query 62 = .ok (.iconst 1, 1) := by decide +kernel
theorem dX10_query_63 : decode cX10_query 63 = .ok (.goto 4, 3) := by decide +kernel
theorem dX10_query_66 : decode cX10_query 66 = .ok (.iconst 0, 1) := by decide +kernel
theorem dX10_query_67 : decode cX10_query 67 = .ok (.iconst 1, 1) := by decide +kernel
theorem dX10_query_68 : decode cX10_query 68 = .ok (.invokevirtual 394, 3) := by decide +kernel
theorem dX10_query_71 : decode cX10_query 71 = .ok (.aload_n 0, 1) := by decide +kernel
theorem dX10_query_72 : decode cX10_query 72 = .ok (.invokevirtual 398, 3) := by decide +kernel
theorem dX10_query_75 : decode cX10_query 75 = .ok (.aload_n 0, 1) := by decide +kernel
theorem dX10_query_76 : decode cX10_query 76 = .ok (.invokevirtual 465, 3) := by decide +kernel
theorem dX10_query_79 : decode cX10_query 79 = .ok (.aload_n 0, 1) := by decide +kernel
theorem dX10_query_80 : decode cX10_query 80 = .ok (.aload_n 0, 1) := by decide +kernel
theorem dX10_query_81 : decode cX10_query 81 = .ok (.getfield 375, 3) := by decide +kernel
theorem dX10_query_84 : decode cX10_query 84 = .ok (.ifCond .ne 10, 3) := by decide +kernel
theorem dX10_query_87 : decode cX10_query 87 = .ok (.aload_n 0, 1) := by decide +kernel
theorem dX10_query_88 : decode cX10_query 88 = .ok (.getfield 366, 3) := by decide +kernel
theorem dX10_query_91 : decode cX10_query 91 = .ok (.ifCond .ne 7, 3) := by decide +kernel
theorem dX10_query_94 : decode cX10_query 94 = .ok (.iconst 1, 1) := by decide +kernel
theorem dX10_query_95 : decode cX10_query 95 = .ok (.goto 4, 3) := by decide +kernel
theorem dX10_query_98 : decode cX10_query 98 = .ok (.iconst 0, 1) := by decide +kernel
theorem dX10_query_99 : decode cX10_query 99 = .ok (.iconst 1, 1) := by decide +kernel
theorem dX10_query_100 : decode cX10_query 100 = .ok (.invokevirtual 394, 3) := by decide +kernel
theorem dX10_query_103 : decode cX10_query 103 = .ok (.aload_n 0, 1) := by decide +kernel
theorem dX10_query_104 : decode cX10_query 104 = .ok (.invokevirtual 449, 3) := by decide +kernel
theorem dX10_query_107 : decode cX10_query 107 = .ok (.ifCond .eq 12, 3) := by decide +kernel
theorem dX10_query_110 : decode cX10_query 110 = .ok (.ldc_w 489, 3) := by decide +kernel
theorem dX10_query_113 : decode cX10_query 113 = .ok (.aload_n 0, 1) := by decide +kernel
theorem dX10_query_114 : decode cX10_query 114 = .ok (.getfield 375, 3) := by decide +kernel
theorem dX10_query_117 : decode cX10_query 117 = .ok (.isub, 1) := by decide +kernel
theorem dX10_query_118 : decode cX10_query 118 = .ok (.ireturn, 1) := by decide +kernel
theorem dX10_query_119 : decode cX10_query 119 = .ok (.iconst 0, 1) := by decide +kernel
theorem dX10_query_120 : decode cX10_query 120 = .ok (.istore_n 3, 1) := by decide +kernel
theorem dX10_query_121 : decode cX10_query 121 = .ok (.iconst 0, 1) := by decide +kernel
theorem dX10_query_122 : decode cX10_query 122 = .ok (.istore 4, 2) := by decide +kernel
theorem dX10_query_124 : decode cX10_query 124 = .ok (.iload 4, 2) := by decide +kernel
theorem dX10_query_126 : decode cX10_query 126 = .ok (.aload_n 0, 1) := by decide +kernel
theorem dX10_query_127 : decode cX10_query 127 = .ok (.invokevirtual 117, 3) := by decide +kernel
theorem dX10_query_130 : decode cX10_query 130 = .ok (.if_icmp .ge 31, 3) := by decide +kernel
theorem dX10_query_133 : decode cX10_query 133 = .ok (.aload_n 0, 1) := by decide +kernel
theorem dX10_query_134 : decode cX10_query 134 = .ok (.iload 4, 2) := by decide +kernel
theorem dX10_query_136 : decode cX10_query 136 = .ok (.invokevirtual 490, 3) := by decide +kernel
theorem dX10_query_139 : decode cX10_query 139 = .ok (.ifCond .ne 6, 3) := by decide +kernel
theorem dX10_query_142 : decode cX10_query 142 = .ok (.goto 13, 3) := by decide +kernel
theorem dX10_query_145 : decode cX10_query 145 = .ok (.iload_n 2, 1) := by decide +kernel
theorem dX10_query_146 : decode cX10_query 146 = .ok (.ifCond .eq 6, 3) := by decide +kernel
theorem dX10_query_149 : decode cX10_query 149 = .ok (.iload 4, 2) := by decide +kernel
theorem dX10_query_151 : decode cX10_query 151 = .ok (.ireturn, 1) := by decide +kernel
theorem dX10_query_152 : decode cX10_query 152 = .ok (.iinc 3 1, 3) := by decide +kernel
theorem dX10_query_155 : decode cX10_query 155 = .ok (.iinc 4 1, 3) := by decide +kernel
theorem dX10_query_158 : decode cX10_query 158 = .ok (.goto (-34), 3) := by decide +kernel
theorem dX10_query_161 : decode cX10_query 161 = .ok (.iload_n 2, 1) := by decide +kernel
theorem dX10_query_162 : decode cX10_query 162 = .ok (.ifCond .eq 7, 3) := by decide +kernel
theorem dX10_query_165 : decode cX10_query 165 = .ok (.iconst (-1), 1) := by decide +kernel
theorem dX10_query_166 : decode cX10_query 166 = .ok (.goto 4, 3) := by decide +kernel
theorem dX10_query_169 : decode cX10_query 169 = .ok (.iload_n 3, 1) := by decide +kernel
theorem dX10_query_170 : decode cX10_query 170 = .ok (.ireturn, 1) := by decide +kernel
def rm_X10_query : Room := { frames := 90, cells := 0, slots := 0, locals := 2115 }
def M_X10_query_124 (k : Nat) : Nat → (Int32) → (Int32) → (Int32) → (Nat → Nat → Int32) → Option (Int32 × (Nat → Nat → Int32))
  | 0, _, _, _, _ => none
  | n + 1, x2, x3, x4, S => (M_X10_requests k S).bind fun q1 => if q1 ≤ x4 then (if x2 = 0 then (some (x3, S)) else (some ((-1 : Int32), S))) else ((M_X10_holdsFor k S x4).bind fun q4 => if q4.1 = 0 then (M_X10_query_124 k n x2 x3 (x4 + 1) q4.2) else (if x2 = 0 then (M_X10_query_124 k n x2 (x3 + 1) (x4 + 1) q4.2) else (some (x4, q4.2))))
theorem M_X10_query_124_s (k : Nat) (n : Nat) (x2 : Int32) (x3 : Int32) (x4 : Int32) (S : Nat → Nat → Int32) : M_X10_query_124 k (n + 1) x2 x3 x4 S = ((M_X10_requests k S).bind fun q1 => if q1 ≤ x4 then (if x2 = 0 then (some (x3, S)) else (some ((-1 : Int32), S))) else ((M_X10_holdsFor k S x4).bind fun q4 => if q4.1 = 0 then (M_X10_query_124 k n x2 x3 (x4 + 1) q4.2) else (if x2 = 0 then (M_X10_query_124 k n x2 (x3 + 1) (x4 + 1) q4.2) else (some (x4, q4.2))))) := rfl
set_option maxRecDepth 100000 in
set_option maxHeartbeats 4000000 in
theorem N_X10_query_124 (C : CX E p l s m args meth c cX10_query 5 RX10 (some .int) A) (a : Nat → Nat) (k : Nat) {post : Int32 → va_W → Prop} :
    ∀ (n : Nat) (x2 : Int32) (x3 : Int32) (x4 : Int32) (S : Nat → Nat → Int32) (q : Int32 × (Nat → Nat → Int32)), M_X10_query_124 k n x2 x3 x4 S = some q → post q.1 (wMd E a q.2) →
      WW E p l e rm_X10_query s m args below meth c A 0 0 (QI E below post args s rm_X10_query A) (wMd E a S) 5 [some (.ref (a 0)), none, some (.int x2), some (.int x3), some (.int x4)] 124 [] := by
  intro n
  induction n with
  | zero => intro x2 x3 x4 S q  h _; cases h
  | succ n ih =>
    intro x2 x3 x4 S q  h hq
    rw [M_X10_query_124_s] at h
    refine r_iload (pc := 124) C (i := 4) dX10_query_124 rfl ?_
    refine r_aload_n (pc := 126) C (i := 0) dX10_query_126 rfl rfl ?_
    obtain ⟨q1, hq1, h⟩ := bnd h
    refine r_callVp_CI (Cn := RX10) (pc := 127) C [] (c_X10_requests E l k a S hq1) [0, 1, 2, 3, 4, 5, 6, 7, 8, 9, 10, 11, 12] rfl (by decide) 0 rfl rfl rfl g_X10_117 hd_X10_requests ⟨Nat.le_of_ble_eq_true rfl, Nat.le_of_ble_eq_true rfl⟩ ⟨Nat.zero_le _, Nat.zero_le _⟩ (Nat.le_of_ble_eq_true rfl) rfl dX10_query_127 (fun r hr => ?_)
    have hr := hr.symm
    subst hr
    refine r_icmp_ge (pc := 130) C (tgt := 161) dX10_query_130 rfl (fun c2 => ?_) (fun c2 => ?_)
    · rw [if_pos c2] at h
      refine r_iload_n (pc := 161) C (i := 2) dX10_query_161 rfl rfl ?_
      refine r_if_eq (pc := 162) C (tgt := 169) dX10_query_162 rfl (fun c3 => ?_) (fun c3 => ?_)
      · rw [if_pos c3] at h
        refine r_iload_n (pc := 169) C (i := 3) dX10_query_169 rfl rfl ?_
        cases h
        exact r_ireti (pc := 170) C hq (Nat.zero_le _) (Nat.zero_le _) dX10_query_170
      · rw [if_neg c3] at h
        refine r_iconst (pc := 165) C (v := (-1)) dX10_query_165 (by decide) ?_
        refine r_goto (pc := 166) C (tgt := 170) dX10_query_166 rfl ?_
        have h := Option.some.inj h
        subst h
        exact r_ireti (pc := 170) C hq (Nat.zero_le _) (Nat.zero_le _) dX10_query_170
    · rw [if_neg c2] at h
      refine r_aload_n (pc := 133) C (i := 0) dX10_query_133 rfl rfl ?_
      refine r_iload (pc := 134) C (i := 4) dX10_query_134 rfl ?_
      obtain ⟨q4, hq4, h⟩ := bnd h
      refine r_callV_CI (Cn := RX10) (pc := 136) C [.int x4] (c_X10_holdsFor E l k a S x4 hq4) [0, 1, 2, 3, 4, 5, 6, 7, 8, 9, 10, 11, 12] rfl (by decide) 0 rfl rfl rfl g_X10_490 hd_X10_holdsFor ⟨Nat.le_of_ble_eq_true rfl, Nat.le_of_ble_eq_true rfl⟩ ⟨Nat.zero_le _, Nat.zero_le _⟩ (Nat.le_of_ble_eq_true rfl) rfl dX10_query_136 (fun r w1 hw1 => ?_)
      obtain ⟨hr1, hw1⟩ := hw1
      subst hr1 hw1
      refine ⟨(wMd E a q4.2), by rfl, ?_⟩
      refine r_if_ne (pc := 139) C (tgt := 145) dX10_query_139 rfl (fun c5 => ?_) (fun c5 => ?_)
      · rw [if_neg c5] at h
        refine r_iload_n (pc := 145) C (i := 2) dX10_query_145 rfl rfl ?_
        refine r_if_eq (pc := 146) C (tgt := 152) dX10_query_146 rfl (fun c6 => ?_) (fun c6 => ?_)
        · rw [if_pos c6] at h
          refine r_iinc (pc := 152) C (v := (x3 + 1)) dX10_query_152 rfl rfl (by decide) rfl ?_
          refine r_iinc (pc := 155) C (v := (x4 + 1)) dX10_query_155 rfl rfl (by decide) rfl ?_
          refine r_goto (pc := 158) C (tgt := 124) dX10_query_158 rfl ?_
          refine r_weak (lSub_s (lSub_n (lSub_s (lSub_s (lSub_s lSub_e))))) ?_
          exact ih x2 (x3 + 1) (x4 + 1) q4.2 q  h hq
        · rw [if_neg c6] at h
          refine r_iload (pc := 149) C (i := 4) dX10_query_149 rfl ?_
          cases h
          exact r_ireti (pc := 151) C hq (Nat.zero_le _) (Nat.zero_le _) dX10_query_151
      · rw [if_pos c5] at h
        refine r_goto (pc := 142) C (tgt := 155) dX10_query_142 rfl ?_
        refine r_iinc (pc := 155) C (v := (x4 + 1)) dX10_query_155 rfl rfl (by decide) rfl ?_
        refine r_goto (pc := 158) C (tgt := 124) dX10_query_158 rfl ?_
        refine r_weak (lSub_s (lSub_n (lSub_s (lSub_s (lSub_s lSub_e))))) ?_
        exact ih x2 x3 (x4 + 1) q4.2 q  h hq
def M_X10_query_99 (k : Nat) (x2 : Int32) (y1 : Int32) (S : Nat → Nat → Int32) : Option (Int32 × (Nat → Nat → Int32)) := (M_X10_check k S y1 (1 : Int32)).bind fun q7 => (M_X10_finish_ k q7).bind fun q8 => if q8.1 = 0 then (M_X10_query_124 k k x2 (0 : Int32) (0 : Int32) q8.2) else (some (((-1000000000 : Int32) - (q8.2 0 11)), q8.2))
set_option maxRecDepth 100000 in
set_option maxHeartbeats 4000000 in
theorem N_X10_query_99 (C : CX E p l s m args meth c cX10_query 5 RX10 (some .int) A) (a : Nat → Nat) (k : Nat) {post : Int32 → va_W → Prop} :
    ∀ (x2 : Int32) (y1 : Int32) (S : Nat → Nat → Int32) (q : Int32 × (Nat → Nat → Int32)), M_X10_query_99 k x2 y1 S = some q → post q.1 (wMd E a q.2) →
      WW E p l e rm_X10_query s m args below meth c A 0 0 (QI E below post args s rm_X10_query A) (wMd E a S) 5 [some (.ref (a 0)), none, some (.int x2), none, none] 99 [.int y1, .ref (a 0)] := by
  intro x2 y1 S q  h hq
  unfold M_X10_query_99 at h
  refine r_iconst (pc := 99) C (v := 1) dX10_query_99 (by decide) ?_
  obtain ⟨q7, hq7, h⟩ := bnd h
  refine r_callV_CV (Cn := RX10) (pc := 100) C [.int y1, .int (1 : Int32)] (c_X10_check E l k a S y1 (1 : Int32) hq7) [0, 1, 2, 3, 4, 5, 6, 7, 8, 9, 10, 11, 12] rfl (by decide) 0 rfl rfl rfl g_X10_394 hd_X10_check ⟨Nat.le_of_ble_eq_true rfl, Nat.le_of_ble_eq_true rfl⟩ ⟨Nat.zero_le _, Nat.zero_le _⟩ (Nat.le_of_ble_eq_true rfl) rfl dX10_query_100 (fun w1 hw1 => ?_)
  subst hw1
  refine ⟨(wMd E a q7), by rfl, ?_⟩
  refine r_aload_n (pc := 103) C (i := 0) dX10_query_103 rfl rfl ?_
  obtain ⟨q8, hq8, h⟩ := bnd h
  refine r_callV_CI (Cn := RX10) (pc := 104) C [] (c_X10_finish_ E l k a q7 hq8) [0, 1, 2, 3, 4, 5, 6, 7, 8, 9, 10, 11, 12] rfl (by decide) 0 rfl rfl rfl g_X10_449 hd_X10_finish_ ⟨Nat.le_of_ble_eq_true rfl, Nat.le_of_ble_eq_true rfl⟩ ⟨Nat.zero_le _, Nat.zero_le _⟩ (Nat.le_of_ble_eq_true rfl) rfl dX10_query_104 (fun r w1 hw1 => ?_)
  obtain ⟨hr1, hw1⟩ := hw1
  subst hr1 hw1
  refine ⟨(wMd E a q8.2), by rfl, ?_⟩
  refine r_if_eq (pc := 107) C (tgt := 119) dX10_query_107 rfl (fun c9 => ?_) (fun c9 => ?_)
  · rw [if_pos c9] at h
    refine r_iconst (pc := 119) C (v := 0) dX10_query_119 (by decide) ?_
    refine r_istore_n (pc := 120) C (i := 3) dX10_query_120 rfl (by decide) rfl ?_
    refine r_iconst (pc := 121) C (v := 0) dX10_query_121 (by decide) ?_
    refine r_istore (pc := 122) C (i := 4) dX10_query_122 (by decide) rfl ?_
    refine r_weak (lSub_s (lSub_n (lSub_s (lSub_s (lSub_s lSub_e))))) ?_
    exact N_X10_query_124 C a k k x2 (0 : Int32) (0 : Int32) q8.2 q  h hq
  · rw [if_neg c9] at h
    refine r_ldcw (pc := 110) C (v := (-1000000000)) wm_8_104 dX10_query_110 ?_
    refine r_aload_n (pc := 113) C (i := 0) dX10_query_113 rfl rfl ?_
    refine r_get (pc := 114) C gwX10 0 rfl rfl 19 (by decide) wm_5_222 rfl dX10_query_114 ?_
    refine r_isub (pc := 117) C dX10_query_117 ?_
    have h := Option.some.inj h
    subst h
    exact r_ireti (pc := 118) C hq (Nat.zero_le _) (Nat.zero_le _) dX10_query_118
def M_X10_query_67 (k : Nat) (x2 : Int32) (y1 : Int32) (S : Nat → Nat → Int32) : Option (Int32 × (Nat → Nat → Int32)) := (M_X10_check k S y1 (1 : Int32)).bind fun q10 => (M_X10_advance k q10).bind fun q11 => (M_X10_compileTestT k q11).bind fun q12 => if (q12 0 11) = 0 then (if (q12 0 10) = 0 then (M_X10_query_99 k x2 (1 : Int32) q12) else (M_X10_query_99 k x2 (0 : Int32) q12)) else (M_X10_query_99 k x2 (1 : Int32) q12)
set_option maxRecDepth 100000 in
set_option maxHeartbeats 4000000 in
theorem N_X10_query_67 (C : CX E p l s m args meth c cX10_query 5 RX10 (some .int) A) (a : Nat → Nat) (k : Nat) {post : Int32 → va_W → Prop} :
    ∀ (x2 : Int32) (y1 : Int32) (S : Nat → Nat → Int32) (q : Int32 × (Nat → Nat → Int32)), M_X10_query_67 k x2 y1 S = some q → post q.1 (wMd E a q.2) →
      WW E p l e rm_X10_query s m args below meth c A 0 0 (QI E below post args s rm_X10_query A) (wMd E a S) 5 [some (.ref (a 0)), none, some (.int x2), none, none] 67 [.int y1, .ref (a 0)] := by
  intro x2 y1 S q  h hq
  unfold M_X10_query_67 at h
  refine r_iconst (pc := 67) C (v := 1) dX10_query_67 (by decide) ?_
  obtain ⟨q10, hq10, h⟩ := bnd h
  refine r_callV_CV (Cn := RX10) (pc := 68) C [.int y1, .int (1 : Int32)] (c_X10_check E l k a S y1 (1 : Int32) hq10) [0, 1, 2, 3, 4, 5, 6, 7, 8, 9, 10, 11, 12] rfl (by decide) 0 rfl rfl rfl g_X10_394 hd_X10_check ⟨Nat.le_of_ble_eq_true rfl, Nat.le_of_ble_eq_true rfl⟩ ⟨Nat.zero_le _, Nat.zero_le _⟩ (Nat.le_of_ble_eq_true rfl) rfl dX10_query_68 (fun w1 hw1 => ?_)
  subst hw1
  refine ⟨(wMd E a q10), by rfl, ?_⟩
  refine r_aload_n (pc := 71) C (i := 0) dX10_query_71 rfl rfl ?_
  obtain ⟨q11, hq11, h⟩ := bnd h
  refine r_callV_CV (Cn := RX10) (pc := 72) C [] (c_X10_advance E l k a q10 hq11) [0, 1, 2, 3, 4, 5, 6, 7, 8, 9, 10, 11, 12] rfl (by decide) 0 rfl rfl rfl g_X10_398 hd_X10_advance ⟨Nat.le_of_ble_eq_true rfl, Nat.le_of_ble_eq_true rfl⟩ ⟨Nat.zero_le _, Nat.zero_le _⟩ (Nat.le_of_ble_eq_true rfl) rfl dX10_query_72 (fun w1 hw1 => ?_)
  subst hw1
  refine ⟨(wMd E a q11), by rfl, ?_⟩
  refine r_aload_n (pc := 75) C (i := 0) dX10_query_75 rfl rfl ?_
  obtain ⟨q12, hq12, h⟩ := bnd h
  refine r_callV_CV (Cn := RX10) (pc := 76) C [] (c_X10_compileTestT E l k a q11 hq12) [0, 1, 2, 3, 4, 5, 6, 7, 8, 9, 10, 11, 12] rfl (by decide) 0 rfl rfl rfl g_X10_465 hd_X10_compileTest ⟨Nat.le_of_ble_eq_true rfl, Nat.le_of_ble_eq_true rfl⟩ ⟨Nat.zero_le _, Nat.zero_le _⟩ (Nat.le_of_ble_eq_true rfl) rfl dX10_query_76 (fun w1 hw1 => ?_)
  subst hw1
  refine ⟨(wMd E a q12), by rfl, ?_⟩
  refine r_aload_n (pc := 79) C (i := 0) dX10_query_79 rfl rfl ?_
  refine r_aload_n (pc := 80) C (i := 0) dX10_query_80 rfl rfl ?_
  refine r_get (pc := 81) C gwX10 0 rfl rfl 19 (by decide) wm_5_222 rfl dX10_query_81 ?_
  refine r_if_ne (pc := 84) C (tgt := 94) dX10_query_84 rfl (fun c13 => ?_) (fun c13 => ?_)
  · rw [if_neg c13] at h
    refine r_iconst (pc := 94) C (v := 1) dX10_query_94 (by decide) ?_
    refine r_goto (pc := 95) C (tgt := 99) dX10_query_95 rfl ?_
    refine r_weak (lSub_s (lSub_n (lSub_s (lSub_n (lSub_n lSub_e))))) ?_
    exact N_X10_query_99 C a k x2 (1 : Int32) q12 q  h hq
  · rw [if_pos c13] at h
    refine r_aload_n (pc := 87) C (i := 0) dX10_query_87 rfl rfl ?_
    refine r_get (pc := 88) C gwX10 0 rfl rfl 18 (by decide) wm_5_221 rfl dX10_query_88 ?_
    refine r_if_ne (pc := 91) C (tgt := 98) dX10_query_91 rfl (fun c14 => ?_) (fun c14 => ?_)
    · rw [if_neg c14] at h
      refine r_iconst (pc := 98) C (v := 0) dX10_query_98 (by decide) ?_
      refine r_weak (lSub_s (lSub_n (lSub_s (lSub_n (lSub_n lSub_e))))) ?_
      exact N_X10_query_99 C a k x2 (0 : Int32) q12 q  h hq
    · rw [if_pos c14] at h
      refine r_iconst (pc := 94) C (v := 1) dX10_query_94 (by decide) ?_
      refine r_goto (pc := 95) C (tgt := 99) dX10_query_95 rfl ?_
      refine r_weak (lSub_s (lSub_n (lSub_s (lSub_n (lSub_n lSub_e))))) ?_
      exact N_X10_query_99 C a k x2 (1 : Int32) q12 q  h hq
def M_X10_query_0 (k : Nat) (p0 : Int32) (S : Nat → Nat → Int32) : Option (Int32 × (Nat → Nat → Int32)) := lt (va_up S 0 (upd (S 0) 1 (0 : Int32))) fun F15 => (M_X10_inRange k p0 (0 : Int32) (if (200 : Int32) < (F15 0 6) then (200 : Int32) else (F15 0 6))).bind fun q16 => if q16 = 0 then ((M_X10_raise k F15 (1 : Int32)).bind fun q24 => some (q24.1, q24.2)) else (lt (va_up F15 0 (upd (F15 0) 15 (0 : Int32))) fun F18 => (M_X10_startText k F18 p0).bind fun q19 => (M_X10_isWord k q19 74).bind fun q20 => if q20 = 0 then ((M_X10_isWord k q19 75).bind fun q22 => if q22 = 0 then (M_X10_query_67 k q20 (0 : Int32) q19) else (M_X10_query_67 k q20 (1 : Int32) q19)) else (M_X10_query_67 k q20 (1 : Int32) q19))
set_option maxRecDepth 100000 in
set_option maxHeartbeats 4000000 in
theorem N_X10_query_0 (C : CX E p l s m args meth c cX10_query 5 RX10 (some .int) A) (a : Nat → Nat) (k : Nat) {post : Int32 → va_W → Prop} :
    ∀ (p0 : Int32) (S : Nat → Nat → Int32) (q : Int32 × (Nat → Nat → Int32)), M_X10_query_0 k p0 S = some q → post q.1 (wMd E a q.2) →
      WW E p l e rm_X10_query s m args below meth c A 0 0 (QI E below post args s rm_X10_query A) (wMd E a S) 5 [some (.ref (a 0)), some (.int p0), none, none, none] 0 [] := by
  intro p0 S q  h hq
  unfold M_X10_query_0 at h
  refine r_aload_n (pc := 0) C (i := 0) dX10_query_0 rfl rfl ?_
  refine r_iconst (pc := 1) C (v := 0) dX10_query_1 (by decide) ?_
  obtain ⟨F15, hF15, h⟩ := lt_e h
  refine r_put (pc := 2) C gwX10 tyX10 tyX10_ok nmX10 0 rfl rfl 6 (by decide) wm_5_209 rfl rfl rfl rfl (Nat.le_of_ble_eq_true rfl) (w' := (wMd E a F15)) (by rw [hF15]; rfl) dX10_query_2 ?_
  refine r_iload_n (pc := 5) C (i := 1) dX10_query_5 rfl rfl ?_
  refine r_iconst (pc := 6) C (v := 0) dX10_query_6 (by decide) ?_
  refine r_aload_n (pc := 7) C (i := 0) dX10_query_7 rfl rfl ?_
  refine r_get (pc := 8) C gwX10 0 rfl rfl 14 (by decide) wm_5_217 rfl dX10_query_8 ?_
  refine r_sipush (pc := 11) C (v := 200) dX10_query_11 (by decide) ?_
  refine r_mmin (pc := 14) C wm_7_30 wm_2_101 wm_1_14 wm_2_102 ⟨Nat.le_of_ble_eq_true rfl, Nat.le_of_ble_eq_true rfl, Nat.zero_le _, Nat.zero_le _⟩ (Nat.le_of_ble_eq_true rfl) dX10_query_14 ?_
  obtain ⟨q16, hq16, h⟩ := bnd h
  refine r_callSp_CI (pc := 17) C [.int p0, .int (0 : Int32), .int (if (200 : Int32) < (F15 0 6) then (200 : Int32) else (F15 0 6))] (c_X10_inRange E l k p0 (0 : Int32) (if (200 : Int32) < (F15 0 6) then (200 : Int32) else (F15 0 6)) hq16) [] rfl (by decide) g_X10_110 hd_X10_inRange.2 ⟨Nat.le_of_ble_eq_true rfl, Nat.le_of_ble_eq_true rfl⟩ ⟨Nat.zero_le _, Nat.zero_le _⟩ (Nat.le_of_ble_eq_true rfl) rfl dX10_query_17 (fun r hr => ?_)
  have hr := hr.symm
  subst hr
  refine r_if_ne (pc := 20) C (tgt := 29) dX10_query_20 rfl (fun c17 => ?_) (fun c17 => ?_)
  · rw [if_neg c17] at h
    refine r_aload_n (pc := 29) C (i := 0) dX10_query_29 rfl rfl ?_
    refine r_iconst (pc := 30) C (v := 0) dX10_query_30 (by decide) ?_
    obtain ⟨F18, hF18, h⟩ := lt_e h
    refine r_put (pc := 31) C gwX10 tyX10 tyX10_ok nmX10 0 rfl rfl 27 (by decide) wm_5_230 rfl rfl rfl rfl (Nat.le_of_ble_eq_true rfl) (w' := (wMd E a F18)) (by rw [hF18]; rfl) dX10_query_31 ?_
    refine r_aload_n (pc := 34) C (i := 0) dX10_query_34 rfl rfl ?_
    refine r_iload_n (pc := 35) C (i := 1) dX10_query_35 rfl rfl ?_
    obtain ⟨q19, hq19, h⟩ := bnd h
    refine r_callV_CV (Cn := RX10) (pc := 36) C [.int p0] (c_X10_startText E l k a F18 p0 hq19) [0, 1, 2, 3, 4, 5, 6, 7, 8, 9, 10, 11, 12] rfl (by decide) 0 rfl rfl rfl g_X10_443 hd_X10_startText ⟨Nat.le_of_ble_eq_true rfl, Nat.le_of_ble_eq_true rfl⟩ ⟨Nat.zero_le _, Nat.zero_le _⟩ (Nat.le_of_ble_eq_true rfl) rfl dX10_query_36 (fun w1 hw1 => ?_)
    subst hw1
    refine ⟨(wMd E a q19), by rfl, ?_⟩
    refine r_aload_n (pc := 39) C (i := 0) dX10_query_39 rfl rfl ?_
    refine r_ldcwS (pc := 40) C 74 rfl dX10_query_40 ?_
    obtain ⟨q20, hq20, h⟩ := bnd h
    refine r_callVp_CI (Cn := RX10) (pc := 43) C [.ref (eS E 74)] (c_X10_isWord E l k a q19 74 (by decide) hq20) [0, 1, 2, 3, 4, 5, 6, 7, 8, 9, 10, 11, 12] rfl (by decide) 0 rfl rfl rfl g_X10_390 hd_X10_isWord ⟨Nat.le_of_ble_eq_true rfl, Nat.le_of_ble_eq_true rfl⟩ ⟨Nat.zero_le _, Nat.zero_le _⟩ (Nat.le_of_ble_eq_true rfl) rfl dX10_query_43 (fun r hr => ?_)
    have hr := hr.symm
    subst hr
    refine r_istore_n (pc := 46) C (i := 2) dX10_query_46 rfl (by decide) rfl ?_
    refine r_aload_n (pc := 47) C (i := 0) dX10_query_47 rfl rfl ?_
    refine r_iload_n (pc := 48) C (i := 2) dX10_query_48 rfl rfl ?_
    refine r_if_ne (pc := 49) C (tgt := 62) dX10_query_49 rfl (fun c21 => ?_) (fun c21 => ?_)
    · rw [if_neg c21] at h
      refine r_iconst (pc := 62) C (v := 1) dX10_query_62 (by decide) ?_
      refine r_goto (pc := 63) C (tgt := 67) dX10_query_63 rfl ?_
      refine r_weak (lSub_s (lSub_n (lSub_s (lSub_n (lSub_n lSub_e))))) ?_
      exact N_X10_query_67 C a k q20 (1 : Int32) q19 q  h hq
    · rw [if_pos c21] at h
      refine r_aload_n (pc := 52) C (i := 0) dX10_query_52 rfl rfl ?_
      refine r_ldcwS (pc := 53) C 75 rfl dX10_query_53 ?_
      obtain ⟨q22, hq22, h⟩ := bnd h
      refine r_callVp_CI (Cn := RX10) (pc := 56) C [.ref (eS E 75)] (c_X10_isWord E l k a q19 75 (by decide) hq22) [0, 1, 2, 3, 4, 5, 6, 7, 8, 9, 10, 11, 12] rfl (by decide) 0 rfl rfl rfl g_X10_390 hd_X10_isWord ⟨Nat.le_of_ble_eq_true rfl, Nat.le_of_ble_eq_true rfl⟩ ⟨Nat.zero_le _, Nat.zero_le _⟩ (Nat.le_of_ble_eq_true rfl) rfl dX10_query_56 (fun r hr => ?_)
      have hr := hr.symm
      subst hr
      refine r_if_eq (pc := 59) C (tgt := 66) dX10_query_59 rfl (fun c23 => ?_) (fun c23 => ?_)
      · rw [if_pos c23] at h
        refine r_iconst (pc := 66) C (v := 0) dX10_query_66 (by decide) ?_
        refine r_weak (lSub_s (lSub_n (lSub_s (lSub_n (lSub_n lSub_e))))) ?_
        exact N_X10_query_67 C a k q20 (0 : Int32) q19 q  h hq
      · rw [if_neg c23] at h
        refine r_iconst (pc := 62) C (v := 1) dX10_query_62 (by decide) ?_
        refine r_goto (pc := 63) C (tgt := 67) dX10_query_63 rfl ?_
        refine r_weak (lSub_s (lSub_n (lSub_s (lSub_n (lSub_n lSub_e))))) ?_
        exact N_X10_query_67 C a k q20 (1 : Int32) q19 q  h hq
  · rw [if_pos c17] at h
    refine r_aload_n (pc := 23) C (i := 0) dX10_query_23 rfl rfl ?_
    refine r_iconst (pc := 24) C (v := 1) dX10_query_24 (by decide) ?_
    obtain ⟨q24, hq24, h⟩ := bnd h
    refine r_callV_CI (Cn := RX10) (pc := 25) C [.int (1 : Int32)] (c_X10_raise E l k a F15 (1 : Int32) hq24) [0, 1, 2, 3, 4, 5, 6, 7, 8, 9, 10, 11, 12] rfl (by decide) 0 rfl rfl rfl g_X10_267 hd_X10_raise ⟨Nat.le_of_ble_eq_true rfl, Nat.le_of_ble_eq_true rfl⟩ ⟨Nat.zero_le _, Nat.zero_le _⟩ (Nat.le_of_ble_eq_true rfl) rfl dX10_query_25 (fun r w1 hw1 => ?_)
    obtain ⟨hr1, hw1⟩ := hw1
    subst hr1 hw1
    refine ⟨(wMd E a q24.2), by rfl, ?_⟩
    cases h
    exact r_ireti (pc := 28) C hq (Nat.zero_le _) (Nat.zero_le _) dX10_query_28
def M_X10_query (k : Nat) (S : Nat → Nat → Int32) (p0 : Int32) : Option (Int32 × (Nat → Nat → Int32)) := M_X10_query_0 k p0 S
set_option maxRecDepth 100000 in
set_option maxHeartbeats 4000000 in
theorem c_X10_query (E : ENV) (l : Launch) (k : Nat) (a : Nat → Nat) (S : Nat → Nat → Int32) (p0 : Int32) {q : Int32 × (Nat → Nat → Int32)} (hm : M_X10_query k S p0 = some q) : CI E l yX10_query cX10_query 5 (some .int) rm_X10_query [.ref (a 0), .int p0] (wMd E a S) (fun r w' => r = q.1 ∧ w' = (wMd E a q.2)) :=
  CI.of 3 (by decide) (Nat.le_of_ble_eq_true rfl) (fun p e s m below meth c A C _ => r_weak (lSub_s (lSub_s (lSub_n (lSub_n (lSub_n lSub_e))))) (N_X10_query_0 C a k p0 S q  hm ⟨rfl, rfl⟩))
-- ShardGuardModel.meanOverlap()D
theorem dX10_meanOverlap_0 : decode cX10_meanOverlap 0 = .ok (.aload_n 0, 1) := by decide +kernel
theorem dX10_meanOverlap_1 : decode cX10_meanOverlap 1 = .ok (.iconst 0, 1) := by decide +kernel
theorem dX10_meanOverlap_2 : decode cX10_meanOverlap 2 = .ok (.putfield 93, 3) := by decide +kernel
theorem dX10_meanOverlap_5 : decode cX10_meanOverlap 5 = .ok (.iconst 0, 1) := by decide +kernel
theorem dX10_meanOverlap_6 : decode cX10_meanOverlap 6 = .ok (.istore_n 1, 1) := by decide +kernel
theorem dX10_meanOverlap_7 : decode cX10_meanOverlap 7 = .ok (.aload_n 0, 1) := by decide +kernel
theorem dX10_meanOverlap_8 : decode cX10_meanOverlap 8 = .ok (.invokevirtual 114, 3) := by decide +kernel
theorem dX10_meanOverlap_11 : decode cX10_meanOverlap 11 = .ok (.aload_n 0, 1) := by decide +kernel
theorem dX10_meanOverlap_12 : decode cX10_meanOverlap 12 = .ok (.invokevirtual 114, 3) := by decide +kernel
theorem dX10_meanOverlap_15 : decode cX10_meanOverlap 15 = .ok (.iconst 1, 1) := by decide +kernel
theorem dX10_meanOverlap_16 : decode cX10_meanOverlap 16 = .ok (.isub, 1) := by decide +kernel
theorem dX10_meanOverlap_17 : decode cX10_meanOverlap 17 = .ok (.imul, 1) := by decide +kernel
theorem dX10_meanOverlap_18 : decode cX10_meanOverlap 18 = .ok (.iconst 2, 1) := by decide +kernel
theorem dX10_meanOverlap_19 : decode cX10_meanOverlap 19 = .ok (.idiv, 1) := by decide +kernel
theorem dX10_meanOverlap_20 : decode cX10_meanOverlap 20 = .ok (.istore_n 2, 1) := by decide +kernel
theorem dX10_meanOverlap_21 : decode cX10_meanOverlap 21 = .ok (.iconst 0, 1) := by decide +kernel
theorem dX10_meanOverlap_22 : decode cX10_meanOverlap 22 = .ok (.istore_n 3, 1) := by decide +kernel
theorem dX10_meanOverlap_23 : decode cX10_meanOverlap 23 = .ok (.iload_n 3, 1) := by decide +kernel
theorem dX10_meanOverlap_24 : decode cX10_meanOverlap 24 = .ok (.aload_n 0, 1) := by decide +kernel
theorem dX10_meanOverlap_25 : decode cX10_meanOverlap 25 = .ok (.invokevirtual 114, 3) := by decide +kernel
theorem dX10_meanOverlap_28 : decode cX10_meanOverlap 28 = .ok (.if_icmp .ge 34, 3) := by decide +kernel
theorem dX10_meanOverlap_31 : decode cX10_meanOverlap 31 = .ok (.iconst 0, 1) := by decide +kernel
theorem dX10_meanOverlap_32 : decode cX10_meanOverlap 32 = .ok (.istore 4, 2) := by decide +kernel
theorem dX10_meanOverlap_34 : decode cX10_meanOverlap 34 = .ok (.iload 4, 2) := by decide +kernel
theorem dX10_meanOverlap_36 : decode cX10_meanOverlap 36 = .ok (.iload_n 3, 1) := by decide +kernel
theorem dX10_meanOverlap_37 : decode cX10_meanOverlap 37 = .ok (.if_icmp .ge 19, 3) := by decide +kernel
theorem dX10_meanOverlap_40 : decode cX10_meanOverlap 40 = .ok (.iload_n 1, 1) := by decide +kernel
theorem dX10_meanOverlap_41 : decode cX10_meanOverlap 41 = .ok (.aload_n 0, 1) := by decide +kernel
theorem dX10_meanOverlap_42 : decode cX10_meanOverlap 42 = .ok (.iload_n 3, 1) := by decide +kernel
theorem dX10_meanOverlap_43 : decode cX10_meanOverlap 43 = .ok (.iload 4, 2) := by decide +kernel
theorem dX10_meanOverlap_45 : decode cX10_meanOverlap 45 = .ok (.invokevirtual 216, 3) := by decide +kernel
theorem dX10_meanOverlap_48 : decode cX10_meanOverlap 48 = .ok (.iadd, 1) := by decide +kernel
theorem dX10_meanOverlap_49 : decode cX10_meanOverlap 49 = .ok (.istore_n 1, 1) := by decide +kernel
theorem dX10_meanOverlap_50 : decode cX10_meanOverlap 50 = .ok (.iinc 4 1, 3) := by decide +kernel
theorem dX10_meanOverlap_53 : decode cX10_meanOverlap 53 = .ok (.goto (-19), 3) := by decide +kernel
theorem dX10_meanOverlap_56 : decode cX10_meanOverlap 56 = .ok (.iinc 3 1, 3) := by decide +kernel
theorem dX10_meanOverlap_59 : decode cX10_meanOverlap 59 = .ok (.goto (-36), 3) := by decide +kernel
theorem dX10_meanOverlap_62 : decode cX10_meanOverlap 62 = .ok (.iload_n 2, 1) := by decide +kernel
theorem dX10_meanOverlap_63 : decode cX10_meanOverlap 63 = .ok (.ifCond .ne 7, 3) := by decide +kernel
theorem dX10_meanOverlap_66 : decode cX10_meanOverlap 66 = .ok (.dconst 0, 1) := by decide +kernel
theorem dX10_meanOverlap_67 : decode cX10_meanOverlap 67 = .ok (.goto 8, 3) := by decide +kernel
theorem dX10_meanOverlap_70 : decode cX10_meanOverlap 70 = .ok (.iload_n 1, 1) := by decide +kernel
theorem dX10_meanOverlap_71 : decode cX10_meanOverlap 71 = .ok (.i2d, 1) := by decide +kernel
theorem dX10_meanOverlap_72 : decode cX10_meanOverlap 72 = .ok (.iload_n 2, 1) := by decide +kernel
theorem dX10_meanOverlap_73 : decode cX10_meanOverlap 73 = .ok (.i2d, 1) := by decide +kernel
theorem dX10_meanOverlap_74 : decode cX10_meanOverlap 74 = .ok (.ddiv, 1) := by decide +kernel
theorem dX10_meanOverlap_75 : decode cX10_meanOverlap 75 = .ok (.dreturn, 1) := by decide +kernel
def rm_X10_meanOverlap : Room := { frames := 3, cells := 0, slots := 0, locals := 65 }
def M_X10_meanOverlap_34 (k : Nat) (κ23 : Int32 → Int32 → Int32 → (Nat → Nat → Int32) → Option (UInt64 × (Nat → Nat → Int32))) : Nat → (Int32) → (Int32) → (Int32) → (Int32) → (Nat → Nat → Int32) → Option (UInt64 × (Nat → Nat → Int32))
  | 0, _, _, _, _, _ => none
  | n + 1, x1, x2, x3, x4, S => if x3 ≤ x4 then (κ23 x1 x2 (x3 + 1) S) else ((M_X10_shared k S x3 x4).bind fun q2 => lt (x1 + q2) fun v3 => M_X10_meanOverlap_34 k κ23 n v3 x2 x3 (x4 + 1) S)
theorem M_X10_meanOverlap_34_s (k : Nat) (κ23 : Int32 → Int32 → Int32 → (Nat → Nat → Int32) → Option (UInt64 × (Nat → Nat → Int32))) (n : Nat) (x1 : Int32) (x2 : Int32) (x3 : Int32) (x4 : Int32) (S : Nat → Nat → Int32) : M_X10_meanOverlap_34 k κ23 (n + 1) x1 x2 x3 x4 S = (if x3 ≤ x4 then (κ23 x1 x2 (x3 + 1) S) else ((M_X10_shared k S x3 x4).bind fun q2 => lt (x1 + q2) fun v3 => M_X10_meanOverlap_34 k κ23 n v3 x2 x3 (x4 + 1) S)) := rfl
set_option maxRecDepth 100000 in
set_option maxHeartbeats 4000000 in
theorem N_X10_meanOverlap_34 (C : CX E p l s m args meth c cX10_meanOverlap 5 RX10 (some .double) A) (a : Nat → Nat) (k : Nat) {post : UInt64 → va_W → Prop} (κ23 : Int32 → Int32 → Int32 → (Nat → Nat → Int32) → Option (UInt64 × (Nat → Nat → Int32))) (hκ23 : ∀ (x1 : Int32) (x2 : Int32) (x3 : Int32) (S : Nat → Nat → Int32) (q : UInt64 × (Nat → Nat → Int32)), κ23 x1 x2 x3 S = some q → post q.1 (wMd E a q.2) → WW E p l e rm_X10_meanOverlap s m args below meth c A 0 0 (QD E below post args s rm_X10_meanOverlap A) (wMd E a S) 5 [some (.ref (a 0)), some (.int x1), some (.int x2), some (.int x3), none] 23 []) :
    ∀ (n : Nat) (x1 : Int32) (x2 : Int32) (x3 : Int32) (x4 : Int32) (S : Nat → Nat → Int32) (q : UInt64 × (Nat → Nat → Int32)), M_X10_meanOverlap_34 k κ23 n x1 x2 x3 x4 S = some q → post q.1 (wMd E a q.2) →
      WW E p l e rm_X10_meanOverlap s m args below meth c A 0 0 (QD E below post args s rm_X10_meanOverlap A) (wMd E a S) 5 [some (.ref (a 0)), some (.int x1), some (.int x2), some (.int x3), some (.int x4)] 34 [] := by
  intro n
  induction n with
  | zero => intro x1 x2 x3 x4 S q  h _; cases h
  | succ n ih =>
    intro x1 x2 x3 x4 S q  h hq
    rw [M_X10_meanOverlap_34_s] at h
    refine r_iload (pc := 34) C (i := 4) dX10_meanOverlap_34 rfl ?_
    refine r_iload_n (pc := 36) C (i := 3) dX10_meanOverlap_36 rfl rfl ?_
    refine r_icmp_ge (pc := 37) C (tgt := 56) dX10_meanOverlap_37 rfl (fun c1 => ?_) (fun c1 => ?_)
    · rw [if_pos c1] at h
      refine r_iinc (pc := 56) C (v := (x3 + 1)) dX10_meanOverlap_56 rfl rfl (by decide) rfl ?_
      refine r_goto (pc := 59) C (tgt := 23) dX10_meanOverlap_59 rfl ?_
      refine r_weak (lSub_s (lSub_s (lSub_s (lSub_s (lSub_n lSub_e))))) ?_
      exact hκ23 x1 x2 (x3 + 1) S q  h hq
    · rw [if_neg c1] at h
      refine r_iload_n (pc := 40) C (i := 1) dX10_meanOverlap_40 rfl rfl ?_
      refine r_aload_n (pc := 41) C (i := 0) dX10_meanOverlap_41 rfl rfl ?_
      refine r_iload_n (pc := 42) C (i := 3) dX10_meanOverlap_42 rfl rfl ?_
      refine r_iload (pc := 43) C (i := 4) dX10_meanOverlap_43 rfl ?_
      obtain ⟨q2, hq2, h⟩ := bnd h
      refine r_callVp_CI (Cn := RX10) (pc := 45) C [.int x3, .int x4] (c_X10_shared E l k a S x3 x4 hq2) [0, 1, 2, 3, 4, 5, 6, 7, 8, 9, 10, 11, 12] rfl (by decide) 0 rfl rfl rfl g_X10_216 hd_X10_shared ⟨Nat.le_of_ble_eq_true rfl, Nat.le_of_ble_eq_true rfl⟩ ⟨Nat.zero_le _, Nat.zero_le _⟩ (Nat.le_of_ble_eq_true rfl) rfl dX10_meanOverlap_45 (fun r hr => ?_)
      have hr := hr.symm
      subst hr
      refine r_iadd (pc := 48) C dX10_meanOverlap_48 ?_
      obtain ⟨v3, hv3, h⟩ := lt_e h
      refine r_topi hv3 ?_
      refine r_istore_n (pc := 49) C (i := 1) dX10_meanOverlap_49 rfl (by decide) rfl ?_
      refine r_iinc (pc := 50) C (v := (x4 + 1)) dX10_meanOverlap_50 rfl rfl (by decide) rfl ?_
      refine r_goto (pc := 53) C (tgt := 34) dX10_meanOverlap_53 rfl ?_
      refine r_weak (lSub_s (lSub_s (lSub_s (lSub_s (lSub_s lSub_e))))) ?_
      exact ih v3 x2 x3 (x4 + 1) S q  h hq
def M_X10_meanOverlap_23 (k : Nat) : Nat → (Int32) → (Int32) → (Int32) → (Nat → Nat → Int32) → Option (UInt64 × (Nat → Nat → Int32))
  | 0, _, _, _, _ => none
  | n + 1, x1, x2, x3, S => (M_X10_tenants k S).bind fun q4 => if q4 ≤ x3 then (if x2 = 0 then (some (FP.dconst0, S)) else ((if (FP.ddiv (FP.i2d x1) (FP.i2d x2)) &&& (0x7fffffffffffffff : UInt64) ≤ (0x7ff0000000000000 : UInt64) then some ((FP.ddiv (FP.i2d x1) (FP.i2d x2)), S) else none))) else (M_X10_meanOverlap_34 k (M_X10_meanOverlap_23 k n) k x1 x2 x3 (0 : Int32) S)
theorem M_X10_meanOverlap_23_s (k : Nat) (n : Nat) (x1 : Int32) (x2 : Int32) (x3 : Int32) (S : Nat → Nat → Int32) : M_X10_meanOverlap_23 k (n + 1) x1 x2 x3 S = ((M_X10_tenants k S).bind fun q4 => if q4 ≤ x3 then (if x2 = 0 then (some (FP.dconst0, S)) else ((if (FP.ddiv (FP.i2d x1) (FP.i2d x2)) &&& (0x7fffffffffffffff : UInt64) ≤ (0x7ff0000000000000 : UInt64) then some ((FP.ddiv (FP.i2d x1) (FP.i2d x2)), S) else none))) else (M_X10_meanOverlap_34 k (M_X10_meanOverlap_23 k n) k x1 x2 x3 (0 : Int32) S)) := rfl
set_option maxRecDepth 100000 in
set_option maxHeartbeats 4000000 in
theorem N_X10_meanOverlap_23 (C : CX E p l s m args meth c cX10_meanOverlap 5 RX10 (some .double) A) (a : Nat → Nat) (k : Nat) {post : UInt64 → va_W → Prop} :
    ∀ (n : Nat) (x1 : Int32) (x2 : Int32) (x3 : Int32) (S : Nat → Nat → Int32) (q : UInt64 × (Nat → Nat → Int32)), M_X10_meanOverlap_23 k n x1 x2 x3 S = some q → post q.1 (wMd E a q.2) →
      WW E p l e rm_X10_meanOverlap s m args below meth c A 0 0 (QD E below post args s rm_X10_meanOverlap A) (wMd E a S) 5 [some (.ref (a 0)), some (.int x1), some (.int x2), some (.int x3), none] 23 [] := by
  intro n
  induction n with
  | zero => intro x1 x2 x3 S q  h _; cases h
  | succ n ih =>
    intro x1 x2 x3 S q  h hq
    rw [M_X10_meanOverlap_23_s] at h
    refine r_iload_n (pc := 23) C (i := 3) dX10_meanOverlap_23 rfl rfl ?_
    refine r_aload_n (pc := 24) C (i := 0) dX10_meanOverlap_24 rfl rfl ?_
    obtain ⟨q4, hq4, h⟩ := bnd h
    refine r_callVp_CI (Cn := RX10) (pc := 25) C [] (c_X10_tenants E l k a S hq4) [0, 1, 2, 3, 4, 5, 6, 7, 8, 9, 10, 11, 12] rfl (by decide) 0 rfl rfl rfl g_X10_114 hd_X10_tenants ⟨Nat.le_of_ble_eq_true rfl, Nat.le_of_ble_eq_true rfl⟩ ⟨Nat.zero_le _, Nat.zero_le _⟩ (Nat.le_of_ble_eq_true rfl) rfl dX10_meanOverlap_25 (fun r hr => ?_)
    have hr := hr.symm
    subst hr
    refine r_icmp_ge (pc := 28) C (tgt := 62) dX10_meanOverlap_28 rfl (fun c5 => ?_) (fun c5 => ?_)
    · rw [if_pos c5] at h
      refine r_iload_n (pc := 62) C (i := 2) dX10_meanOverlap_62 rfl rfl ?_
      refine r_if_ne (pc := 63) C (tgt := 70) dX10_meanOverlap_63 rfl (fun c6 => ?_) (fun c6 => ?_)
      · rw [if_neg c6] at h
        refine r_iload_n (pc := 70) C (i := 1) dX10_meanOverlap_70 rfl rfl ?_
        refine r_i2d (pc := 71) C dX10_meanOverlap_71 ?_
        refine r_iload_n (pc := 72) C (i := 2) dX10_meanOverlap_72 rfl rfl ?_
        refine r_i2d (pc := 73) C dX10_meanOverlap_73 ?_
        obtain ⟨hn7, h⟩ := ifn h
        refine r_ddiv (pc := 74) C dX10_meanOverlap_74 hn7 ?_
        cases h
        exact r_dret (pc := 75) C hq (Nat.zero_le _) (Nat.zero_le _) dX10_meanOverlap_75
      · rw [if_pos c6] at h
        refine r_dconst0 (pc := 66) C dX10_meanOverlap_66 ?_
        refine r_goto (pc := 67) C (tgt := 75) dX10_meanOverlap_67 rfl ?_
        cases h
        exact r_dret (pc := 75) C hq (Nat.zero_le _) (Nat.zero_le _) dX10_meanOverlap_75
    · rw [if_neg c5] at h
      refine r_iconst (pc := 31) C (v := 0) dX10_meanOverlap_31 (by decide) ?_
      refine r_istore (pc := 32) C (i := 4) dX10_meanOverlap_32 (by decide) rfl ?_
      refine r_weak (lSub_s (lSub_s (lSub_s (lSub_s (lSub_s lSub_e))))) ?_
      exact N_X10_meanOverlap_34 C a k (M_X10_meanOverlap_23 k n) ih k x1 x2 x3 (0 : Int32) S q  h hq
def M_X10_meanOverlap_0 (k : Nat) (S : Nat → Nat → Int32) : Option (UInt64 × (Nat → Nat → Int32)) := lt (va_up S 0 (upd (S 0) 1 (0 : Int32))) fun F8 => (M_X10_tenants k F8).bind fun q9 => (M_X10_tenants k F8).bind fun q10 => lt ((q9 * (q10 - (1 : Int32))) / (2 : Int32)) fun v11 => M_X10_meanOverlap_23 k k (0 : Int32) v11 (0 : Int32) F8
set_option maxRecDepth 100000 in
set_option maxHeartbeats 4000000 in
theorem N_X10_meanOverlap_0 (C : CX E p l s m args meth c cX10_meanOverlap 5 RX10 (some .double) A) (a : Nat → Nat) (k : Nat) {post : UInt64 → va_W → Prop} :
    ∀ (S : Nat → Nat → Int32) (q : UInt64 × (Nat → Nat → Int32)), M_X10_meanOverlap_0 k S = some q → post q.1 (wMd E a q.2) →
      WW E p l e rm_X10_meanOverlap s m args below meth c A 0 0 (QD E below post args s rm_X10_meanOverlap A) (wMd E a S) 5 [some (.ref (a 0)), none, none, none, none] 0 [] := by
  intro S q  h hq
  unfold M_X10_meanOverlap_0 at h
  refine r_aload_n (pc := 0) C (i := 0) dX10_meanOverlap_0 rfl rfl ?_
  refine r_iconst (pc := 1) C (v := 0) dX10_meanOverlap_1 (by decide) ?_
  obtain ⟨F8, hF8, h⟩ := lt_e h
  refine r_put (pc := 2) C gwX10 tyX10 tyX10_ok nmX10 0 rfl rfl 6 (by decide) wm_5_209 rfl rfl rfl rfl (Nat.le_of_ble_eq_true rfl) (w' := (wMd E a F8)) (by rw [hF8]; rfl) dX10_meanOverlap_2 ?_
  refine r_iconst (pc := 5) C (v := 0) dX10_meanOverlap_5 (by decide) ?_
  refine r_istore_n (pc := 6) C (i := 1) dX10_meanOverlap_6 rfl (by decide) rfl ?_
  refine r_aload_n (pc := 7) C (i := 0) dX10_meanOverlap_7 rfl rfl ?_
  obtain ⟨q9, hq9, h⟩ := bnd h
  refine r_callVp_CI (Cn := RX10) (pc := 8) C [] (c_X10_tenants E l k a F8 hq9) [0, 1, 2, 3, 4, 5, 6, 7, 8, 9, 10, 11, 12] rfl (by decide) 0 rfl rfl rfl g_X10_114 hd_X10_tenants ⟨Nat.le_of_ble_eq_true rfl, Nat.le_of_ble_eq_true rfl⟩ ⟨Nat.zero_le _, Nat.zero_le _⟩ (Nat.le_of_ble_eq_true rfl) rfl dX10_meanOverlap_8 (fun r hr => ?_)
  have hr := hr.symm
  subst hr
  refine r_aload_n (pc := 11) C (i := 0) dX10_meanOverlap_11 rfl rfl ?_
  obtain ⟨q10, hq10, h⟩ := bnd h
  refine r_callVp_CI (Cn := RX10) (pc := 12) C [] (c_X10_tenants E l k a F8 hq10) [0, 1, 2, 3, 4, 5, 6, 7, 8, 9, 10, 11, 12] rfl (by decide) 0 rfl rfl rfl g_X10_114 hd_X10_tenants ⟨Nat.le_of_ble_eq_true rfl, Nat.le_of_ble_eq_true rfl⟩ ⟨Nat.zero_le _, Nat.zero_le _⟩ (Nat.le_of_ble_eq_true rfl) rfl dX10_meanOverlap_12 (fun r hr => ?_)
  have hr := hr.symm
  subst hr
  refine r_iconst (pc := 15) C (v := 1) dX10_meanOverlap_15 (by decide) ?_
  refine r_isub (pc := 16) C dX10_meanOverlap_16 ?_
  refine r_imul (pc := 17) C dX10_meanOverlap_17 ?_
  refine r_iconst (pc := 18) C (v := 2) dX10_meanOverlap_18 (by decide) ?_
  refine r_idiv (pc := 19) C dX10_meanOverlap_19 (by decide) ?_
  obtain ⟨v11, hv11, h⟩ := lt_e h
  refine r_topi hv11 ?_
  refine r_istore_n (pc := 20) C (i := 2) dX10_meanOverlap_20 rfl (by decide) rfl ?_
  refine r_iconst (pc := 21) C (v := 0) dX10_meanOverlap_21 (by decide) ?_
  refine r_istore_n (pc := 22) C (i := 3) dX10_meanOverlap_22 rfl (by decide) rfl ?_
  refine r_weak (lSub_s (lSub_s (lSub_s (lSub_s (lSub_n lSub_e))))) ?_
  exact N_X10_meanOverlap_23 C a k k (0 : Int32) v11 (0 : Int32) F8 q  h hq
def M_X10_meanOverlap (k : Nat) (S : Nat → Nat → Int32) : Option (UInt64 × (Nat → Nat → Int32)) := M_X10_meanOverlap_0 k S
set_option maxRecDepth 100000 in
set_option maxHeartbeats 4000000 in
theorem c_X10_meanOverlap (E : ENV) (l : Launch) (k : Nat) (a : Nat → Nat) (S : Nat → Nat → Int32) {q : UInt64 × (Nat → Nat → Int32)} (hm : M_X10_meanOverlap k S = some q) : CD E l yX10_meanOverlap cX10_meanOverlap 5 (some .double) rm_X10_meanOverlap [.ref (a 0)] (wMd E a S) (fun r w' => r = q.1 ∧ w' = (wMd E a q.2)) :=
  CD.of 4 (by decide) (Nat.le_of_ble_eq_true rfl) (fun p e s m below meth c A C  => r_weak (lSub_s (lSub_n (lSub_n (lSub_n (lSub_n lSub_e))))) (N_X10_meanOverlap_0 C a k S q  hm ⟨rfl, rfl⟩))
-- ShardGuardModel.served()F
theorem dX10_served_0 : decode cX10_served 0 = .ok (.aload_n 0, 1) := by decide +kernel
theorem dX10_served_1 : decode cX10_served 1 = .ok (.iconst 0, 1) := by decide +kernel
theorem dX10_served_2 : decode cX10_served 2 = .ok (.putfield 93, 3) := by decide +kernel
theorem dX10_served_5 : decode cX10_served 5 = .ok (.aload_n 0, 1) := by decide +kernel
theorem dX10_served_6 : decode cX10_served 6 = .ok (.invokevirtual 117, 3) := by decide +kernel
theorem dX10_served_9 : decode cX10_served 9 = .ok (.ifCond .ne 7, 3) := by decide +kernel
theorem dX10_served_12 : decode cX10_served 12 = .ok (.fconst 0, 1) := by decide +kernel
theorem dX10_served_13 : decode cX10_served 13 = .ok (.goto 16, 3) := by decide +kernel
theorem dX10_served_16 : decode cX10_served 16 = .ok (.aload_n 0, 1) := by decide +kernel
theorem dX10_served_17 : decode cX10_served 17 = .ok (.iconst 2, 1) := by decide +kernel
theorem dX10_served_18 : decode cX10_served 18 = .ok (.iconst (-1), 1) := by decide +kernel
theorem dX10_served_19 : decode cX10_served 19 = .ok (.invokevirtual 258, 3) := by decide +kernel
theorem dX10_served_22 : decode cX10_served 22 = .ok (.i2f, 1) := by decide +kernel
theorem dX10_served_23 : decode cX10_served 23 = .ok (.aload_n 0, 1) := by decide +kernel
theorem dX10_served_24 : decode cX10_served 24 = .ok (.invokevirtual 117, 3) := by decide +kernel
theorem dX10_served_27 : decode cX10_served 27 = .ok (.i2f, 1) := by decide +kernel
theorem dX10_served_28 : decode cX10_served 28 = .ok (.fdiv, 1) := by decide +kernel
theorem dX10_served_29 : decode cX10_served 29 = .ok (.freturn, 1) := by decide +kernel
def rm_X10_served : Room := { frames := 3, cells := 0, slots := 0, locals := 67 }
def M_X10_served_0 (k : Nat) (S : Nat → Nat → Int32) : Option (UInt32 × (Nat → Nat → Int32)) := lt (va_up S 0 (upd (S 0) 1 (0 : Int32))) fun F1 => (M_X10_requests k F1).bind fun q2 => if q2 = 0 then (some (FP.fconst0, F1)) else ((M_X10_inState k F1 (2 : Int32) (-1 : Int32)).bind fun q4 => (M_X10_requests k F1).bind fun q5 => (if (FP.fdiv (FP.i2f q4) (FP.i2f q5)) &&& (0x7fffffff : UInt32) ≤ (0x7f800000 : UInt32) then some ((FP.fdiv (FP.i2f q4) (FP.i2f q5)), F1) else none))
set_option maxRecDepth 100000 in
set_option maxHeartbeats 4000000 in
theorem N_X10_served_0 (C : CX E p l s m args meth c cX10_served 1 RX10 (some .float) A) (a : Nat → Nat) (k : Nat) {post : UInt32 → va_W → Prop} :
    ∀ (S : Nat → Nat → Int32) (q : UInt32 × (Nat → Nat → Int32)), M_X10_served_0 k S = some q → post q.1 (wMd E a q.2) →
      WW E p l e rm_X10_served s m args below meth c A 0 0 (QF E below post args s rm_X10_served A) (wMd E a S) 1 [some (.ref (a 0))] 0 [] := by
  intro S q  h hq
  unfold M_X10_served_0 at h
  refine r_aload_n (pc := 0) C (i := 0) dX10_served_0 rfl rfl ?_
  refine r_iconst (pc := 1) C (v := 0) dX10_served_1 (by decide) ?_
  obtain ⟨F1, hF1, h⟩ := lt_e h
  refine r_put (pc := 2) C gwX10 tyX10 tyX10_ok nmX10 0 rfl rfl 6 (by decide) wm_5_209 rfl rfl rfl rfl (Nat.le_of_ble_eq_true rfl) (w' := (wMd E a F1)) (by rw [hF1]; rfl) dX10_served_2 ?_
  refine r_aload_n (pc := 5) C (i := 0) dX10_served_5 rfl rfl ?_
  obtain ⟨q2, hq2, h⟩ := bnd h
  refine r_callVp_CI (Cn := RX10) (pc := 6) C [] (c_X10_requests E l k a F1 hq2) [0, 1, 2, 3, 4, 5, 6, 7, 8, 9, 10, 11, 12] rfl (by decide) 0 rfl rfl rfl g_X10_117 hd_X10_requests ⟨Nat.le_of_ble_eq_true rfl, Nat.le_of_ble_eq_true rfl⟩ ⟨Nat.zero_le _, Nat.zero_le _⟩ (Nat.le_of_ble_eq_true rfl) rfl dX10_served_6 (fun r hr => ?_)
  have hr := hr.symm
  subst hr
  refine r_if_ne (pc := 9) C (tgt := 16) dX10_served_9 rfl (fun c3 => ?_) (fun c3 => ?_)
  · rw [if_neg c3] at h
    refine r_aload_n (pc := 16) C (i := 0) dX10_served_16 rfl rfl ?_
    refine r_iconst (pc := 17) C (v := 2) dX10_served_17 (by decide) ?_
    refine r_iconst (pc := 18) C (v := (-1)) dX10_served_18 (by decide) ?_
    obtain ⟨q4, hq4, h⟩ := bnd h
    refine r_callVp_CI (Cn := RX10) (pc := 19) C [.int (2 : Int32), .int (-1 : Int32)] (c_X10_inState E l k a F1 (2 : Int32) (-1 : Int32) hq4) [0, 1, 2, 3, 4, 5, 6, 7, 8, 9, 10, 11, 12] rfl (by decide) 0 rfl rfl rfl g_X10_258 hd_X10_inState ⟨Nat.le_of_ble_eq_true rfl, Nat.le_of_ble_eq_true rfl⟩ ⟨Nat.zero_le _, Nat.zero_le _⟩ (Nat.le_of_ble_eq_true rfl) rfl dX10_served_19 (fun r hr => ?_)
    have hr := hr.symm
    subst hr
    refine r_i2f (pc := 22) C dX10_served_22 ?_
    refine r_aload_n (pc := 23) C (i := 0) dX10_served_23 rfl rfl ?_
    obtain ⟨q5, hq5, h⟩ := bnd h
    refine r_callVp_CI (Cn := RX10) (pc := 24) C [] (c_X10_requests E l k a F1 hq5) [0, 1, 2, 3, 4, 5, 6, 7, 8, 9, 10, 11, 12] rfl (by decide) 0 rfl rfl rfl g_X10_117 hd_X10_requests ⟨Nat.le_of_ble_eq_true rfl, Nat.le_of_ble_eq_true rfl⟩ ⟨Nat.zero_le _, Nat.zero_le _⟩ (Nat.le_of_ble_eq_true rfl) rfl dX10_served_24 (fun r hr => ?_)
    have hr := hr.symm
    subst hr
    refine r_i2f (pc := 27) C dX10_served_27 ?_
    obtain ⟨hn6, h⟩ := ifn h
    refine r_fdiv (pc := 28) C dX10_served_28 hn6 ?_
    cases h
    exact r_fret (pc := 29) C hq (Nat.zero_le _) (Nat.zero_le _) dX10_served_29
  · rw [if_pos c3] at h
    refine r_fconst0 (pc := 12) C dX10_served_12 ?_
    refine r_goto (pc := 13) C (tgt := 29) dX10_served_13 rfl ?_
    cases h
    exact r_fret (pc := 29) C hq (Nat.zero_le _) (Nat.zero_le _) dX10_served_29
def M_X10_served (k : Nat) (S : Nat → Nat → Int32) : Option (UInt32 × (Nat → Nat → Int32)) := M_X10_served_0 k S
set_option maxRecDepth 100000 in
set_option maxHeartbeats 4000000 in
theorem c_X10_served (E : ENV) (l : Launch) (k : Nat) (a : Nat → Nat) (S : Nat → Nat → Int32) {q : UInt32 × (Nat → Nat → Int32)} (hm : M_X10_served k S = some q) : CF E l yX10_served cX10_served 1 (some .float) rm_X10_served [.ref (a 0)] (wMd E a S) (fun r w' => r = q.1 ∧ w' = (wMd E a q.2)) :=
  CF.of 0 (by decide) (Nat.le_of_ble_eq_true rfl) (fun p e s m below meth c A C  => r_weak (lSub_s lSub_e) (N_X10_served_0 C a k S q  hm ⟨rfl, rfl⟩))
end WALKS
