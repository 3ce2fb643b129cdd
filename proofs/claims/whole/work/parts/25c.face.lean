section WALKS
variable {E : ENV} {p : Program} {l : Launch} {e : Env} {s : State} {m : MethodId} {args : Array Value} {below : List Frame} {meth : Method} {c : Code} {A : Nat → Prop}
theorem hd_X0_done : yX0_done.cls = RX0 ∧ yX0_done.cls ≠ "java/lang/invoke/MethodHandle" ∧ yX0_done.cls ≠ "java/lang/invoke/VarHandle" ∧ (parseMethodDescriptor yX0_done.desc).map (fun d => d.parameters.length) = some 0 := by decide +kernel
theorem g_X9_249 : GoodIn GW (wsV RX9 249 RX0 yX0_done (wsG yX0_done cX0_done 3 (some .int))) := gw_V wm_2_141 wm_2_142 wm_2_143 wm_1_2 wm_2_144
theorem hd_X0_tick : yX0_tick.cls = RX0 ∧ yX0_tick.cls ≠ "java/lang/invoke/MethodHandle" ∧ yX0_tick.cls ≠ "java/lang/invoke/VarHandle" ∧ (parseMethodDescriptor yX0_tick.desc).map (fun d => d.parameters.length) = some 0 := by decide +kernel
theorem g_X9_244 : GoodIn GW (wsV RX9 244 RX0 yX0_tick (wsG yX0_tick cX0_tick 3 none)) := gw_V wm_4_150 wm_4_151 wm_4_152 wm_1_2 wm_4_153
-- ShardGuard.doneBehind(I)I
theorem dX9_doneBehind_0 : decode cX9_doneBehind 0 = .ok (.iload_n 1, 1) := by decide +kernel
theorem dX9_doneBehind_1 : decode cX9_doneBehind 1 = .ok (.ifCond .lt 10, 3) := by decide +kernel
theorem dX9_doneBehind_4 : decode cX9_doneBehind 4 = .ok (.iload_n 1, 1) := by decide +kernel
theorem dX9_doneBehind_5 : decode cX9_doneBehind 5 = .ok (.sipush 200, 3) := by decide +kernel
theorem dX9_doneBehind_8 : decode cX9_doneBehind 8 = .ok (.if_icmp .le 13, 3) := by decide +kernel
theorem dX9_doneBehind_11 : decode cX9_doneBehind 11 = .ok (.new 59, 3) := by decide +kernel
theorem dX9_doneBehind_14 : decode cX9_doneBehind 14 = .ok (.dup, 1) := by decide +kernel
theorem dX9_doneBehind_15 : decode cX9_doneBehind 15 = .ok (.ldc 247, 2) := by decide +kernel
theorem dX9_doneBehind_17 : decode cX9_doneBehind 17 = .ok (.invokespecial 63, 3) := by decide +kernel
theorem dX9_doneBehind_20 : decode cX9_doneBehind 20 = .ok (.athrow, 1) := by decide +kernel
theorem dX9_doneBehind_21 : decode cX9_doneBehind 21 = .ok (.aload_n 0, 1) := by decide +kernel
theorem dX9_doneBehind_22 : decode cX9_doneBehind 22 = .ok (.getfield 16, 3) := by decide +kernel
theorem dX9_doneBehind_25 : decode cX9_doneBehind 25 = .ok (.aload_n 0, 1) := by decide +kernel
theorem dX9_doneBehind_26 : decode cX9_doneBehind 26 = .ok (.getfield 12, 3) := by decide +kernel
theorem dX9_doneBehind_29 : decode cX9_doneBehind 29 = .ok (.invokevirtual 81, 3) := by decide +kernel
theorem dX9_doneBehind_32 : decode cX9_doneBehind 32 = .ok (.iconst 0, 1) := by decide +kernel
theorem dX9_doneBehind_33 : decode cX9_doneBehind 33 = .ok (.istore_n 2, 1) := by decide +kernel
theorem dX9_doneBehind_34 : decode cX9_doneBehind 34 = .ok (.iload_n 2, 1) := by decide +kernel
theorem dX9_doneBehind_35 : decode cX9_doneBehind 35 = .ok (.iload_n 1, 1) := by decide +kernel
theorem dX9_doneBehind_36 : decode cX9_doneBehind 36 = .ok (.if_icmp .ge 16, 3) := by decide +kernel
theorem dX9_doneBehind_39 : decode cX9_doneBehind 39 = .ok (.aload_n 0, 1) := by decide +kernel
theorem dX9_doneBehind_40 : decode cX9_doneBehind 40 = .ok (.getfield 16, 3) := by decide +kernel
theorem dX9_doneBehind_43 : decode cX9_doneBehind 43 = .ok (.invokevirtual 244, 3) := by decide +kernel
theorem dX9_doneBehind_46 : decode cX9_doneBehind 46 = .ok (.iinc 2 1, 3) := by decide +kernel
theorem dX9_doneBehind_49 : decode cX9_doneBehind 49 = .ok (.goto (-15), 3) := by decide +kernel
theorem dX9_doneBehind_52 : decode cX9_doneBehind 52 = .ok (.aload_n 0, 1) := by decide +kernel
theorem dX9_doneBehind_53 : decode cX9_doneBehind 53 = .ok (.getfield 16, 3) := by decide +kernel
theorem dX9_doneBehind_56 : decode cX9_doneBehind 56 = .ok (.invokevirtual 249, 3) := by decide +kernel
theorem dX9_doneBehind_59 : decode cX9_doneBehind 59 = .ok (.ireturn, 1) := by decide +kernel
def rm_X9_doneBehind : Room := { frames := 6, cells := 1, slots := 6, locals := 189 }
def M_X9_doneBehind_34 (k : Nat) : Nat → (Int32) → (Int32) → (VV × VV × VV × VV × VV × Int32) → Option (Int32 × Int32 × (VV × VV × VV × VV × VV × Int32))
  | 0, _, _, _ => none
  | n + 1, x1, x2, S => if x1 ≤ x2 then ((M_X0_done k (S.2.1)).bind fun q2 => some ((0 : Int32), q2, S)) else ((M_X0_tick k (S.2.1)).bind fun q3 => lt ((S.1, q3, S.2.2)) fun F4 => M_X9_doneBehind_34 k n x1 (x2 + 1) F4)
theorem M_X9_doneBehind_34_s (k : Nat) (n : Nat) (x1 : Int32) (x2 : Int32) (S : VV × VV × VV × VV × VV × Int32) : M_X9_doneBehind_34 k (n + 1) x1 x2 S = (if x1 ≤ x2 then ((M_X0_done k (S.2.1)).bind fun q2 => some ((0 : Int32), q2, S)) else ((M_X0_tick k (S.2.1)).bind fun q3 => lt ((S.1, q3, S.2.2)) fun F4 => M_X9_doneBehind_34 k n x1 (x2 + 1) F4)) := rfl
set_option maxRecDepth 100000 in
set_option maxHeartbeats 4000000 in
theorem N_X9_doneBehind_34 (C : CX E p l s m args meth c cX9_doneBehind 3 RX9 (some .int) A) (a : Nat → Nat) (k : Nat) {post : Int32 → va_W → Prop} {px : Int32 → va_W → Prop} (hlt : l.stackTraces = false) (hno : ∀ x ∈ c.exceptionTable.toList, False) (hdc : DC s) :
    ∀ (n : Nat) (x1 : Int32) (x2 : Int32) (S : VV × VV × VV × VV × VV × Int32) (q : Int32 × Int32 × (VV × VV × VV × VV × VV × Int32)), M_X9_doneBehind_34 k n x1 x2 S = some q → TI post px q.1 q.2.1 (wSg E a q.2.2) →
      WW E p l e rm_X9_doneBehind s m args below meth c A 0 0 (QXI E below post px args s rm_X9_doneBehind A) (wSg E a S) 3 [some (.ref (a 0)), some (.int x1), some (.int x2)] 34 [] := by
  intro n
  induction n with
  | zero => intro x1 x2 S q  h _; cases h
  | succ n ih =>
    intro x1 x2 S q  h hq
    rw [M_X9_doneBehind_34_s] at h
    refine r_iload_n (pc := 34) C (i := 2) dX9_doneBehind_34 rfl rfl ?_
    refine r_iload_n (pc := 35) C (i := 1) dX9_doneBehind_35 rfl rfl ?_
    refine r_icmp_ge (pc := 36) C (tgt := 52) dX9_doneBehind_36 rfl (fun c1 => ?_) (fun c1 => ?_)
    · rw [if_pos c1] at h
      refine r_aload_n (pc := 52) C (i := 0) dX9_doneBehind_52 rfl rfl ?_
      refine r_get (pc := 53) C gwX9 0 rfl rfl 1 (by decide) wm_2_16 rfl dX9_doneBehind_53 ?_
      obtain ⟨q2, hq2, h⟩ := bnd h
      refine r_callVp_CI (Cn := RX0) (pc := 56) C [] (c_X0_done E l k (fun i => a (i + 19)) (S.2.1) hq2) [19, 20, 21, 22, 23, 24, 25, 26, 27, 28, 29, 30, 31, 32, 33, 34, 35, 36] (hp_X9_bestSeed_0 E a S) (by decide) 0 rfl rfl rfl g_X9_249 hd_X0_done ⟨Nat.le_of_ble_eq_true rfl, Nat.le_of_ble_eq_true rfl⟩ ⟨Nat.zero_le _, Nat.zero_le _⟩ (Nat.le_of_ble_eq_true rfl) rfl dX9_doneBehind_56 (fun r hr => ?_)
      have hr := hr.symm
      subst hr
      cases h
      exact r_xI (r_ireti (pc := 59) C (TI_0 hq) (Nat.zero_le _) (Nat.zero_le _) dX9_doneBehind_59)
    · rw [if_neg c1] at h
      refine r_aload_n (pc := 39) C (i := 0) dX9_doneBehind_39 rfl rfl ?_
      refine r_get (pc := 40) C gwX9 0 rfl rfl 1 (by decide) wm_2_16 rfl dX9_doneBehind_40 ?_
      obtain ⟨q3, hq3, h⟩ := bnd h
      obtain ⟨F4, hF4, h⟩ := lt_e h
      refine r_callV_CV (Cn := RX0) (pc := 43) C [] (c_X0_tick E l k (fun i => a (i + 19)) (S.2.1) hq3) [19, 20, 21, 22, 23, 24, 25, 26, 27, 28, 29, 30, 31, 32, 33, 34, 35, 36] (hp_X9_bestSeed_0 E a S) (by decide) 0 rfl rfl rfl g_X9_244 hd_X0_tick ⟨Nat.le_of_ble_eq_true rfl, Nat.le_of_ble_eq_true rfl⟩ ⟨Nat.zero_le _, Nat.zero_le _⟩ (Nat.le_of_ble_eq_true rfl) rfl dX9_doneBehind_43 (fun w1 hw1 => ?_)
      subst hw1
      refine ⟨(wSg E a F4), by rw [hF4]; exact (pw_X9_bestSeed_0 E a S q3), ?_⟩
      refine r_iinc (pc := 46) C (v := (x2 + 1)) dX9_doneBehind_46 rfl rfl (by decide) rfl ?_
      refine r_goto (pc := 49) C (tgt := 34) dX9_doneBehind_49 rfl ?_
      refine r_weak (lSub_s (lSub_s (lSub_s lSub_e))) ?_
      exact ih x1 (x2 + 1) F4 q  h hq
def M_X9_doneBehind_0 (k : Nat) (p0 : Int32) (S : VV × VV × VV × VV × VV × Int32) : Option (Int32 × Int32 × (VV × VV × VV × VV × VV × Int32)) := if p0 < 0 then (some ((2 : Int32), (0 : Int32), S)) else (if p0 ≤ (200 : Int32) then ((M_X0_copyFrom k (S.2.1) (S.1)).bind fun q7 => lt ((S.1, q7, S.2.2)) fun F8 => M_X9_doneBehind_34 k k p0 (0 : Int32) F8) else (some ((2 : Int32), (0 : Int32), S)))
set_option maxRecDepth 100000 in
set_option maxHeartbeats 4000000 in
theorem N_X9_doneBehind_0 (C : CX E p l s m args meth c cX9_doneBehind 3 RX9 (some .int) A) (a : Nat → Nat) (k : Nat) {post : Int32 → va_W → Prop} {px : Int32 → va_W → Prop} (hlt : l.stackTraces = false) (hno : ∀ x ∈ c.exceptionTable.toList, False) (hdc : DC s) :
    ∀ (p0 : Int32) (S : VV × VV × VV × VV × VV × Int32) (q : Int32 × Int32 × (VV × VV × VV × VV × VV × Int32)), M_X9_doneBehind_0 k p0 S = some q → TI post px q.1 q.2.1 (wSg E a q.2.2) →
      WW E p l e rm_X9_doneBehind s m args below meth c A 0 0 (QXI E below post px args s rm_X9_doneBehind A) (wSg E a S) 3 [some (.ref (a 0)), some (.int p0), none] 0 [] := by
  intro p0 S q  h hq
  unfold M_X9_doneBehind_0 at h
  refine r_iload_n (pc := 0) C (i := 1) dX9_doneBehind_0 rfl rfl ?_
  refine r_if_lt (pc := 1) C (tgt := 11) dX9_doneBehind_1 rfl (fun c5 => ?_) (fun c5 => ?_)
  · rw [if_pos c5] at h
    cases h
    exact r_throwA (pc := 11) C hlt hno hdc 23 rfl wm_2_186 wm_1_13 dX9_doneBehind_11 dX9_doneBehind_14 dX9_doneBehind_15 dX9_doneBehind_17 dX9_doneBehind_20 (Nat.le_of_ble_eq_true rfl) (Nat.le_of_ble_eq_true rfl) (Nat.le_of_ble_eq_true rfl) (Nat.le_of_ble_eq_true rfl) (Nat.le_of_ble_eq_true rfl) (TI_x (by decide) hq)
  · rw [if_neg c5] at h
    refine r_iload_n (pc := 4) C (i := 1) dX9_doneBehind_4 rfl rfl ?_
    refine r_sipush (pc := 5) C (v := 200) dX9_doneBehind_5 (by decide) ?_
    refine r_icmp_le (pc := 8) C (tgt := 21) dX9_doneBehind_8 rfl (fun c6 => ?_) (fun c6 => ?_)
    · rw [if_pos c6] at h
      refine r_aload_n (pc := 21) C (i := 0) dX9_doneBehind_21 rfl rfl ?_
      refine r_get (pc := 22) C gwX9 0 rfl rfl 1 (by decide) wm_2_16 rfl dX9_doneBehind_22 ?_
      refine r_aload_n (pc := 25) C (i := 0) dX9_doneBehind_25 rfl rfl ?_
      refine r_get (pc := 26) C gwX9 0 rfl rfl 0 (by decide) wm_2_15 rfl dX9_doneBehind_26 ?_
      obtain ⟨q7, hq7, h⟩ := bnd h
      obtain ⟨F8, hF8, h⟩ := lt_e h
      refine r_callV_CV (Cn := RX0) (pc := 29) C [.ref (a 1)] (c_X0_copyFrom E l k (fun i => a (i + 19)) (fun i => a (i + 1)) (S.2.1) (S.1) hq7) [19, 20, 21, 22, 23, 24, 25, 26, 27, 28, 29, 30, 31, 32, 33, 34, 35, 36, 1, 2, 3, 4, 5, 6, 7, 8, 9, 10, 11, 12, 13, 14, 15, 16, 17, 18] (hp_X9_bestSeed_1 E a S) (by decide) 0 rfl rfl rfl g_X9_81 hd_X0_copyFrom ⟨Nat.le_of_ble_eq_true rfl, Nat.le_of_ble_eq_true rfl⟩ ⟨Nat.zero_le _, Nat.zero_le _⟩ (Nat.le_of_ble_eq_true rfl) rfl dX9_doneBehind_29 (fun w1 hw1 => ?_)
      subst hw1
      refine ⟨(wSg E a F8), by rw [hF8]; exact (pw_X9_bestSeed_1 E a S q7), ?_⟩
      refine r_iconst (pc := 32) C (v := 0) dX9_doneBehind_32 (by decide) ?_
      refine r_istore_n (pc := 33) C (i := 2) dX9_doneBehind_33 rfl (by decide) rfl ?_
      refine r_weak (lSub_s (lSub_s (lSub_s lSub_e))) ?_
      exact N_X9_doneBehind_34 C a k hlt hno hdc k p0 (0 : Int32) F8 q  h hq
    · rw [if_neg c6] at h
      cases h
      exact r_throwA (pc := 11) C hlt hno hdc 23 rfl wm_2_186 wm_1_13 dX9_doneBehind_11 dX9_doneBehind_14 dX9_doneBehind_15 dX9_doneBehind_17 dX9_doneBehind_20 (Nat.le_of_ble_eq_true rfl) (Nat.le_of_ble_eq_true rfl) (Nat.le_of_ble_eq_true rfl) (Nat.le_of_ble_eq_true rfl) (Nat.le_of_ble_eq_true rfl) (TI_x (by decide) hq)
def M_X9_doneBehind (k : Nat) (S : VV × VV × VV × VV × VV × Int32) (p0 : Int32) : Option (Int32 × Int32 × (VV × VV × VV × VV × VV × Int32)) := M_X9_doneBehind_0 k p0 S
set_option maxRecDepth 100000 in
set_option maxHeartbeats 4000000 in
theorem c_X9_doneBehind (E : ENV) (l : Launch) (k : Nat) (a : Nat → Nat) (S : VV × VV × VV × VV × VV × Int32) (p0 : Int32) (hlt : l.stackTraces = false) {q : Int32 × Int32 × (VV × VV × VV × VV × VV × Int32)} (hm : M_X9_doneBehind k S p0 = some q) : XI E l yX9_doneBehind cX9_doneBehind 3 (some .int) rm_X9_doneBehind [.ref (a 0), .int p0] (wSg E a S) (fun r w' => q.1 = 0 ∧ r = q.2.1 ∧ w' = (wSg E a q.2.2)) (fun cd w' => cd = q.1 ∧ ¬ q.1 = 0 ∧ w' = (wSg E a q.2.2)) :=
  XI.of 1 (by decide) (Nat.le_of_ble_eq_true rfl) (fun p e s m below meth c A C hno hdc => r_weak (lSub_s (lSub_s (lSub_n lSub_e))) (N_X9_doneBehind_0 C a k hlt hno hdc p0 S q  hm (TI_of rfl)))
theorem g_X9_226 : GoodIn GW (wsV RX9 226 RX0 yX0_sharedBy (wsG yX0_sharedBy cX0_sharedBy 3 (some .int))) := gw_V wm_2_136 wm_2_71 wm_2_72 wm_1_2 wm_2_73
-- ShardGuard.meanOverlap()D
theorem dX9_meanOverlap_0 : decode cX9_meanOverlap 0 = .ok (.aload_n 0, 1) := by decide +kernel
theorem dX9_meanOverlap_1 : decode cX9_meanOverlap 1 = .ok (.getfield 12, 3) := by decide +kernel
theorem dX9_meanOverlap_4 : decode cX9_meanOverlap 4 = .ok (.getfield 88, 3) := by decide +kernel
theorem dX9_meanOverlap_7 : decode cX9_meanOverlap 7 = .ok (.aload_n 0, 1) := by decide +kernel
theorem dX9_meanOverlap_8 : decode cX9_meanOverlap 8 = .ok (.getfield 12, 3) := by decide +kernel
theorem dX9_meanOverlap_11 : decode cX9_meanOverlap 11 = .ok (.getfield 88, 3) := by decide +kernel
theorem dX9_meanOverlap_14 : decode cX9_meanOverlap 14 = .ok (.iconst 1, 1) := by decide +kernel
theorem dX9_meanOverlap_15 : decode cX9_meanOverlap 15 = .ok (.isub, 1) := by decide +kernel
theorem dX9_meanOverlap_16 : decode cX9_meanOverlap 16 = .ok (.imul, 1) := by decide +kernel
theorem dX9_meanOverlap_17 : decode cX9_meanOverlap 17 = .ok (.iconst 2, 1) := by decide +kernel
theorem dX9_meanOverlap_18 : decode cX9_meanOverlap 18 = .ok (.idiv, 1) := by decide +kernel
theorem dX9_meanOverlap_19 : decode cX9_meanOverlap 19 = .ok (.istore_n 1, 1) := by decide +kernel
theorem dX9_meanOverlap_20 : decode cX9_meanOverlap 20 = .ok (.iload_n 1, 1) := by decide +kernel
theorem dX9_meanOverlap_21 : decode cX9_meanOverlap 21 = .ok (.ifCond .gt 5, 3) := by decide +kernel
theorem dX9_meanOverlap_24 : decode cX9_meanOverlap 24 = .ok (.dconst 0, 1) := by decide +kernel
theorem dX9_meanOverlap_25 : decode cX9_meanOverlap 25 = .ok (.dreturn, 1) := by decide +kernel
theorem dX9_meanOverlap_26 : decode cX9_meanOverlap 26 = .ok (.iconst 0, 1) := by decide +kernel
theorem dX9_meanOverlap_27 : decode cX9_meanOverlap 27 = .ok (.istore_n 2, 1) := by decide +kernel
theorem dX9_meanOverlap_28 : decode cX9_meanOverlap 28 = .ok (.iconst 0, 1) := by decide +kernel
theorem dX9_meanOverlap_29 : decode cX9_meanOverlap 29 = .ok (.istore_n 3, 1) := by decide +kernel
theorem dX9_meanOverlap_30 : decode cX9_meanOverlap 30 = .ok (.iload_n 3, 1) := by decide +kernel
theorem dX9_meanOverlap_31 : decode cX9_meanOverlap 31 = .ok (.aload_n 0, 1) := by decide +kernel
theorem dX9_meanOverlap_32 : decode cX9_meanOverlap 32 = .ok (.getfield 12, 3) := by decide +kernel
theorem dX9_meanOverlap_35 : decode cX9_meanOverlap 35 = .ok (.getfield 88, 3) := by decide +kernel
theorem dX9_meanOverlap_38 : decode cX9_meanOverlap 38 = .ok (.if_icmp .ge 37, 3) := by decide +kernel
theorem dX9_meanOverlap_41 : decode cX9_meanOverlap 41 = .ok (.iconst 0, 1) := by decide +kernel
theorem dX9_meanOverlap_42 : decode cX9_meanOverlap 42 = .ok (.istore 4, 2) := by decide +kernel
theorem dX9_meanOverlap_44 : decode cX9_meanOverlap 44 = .ok (.iload 4, 2) := by decide +kernel
theorem dX9_meanOverlap_46 : decode cX9_meanOverlap 46 = .ok (.iload_n 3, 1) := by decide +kernel
theorem dX9_meanOverlap_47 : decode cX9_meanOverlap 47 = .ok (.if_icmp .ge 22, 3) := by decide +kernel
theorem dX9_meanOverlap_50 : decode cX9_meanOverlap 50 = .ok (.iload_n 2, 1) := by decide +kernel
theorem dX9_meanOverlap_51 : decode cX9_meanOverlap 51 = .ok (.aload_n 0, 1) := by decide +kernel
theorem dX9_meanOverlap_52 : decode cX9_meanOverlap 52 = .ok (.getfield 12, 3) := by decide +kernel
theorem dX9_meanOverlap_55 : decode cX9_meanOverlap 55 = .ok (.iload_n 3, 1) := by decide +kernel
theorem dX9_meanOverlap_56 : decode cX9_meanOverlap 56 = .ok (.iload 4, 2) := by decide +kernel
theorem dX9_meanOverlap_58 : decode cX9_meanOverlap 58 = .ok (.invokevirtual 226, 3) := by decide +kernel
theorem dX9_meanOverlap_61 : decode cX9_meanOverlap 61 = .ok (.iadd, 1) := by decide +kernel
theorem dX9_meanOverlap_62 : decode cX9_meanOverlap 62 = .ok (.istore_n 2, 1) := by decide +kernel
theorem dX9_meanOverlap_63 : decode cX9_meanOverlap 63 = .ok (.iinc 4 1, 3) := by decide +kernel
theorem dX9_meanOverlap_66 : decode cX9_meanOverlap 66 = .ok (.goto (-22), 3) := by decide +kernel
theorem dX9_meanOverlap_69 : decode cX9_meanOverlap 69 = .ok (.iinc 3 1, 3) := by decide +kernel
theorem dX9_meanOverlap_72 : decode cX9_meanOverlap 72 = .ok (.goto (-42), 3) := by decide +kernel
theorem dX9_meanOverlap_75 : decode cX9_meanOverlap 75 = .ok (.iload_n 2, 1) := by decide +kernel
theorem dX9_meanOverlap_76 : decode cX9_meanOverlap 76 = .ok (.i2d, 1) := by decide +kernel
theorem dX9_meanOverlap_77 : decode cX9_meanOverlap 77 = .ok (.iload_n 1, 1) := by decide +kernel
theorem dX9_meanOverlap_78 : decode cX9_meanOverlap 78 = .ok (.i2d, 1) := by decide +kernel
theorem dX9_meanOverlap_79 : decode cX9_meanOverlap 79 = .ok (.ddiv, 1) := by decide +kernel
theorem dX9_meanOverlap_80 : decode cX9_meanOverlap 80 = .ok (.dreturn, 1) := by decide +kernel
def rm_X9_meanOverlap : Room := { frames := 3, cells := 0, slots := 0, locals := 67 }
def M_X9_meanOverlap_44 (k : Nat) (S : VV × VV × VV × VV × VV × Int32) (κ30 : Int32 → Int32 → Int32 → Option (UInt64)) : Nat → (Int32) → (Int32) → (Int32) → (Int32) → Option (UInt64)
  | 0, _, _, _, _ => none
  | n + 1, x1, x2, x3, x4 => if x3 ≤ x4 then (κ30 x1 x2 (x3 + 1)) else ((M_X0_sharedBy k (S.1) x3 x4).bind fun q2 => lt (x2 + q2) fun v3 => M_X9_meanOverlap_44 k S κ30 n x1 v3 x3 (x4 + 1))
theorem M_X9_meanOverlap_44_s (k : Nat) (S : VV × VV × VV × VV × VV × Int32) (κ30 : Int32 → Int32 → Int32 → Option (UInt64)) (n : Nat) (x1 : Int32) (x2 : Int32) (x3 : Int32) (x4 : Int32) : M_X9_meanOverlap_44 k S κ30 (n + 1) x1 x2 x3 x4 = (if x3 ≤ x4 then (κ30 x1 x2 (x3 + 1)) else ((M_X0_sharedBy k (S.1) x3 x4).bind fun q2 => lt (x2 + q2) fun v3 => M_X9_meanOverlap_44 k S κ30 n x1 v3 x3 (x4 + 1))) := rfl
set_option maxRecDepth 100000 in
set_option maxHeartbeats 4000000 in
theorem N_X9_meanOverlap_44 (C : CX E p l s m args meth c cX9_meanOverlap 5 RX9 (some .double) A) (a : Nat → Nat) (k : Nat) (S : VV × VV × VV × VV × VV × Int32) {post : UInt64 → va_W → Prop} (κ30 : Int32 → Int32 → Int32 → Option (UInt64)) (hκ30 : ∀ (x1 : Int32) (x2 : Int32) (x3 : Int32) (q : UInt64), κ30 x1 x2 x3 = some q → post q (wSg E a S) → WW E p l e rm_X9_meanOverlap s m args below meth c A 0 0 (QD E below post args s rm_X9_meanOverlap A) (wSg E a S) 5 [some (.ref (a 0)), some (.int x1), some (.int x2), some (.int x3), none] 30 []) :
    ∀ (n : Nat) (x1 : Int32) (x2 : Int32) (x3 : Int32) (x4 : Int32) (q : UInt64), M_X9_meanOverlap_44 k S κ30 n x1 x2 x3 x4 = some q → post q (wSg E a S) →
      WW E p l e rm_X9_meanOverlap s m args below meth c A 0 0 (QD E below post args s rm_X9_meanOverlap A) (wSg E a S) 5 [some (.ref (a 0)), some (.int x1), some (.int x2), some (.int x3), some (.int x4)] 44 [] := by
  intro n
  induction n with
  | zero => intro x1 x2 x3 x4 q  h _; cases h
  | succ n ih =>
    intro x1 x2 x3 x4 q  h hq
    rw [M_X9_meanOverlap_44_s] at h
    refine r_iload (pc := 44) C (i := 4) dX9_meanOverlap_44 rfl ?_
    refine r_iload_n (pc := 46) C (i := 3) dX9_meanOverlap_46 rfl rfl ?_
    refine r_icmp_ge (pc := 47) C (tgt := 69) dX9_meanOverlap_47 rfl (fun c1 => ?_) (fun c1 => ?_)
    · rw [if_pos c1] at h
      refine r_iinc (pc := 69) C (v := (x3 + 1)) dX9_meanOverlap_69 rfl rfl (by decide) rfl ?_
      refine r_goto (pc := 72) C (tgt := 30) dX9_meanOverlap_72 rfl ?_
      refine r_weak (lSub_s (lSub_s (lSub_s (lSub_s (lSub_n lSub_e))))) ?_
      exact hκ30 x1 x2 (x3 + 1) q  h hq
    · rw [if_neg c1] at h
      refine r_iload_n (pc := 50) C (i := 2) dX9_meanOverlap_50 rfl rfl ?_
      refine r_aload_n (pc := 51) C (i := 0) dX9_meanOverlap_51 rfl rfl ?_
      refine r_get (pc := 52) C gwX9 0 rfl rfl 0 (by decide) wm_2_15 rfl dX9_meanOverlap_52 ?_
      refine r_iload_n (pc := 55) C (i := 3) dX9_meanOverlap_55 rfl rfl ?_
      refine r_iload (pc := 56) C (i := 4) dX9_meanOverlap_56 rfl ?_
      obtain ⟨q2, hq2, h⟩ := bnd h
      refine r_callVp_CI (Cn := RX0) (pc := 58) C [.int x3, .int x4] (c_X0_sharedBy E l k (fun i => a (i + 1)) (S.1) x3 x4 hq2) [1, 2, 3, 4, 5, 6, 7, 8, 9, 10, 11, 12, 13, 14, 15, 16, 17, 18] (hp_X9_size_0 E a S) (by decide) 0 rfl rfl rfl g_X9_226 hd_X0_sharedBy ⟨Nat.le_of_ble_eq_true rfl, Nat.le_of_ble_eq_true rfl⟩ ⟨Nat.zero_le _, Nat.zero_le _⟩ (Nat.le_of_ble_eq_true rfl) rfl dX9_meanOverlap_58 (fun r hr => ?_)
      have hr := hr.symm
      subst hr
      refine r_iadd (pc := 61) C dX9_meanOverlap_61 ?_
      obtain ⟨v3, hv3, h⟩ := lt_e h
      refine r_topi hv3 ?_
      refine r_istore_n (pc := 62) C (i := 2) dX9_meanOverlap_62 rfl (by decide) rfl ?_
      refine r_iinc (pc := 63) C (v := (x4 + 1)) dX9_meanOverlap_63 rfl rfl (by decide) rfl ?_
      refine r_goto (pc := 66) C (tgt := 44) dX9_meanOverlap_66 rfl ?_
      refine r_weak (lSub_s (lSub_s (lSub_s (lSub_s (lSub_s lSub_e))))) ?_
      exact ih x1 v3 x3 (x4 + 1) q  h hq
def M_X9_meanOverlap_30 (k : Nat) (S : VV × VV × VV × VV × VV × Int32) : Nat → (Int32) → (Int32) → (Int32) → Option (UInt64)
  | 0, _, _, _ => none
  | n + 1, x1, x2, x3 => if ((S.1) 0 2) ≤ x3 then ((if (FP.ddiv (FP.i2d x2) (FP.i2d x1)) &&& (0x7fffffffffffffff : UInt64) ≤ (0x7ff0000000000000 : UInt64) then some (FP.ddiv (FP.i2d x2) (FP.i2d x1)) else none)) else (M_X9_meanOverlap_44 k S (M_X9_meanOverlap_30 k S n) k x1 x2 x3 (0 : Int32))
theorem M_X9_meanOverlap_30_s (k : Nat) (S : VV × VV × VV × VV × VV × Int32) (n : Nat) (x1 : Int32) (x2 : Int32) (x3 : Int32) : M_X9_meanOverlap_30 k S (n + 1) x1 x2 x3 = (if ((S.1) 0 2) ≤ x3 then ((if (FP.ddiv (FP.i2d x2) (FP.i2d x1)) &&& (0x7fffffffffffffff : UInt64) ≤ (0x7ff0000000000000 : UInt64) then some (FP.ddiv (FP.i2d x2) (FP.i2d x1)) else none)) else (M_X9_meanOverlap_44 k S (M_X9_meanOverlap_30 k S n) k x1 x2 x3 (0 : Int32))) := rfl
set_option maxRecDepth 100000 in
set_option maxHeartbeats 4000000 in
theorem N_X9_meanOverlap_30 (C : CX E p l s m args meth c cX9_meanOverlap 5 RX9 (some .double) A) (a : Nat → Nat) (k : Nat) (S : VV × VV × VV × VV × VV × Int32) {post : UInt64 → va_W → Prop} :
    ∀ (n : Nat) (x1 : Int32) (x2 : Int32) (x3 : Int32) (q : UInt64), M_X9_meanOverlap_30 k S n x1 x2 x3 = some q → post q (wSg E a S) →
      WW E p l e rm_X9_meanOverlap s m args below meth c A 0 0 (QD E below post args s rm_X9_meanOverlap A) (wSg E a S) 5 [some (.ref (a 0)), some (.int x1), some (.int x2), some (.int x3), none] 30 [] := by
  intro n
  induction n with
  | zero => intro x1 x2 x3 q  h _; cases h
  | succ n ih =>
    intro x1 x2 x3 q  h hq
    rw [M_X9_meanOverlap_30_s] at h
    refine r_iload_n (pc := 30) C (i := 3) dX9_meanOverlap_30 rfl rfl ?_
    refine r_aload_n (pc := 31) C (i := 0) dX9_meanOverlap_31 rfl rfl ?_
    refine r_get (pc := 32) C gwX9 0 rfl rfl 0 (by decide) wm_2_15 rfl dX9_meanOverlap_32 ?_
    refine r_get (pc := 35) C gwX0 1 rfl rfl 2 (by decide) wm_1_99 rfl dX9_meanOverlap_35 ?_
    refine r_icmp_ge (pc := 38) C (tgt := 75) dX9_meanOverlap_38 rfl (fun c4 => ?_) (fun c4 => ?_)
    · rw [if_pos c4] at h
      refine r_iload_n (pc := 75) C (i := 2) dX9_meanOverlap_75 rfl rfl ?_
      refine r_i2d (pc := 76) C dX9_meanOverlap_76 ?_
      refine r_iload_n (pc := 77) C (i := 1) dX9_meanOverlap_77 rfl rfl ?_
      refine r_i2d (pc := 78) C dX9_meanOverlap_78 ?_
      obtain ⟨hn5, h⟩ := ifn h
      refine r_ddiv (pc := 79) C dX9_meanOverlap_79 hn5 ?_
      cases h
      exact r_dret (pc := 80) C hq (Nat.zero_le _) (Nat.zero_le _) dX9_meanOverlap_80
    · rw [if_neg c4] at h
      refine r_iconst (pc := 41) C (v := 0) dX9_meanOverlap_41 (by decide) ?_
      refine r_istore (pc := 42) C (i := 4) dX9_meanOverlap_42 (by decide) rfl ?_
      refine r_weak (lSub_s (lSub_s (lSub_s (lSub_s (lSub_s lSub_e))))) ?_
      exact N_X9_meanOverlap_44 C a k S (M_X9_meanOverlap_30 k S n) ih k x1 x2 x3 (0 : Int32) q  h hq
def M_X9_meanOverlap_0 (k : Nat) (S : VV × VV × VV × VV × VV × Int32) : Option (UInt64) := lt ((((S.1) 0 2) * (((S.1) 0 2) - (1 : Int32))) / (2 : Int32)) fun v6 => if 0 < v6 then (M_X9_meanOverlap_30 k S k v6 (0 : Int32) (0 : Int32)) else (some FP.dconst0)
set_option maxRecDepth 100000 in
set_option maxHeartbeats 4000000 in
theorem N_X9_meanOverlap_0 (C : CX E p l s m args meth c cX9_meanOverlap 5 RX9 (some .double) A) (a : Nat → Nat) (k : Nat) (S : VV × VV × VV × VV × VV × Int32) {post : UInt64 → va_W → Prop} :
    ∀ (q : UInt64), M_X9_meanOverlap_0 k S = some q → post q (wSg E a S) →
      WW E p l e rm_X9_meanOverlap s m args below meth c A 0 0 (QD E below post args s rm_X9_meanOverlap A) (wSg E a S) 5 [some (.ref (a 0)), none, none, none, none] 0 [] := by
  intro  q  h hq
  unfold M_X9_meanOverlap_0 at h
  refine r_aload_n (pc := 0) C (i := 0) dX9_meanOverlap_0 rfl rfl ?_
  refine r_get (pc := 1) C gwX9 0 rfl rfl 0 (by decide) wm_2_15 rfl dX9_meanOverlap_1 ?_
  refine r_get (pc := 4) C gwX0 1 rfl rfl 2 (by decide) wm_1_99 rfl dX9_meanOverlap_4 ?_
  refine r_aload_n (pc := 7) C (i := 0) dX9_meanOverlap_7 rfl rfl ?_
  refine r_get (pc := 8) C gwX9 0 rfl rfl 0 (by decide) wm_2_15 rfl dX9_meanOverlap_8 ?_
  refine r_get (pc := 11) C gwX0 1 rfl rfl 2 (by decide) wm_1_99 rfl dX9_meanOverlap_11 ?_
  refine r_iconst (pc := 14) C (v := 1) dX9_meanOverlap_14 (by decide) ?_
  refine r_isub (pc := 15) C dX9_meanOverlap_15 ?_
  refine r_imul (pc := 16) C dX9_meanOverlap_16 ?_
  refine r_iconst (pc := 17) C (v := 2) dX9_meanOverlap_17 (by decide) ?_
  refine r_idiv (pc := 18) C dX9_meanOverlap_18 (by decide) ?_
  obtain ⟨v6, hv6, h⟩ := lt_e h
  refine r_topi hv6 ?_
  refine r_istore_n (pc := 19) C (i := 1) dX9_meanOverlap_19 rfl (by decide) rfl ?_
  refine r_iload_n (pc := 20) C (i := 1) dX9_meanOverlap_20 rfl rfl ?_
  refine r_if_gt (pc := 21) C (tgt := 26) dX9_meanOverlap_21 rfl (fun c7 => ?_) (fun c7 => ?_)
  · rw [if_pos c7] at h
    refine r_iconst (pc := 26) C (v := 0) dX9_meanOverlap_26 (by decide) ?_
    refine r_istore_n (pc := 27) C (i := 2) dX9_meanOverlap_27 rfl (by decide) rfl ?_
    refine r_iconst (pc := 28) C (v := 0) dX9_meanOverlap_28 (by decide) ?_
    refine r_istore_n (pc := 29) C (i := 3) dX9_meanOverlap_29 rfl (by decide) rfl ?_
    refine r_weak (lSub_s (lSub_s (lSub_s (lSub_s (lSub_n lSub_e))))) ?_
    exact N_X9_meanOverlap_30 C a k S k v6 (0 : Int32) (0 : Int32) q  h hq
  · rw [if_neg c7] at h
    refine r_dconst0 (pc := 24) C dX9_meanOverlap_24 ?_
    cases h
    exact r_dret (pc := 25) C hq (Nat.zero_le _) (Nat.zero_le _) dX9_meanOverlap_25
def M_X9_meanOverlap (k : Nat) (S : VV × VV × VV × VV × VV × Int32) : Option (UInt64) := M_X9_meanOverlap_0 k S
set_option maxRecDepth 100000 in
set_option maxHeartbeats 4000000 in
theorem c_X9_meanOverlap (E : ENV) (l : Launch) (k : Nat) (a : Nat → Nat) (S : VV × VV × VV × VV × VV × Int32) {q : UInt64} (hm : M_X9_meanOverlap k S = some q) : CD E l yX9_meanOverlap cX9_meanOverlap 5 (some .double) rm_X9_meanOverlap [.ref (a 0)] (wSg E a S) (fun r w' => r = q ∧ w' = (wSg E a S)) :=
  CD.of 4 (by decide) (Nat.le_of_ble_eq_true rfl) (fun p e s m below meth c A C  => r_weak (lSub_s (lSub_n (lSub_n (lSub_n (lSub_n lSub_e))))) (N_X9_meanOverlap_0 C a k S q  hm ⟨rfl, rfl⟩))
-- ShardGuard.served()F
theorem dX9_served_0 : decode cX9_served 0 = .ok (.aload_n 0, 1) := by decide +kernel
theorem dX9_served_1 : decode cX9_served 1 = .ok (.getfield 12, 3) := by decide +kernel
theorem dX9_served_4 : decode cX9_served 4 = .ok (.getfield 100, 3) := by decide +kernel
theorem dX9_served_7 : decode cX9_served 7 = .ok (.ifCond .gt 5, 3) := by decide +kernel
theorem dX9_served_10 : decode cX9_served 10 = .ok (.fconst 0, 1) := by decide +kernel
theorem dX9_served_11 : decode cX9_served 11 = .ok (.freturn, 1) := by decide +kernel
theorem dX9_served_12 : decode cX9_served 12 = .ok (.aload_n 0, 1) := by decide +kernel
theorem dX9_served_13 : decode cX9_served 13 = .ok (.getfield 12, 3) := by decide +kernel
theorem dX9_served_16 : decode cX9_served 16 = .ok (.invokevirtual 249, 3) := by decide +kernel
theorem dX9_served_19 : decode cX9_served 19 = .ok (.i2f, 1) := by decide +kernel
theorem dX9_served_20 : decode cX9_served 20 = .ok (.aload_n 0, 1) := by decide +kernel
theorem dX9_served_21 : decode cX9_served 21 = .ok (.getfield 12, 3) := by decide +kernel
theorem dX9_served_24 : decode cX9_served 24 = .ok (.getfield 100, 3) := by decide +kernel
theorem dX9_served_27 : decode cX9_served 27 = .ok (.i2f, 1) := by decide +kernel
theorem dX9_served_28 : decode cX9_served 28 = .ok (.fdiv, 1) := by decide +kernel
theorem dX9_served_29 : decode cX9_served 29 = .ok (.freturn, 1) := by decide +kernel
def rm_X9_served : Room := { frames := 2, cells := 0, slots := 0, locals := 46 }
def M_X9_served_0 (k : Nat) (S : VV × VV × VV × VV × VV × Int32) : Option (UInt32) := if 0 < ((S.1) 0 3) then ((M_X0_done k (S.1)).bind fun q2 => (if (FP.fdiv (FP.i2f q2) (FP.i2f ((S.1) 0 3))) &&& (0x7fffffff : UInt32) ≤ (0x7f800000 : UInt32) then some (FP.fdiv (FP.i2f q2) (FP.i2f ((S.1) 0 3))) else none)) else (some FP.fconst0)
set_option maxRecDepth 100000 in
set_option maxHeartbeats 4000000 in
theorem N_X9_served_0 (C : CX E p l s m args meth c cX9_served 1 RX9 (some .float) A) (a : Nat → Nat) (k : Nat) (S : VV × VV × VV × VV × VV × Int32) {post : UInt32 → va_W → Prop} :
    ∀ (q : UInt32), M_X9_served_0 k S = some q → post q (wSg E a S) →
      WW E p l e rm_X9_served s m args below meth c A 0 0 (QF E below post args s rm_X9_served A) (wSg E a S) 1 [some (.ref (a 0))] 0 [] := by
  intro  q  h hq
  unfold M_X9_served_0 at h
  refine r_aload_n (pc := 0) C (i := 0) dX9_served_0 rfl rfl ?_
  refine r_get (pc := 1) C gwX9 0 rfl rfl 0 (by decide) wm_2_15 rfl dX9_served_1 ?_
  refine r_get (pc := 4) C gwX0 1 rfl rfl 3 (by decide) wm_1_103 rfl dX9_served_4 ?_
  refine r_if_gt (pc := 7) C (tgt := 12) dX9_served_7 rfl (fun c1 => ?_) (fun c1 => ?_)
  · rw [if_pos c1] at h
    refine r_aload_n (pc := 12) C (i := 0) dX9_served_12 rfl rfl ?_
    refine r_get (pc := 13) C gwX9 0 rfl rfl 0 (by decide) wm_2_15 rfl dX9_served_13 ?_
    obtain ⟨q2, hq2, h⟩ := bnd h
    refine r_callVp_CI (Cn := RX0) (pc := 16) C [] (c_X0_done E l k (fun i => a (i + 1)) (S.1) hq2) [1, 2, 3, 4, 5, 6, 7, 8, 9, 10, 11, 12, 13, 14, 15, 16, 17, 18] (hp_X9_size_0 E a S) (by decide) 0 rfl rfl rfl g_X9_249 hd_X0_done ⟨Nat.le_of_ble_eq_true rfl, Nat.le_of_ble_eq_true rfl⟩ ⟨Nat.zero_le _, Nat.zero_le _⟩ (Nat.le_of_ble_eq_true rfl) rfl dX9_served_16 (fun r hr => ?_)
    have hr := hr.symm
    subst hr
    refine r_i2f (pc := 19) C dX9_served_19 ?_
    refine r_aload_n (pc := 20) C (i := 0) dX9_served_20 rfl rfl ?_
    refine r_get (pc := 21) C gwX9 0 rfl rfl 0 (by decide) wm_2_15 rfl dX9_served_21 ?_
    refine r_get (pc := 24) C gwX0 1 rfl rfl 3 (by decide) wm_1_103 rfl dX9_served_24 ?_
    refine r_i2f (pc := 27) C dX9_served_27 ?_
    obtain ⟨hn3, h⟩ := ifn h
    refine r_fdiv (pc := 28) C dX9_served_28 hn3 ?_
    cases h
    exact r_fret (pc := 29) C hq (Nat.zero_le _) (Nat.zero_le _) dX9_served_29
  · rw [if_neg c1] at h
    refine r_fconst0 (pc := 10) C dX9_served_10 ?_
    cases h
    exact r_fret (pc := 11) C hq (Nat.zero_le _) (Nat.zero_le _) dX9_served_11
def M_X9_served (k : Nat) (S : VV × VV × VV × VV × VV × Int32) : Option (UInt32) := M_X9_served_0 k S
set_option maxRecDepth 100000 in
set_option maxHeartbeats 4000000 in
theorem c_X9_served (E : ENV) (l : Launch) (k : Nat) (a : Nat → Nat) (S : VV × VV × VV × VV × VV × Int32) {q : UInt32} (hm : M_X9_served k S = some q) : CF E l yX9_served cX9_served 1 (some .float) rm_X9_served [.ref (a 0)] (wSg E a S) (fun r w' => r = q ∧ w' = (wSg E a S)) :=
  CF.of 0 (by decide) (Nat.le_of_ble_eq_true rfl) (fun p e s m below meth c A C  => r_weak (lSub_s lSub_e) (N_X9_served_0 C a k S q  hm ⟨rfl, rfl⟩))
theorem hd_X2_keep : yX2_keep.cls = RX2 ∧ yX2_keep.cls ≠ "java/lang/invoke/MethodHandle" ∧ yX2_keep.cls ≠ "java/lang/invoke/VarHandle" ∧ (parseMethodDescriptor yX2_keep.desc).map (fun d => d.parameters.length) = some 1 := by decide +kernel
theorem g_X9_254 : GoodIn GW (wsV RX9 254 RX2 yX2_keep (wsG yX2_keep cX2_keep 3 none)) := gw_V wm_5_4 wm_5_5 wm_5_6 wm_1_6 wm_5_7
-- ShardGuard.pass(I)I
set_option maxHeartbeats 8000000 in
theorem hp_X9_pass_0 (E : ENV) (a : Nat → Nat) (fa : Nat → Nat → Nat) (S : VV × VV × VV × VV × VV × Int32) (T : Nat × Int32 × Int32 × (Nat → VV)) : ([1, 2, 3, 4, 5, 6, 7, 8, 9, 10, 11, 12, 13, 14, 15, 16, 17, 18] : List Nat).map (fun i => ((wSg E a S) ++ hiC E a fa T)[i]?) = (wFl E (fun i => a (i + 1)) (S.1)).map some := (seg_mapL ([(a 0, .inr (7, [.ref (a 1), .ref (a 19), .ref (a 37), .int ((S.2.2.2.2.2)), .ref (a 61), .ref (a 55), .ref (a 58)]))]) (wFl E (fun i => a (i + 1)) (S.1)) (wFl E (fun i => a (i + 19)) (S.2.1) ++ (wFl E (fun i => a (i + 37)) (S.2.2.1) ++ (wTk E (fun i => a (i + 55)) (S.2.2.2.1) ++ (wTx E (fun i => a (i + 58)) (S.2.2.2.2.1) ++ (hiC E a fa T))))) (by first | (simp only [wSg, List.append_assoc, List.nil_append, List.append_nil]; done) | (simp only [wSg, List.append_assoc, List.nil_append, List.append_nil]; rfl) | rfl) 18 rfl [1, 2, 3, 4, 5, 6, 7, 8, 9, 10, 11, 12, 13, 14, 15, 16, 17, 18] (by first | (simp only [List.length_append, List.length_cons, List.length_nil, wFl_len, wTk_len, wTx_len]; rfl) | rfl))
set_option maxHeartbeats 8000000 in
theorem pw_X9_pass_0 (E : ENV) (a : Nat → Nat) (fa : Nat → Nat → Nat) (S : VV × VV × VV × VV × VV × Int32) (T : Nat × Int32 × Int32 × (Nat → VV)) (X0 : Nat → Nat → Int32) : putW ((wSg E a S) ++ hiC E a fa T) [1, 2, 3, 4, 5, 6, 7, 8, 9, 10, 11, 12, 13, 14, 15, 16, 17, 18] (wFl E (fun i => a (i + 1)) X0) = some ((wSg E a (X0, S.2)) ++ hiC E a fa T) := seg_put1 ([(a 0, .inr (7, [.ref (a 1), .ref (a 19), .ref (a 37), .int ((S.2.2.2.2.2)), .ref (a 61), .ref (a 55), .ref (a 58)]))]) (wFl E (fun i => a (i + 1)) (S.1)) (wFl E (fun i => a (i + 1)) X0) (wFl E (fun i => a (i + 19)) (S.2.1) ++ (wFl E (fun i => a (i + 37)) (S.2.2.1) ++ (wTk E (fun i => a (i + 55)) (S.2.2.2.1) ++ (wTx E (fun i => a (i + 58)) (S.2.2.2.2.1) ++ (hiC E a fa T))))) (by first | (simp only [wSg, List.append_assoc, List.nil_append, List.append_nil]; done) | (simp only [wSg, List.append_assoc, List.nil_append, List.append_nil]; rfl) | rfl) (by first | (simp only [wSg, List.append_assoc, List.nil_append, List.append_nil]; done) | (simp only [wSg, List.append_assoc, List.nil_append, List.append_nil]; rfl) | rfl) 18 rfl rfl [1, 2, 3, 4, 5, 6, 7, 8, 9, 10, 11, 12, 13, 14, 15, 16, 17, 18] (by first | (simp only [List.length_append, List.length_cons, List.length_nil, wFl_len, wTk_len, wTx_len]; rfl) | rfl)
theorem dX9_pass_0 : decode cX9_pass 0 = .ok (.iload_n 1, 1) := by decide +kernel
theorem dX9_pass_1 : decode cX9_pass 1 = .ok (.iconst 1, 1) := by decide +kernel
theorem dX9_pass_2 : decode cX9_pass 2 = .ok (.if_icmp .lt 9, 3) := by decide +kernel
theorem dX9_pass_5 : decode cX9_pass 5 = .ok (.iload_n 1, 1) := by decide +kernel
theorem dX9_pass_6 : decode cX9_pass 6 = .ok (.bipush 100, 2) := by decide +kernel
theorem dX9_pass_8 : decode cX9_pass 8 = .ok (.if_icmp .le 14, 3) := by decide +kernel
theorem dX9_pass_11 : decode cX9_pass 11 = .ok (.new 59, 3) := by decide +kernel
theorem dX9_pass_14 : decode cX9_pass 14 = .ok (.dup, 1) := by decide +kernel
theorem dX9_pass_15 : decode cX9_pass 15 = .ok (.ldc_w 261, 3) := by decide +kernel
theorem dX9_pass_18 : decode cX9_pass 18 = .ok (.invokespecial 63, 3) := by decide +kernel
theorem dX9_pass_21 : decode cX9_pass 21 = .ok (.athrow, 1) := by decide +kernel
theorem dX9_pass_22 : decode cX9_pass 22 = .ok (.aload_n 0, 1) := by decide +kernel
theorem dX9_pass_23 : decode cX9_pass 23 = .ok (.getfield 12, 3) := by decide +kernel
theorem dX9_pass_26 : decode cX9_pass 26 = .ok (.getfield 103, 3) := by decide +kernel
theorem dX9_pass_29 : decode cX9_pass 29 = .ok (.iload_n 1, 1) := by decide +kernel
theorem dX9_pass_30 : decode cX9_pass 30 = .ok (.iadd, 1) := by decide +kernel
theorem dX9_pass_31 : decode cX9_pass 31 = .ok (.sipush 9999, 3) := by decide +kernel
theorem dX9_pass_34 : decode cX9_pass 34 = .ok (.if_icmp .le 6, 3) := by decide +kernel
theorem dX9_pass_37 : decode cX9_pass 37 = .ok (.bipush (-2), 2) := by decide +kernel
theorem dX9_pass_39 : decode cX9_pass 39 = .ok (.ireturn, 1) := by decide +kernel
theorem dX9_pass_40 : decode cX9_pass 40 = .ok (.aload_n 0, 1) := by decide +kernel
theorem dX9_pass_41 : decode cX9_pass 41 = .ok (.getfield 29, 3) := by decide +kernel
theorem dX9_pass_44 : decode cX9_pass 44 = .ok (.aload_n 0, 1) := by decide +kernel
theorem dX9_pass_45 : decode cX9_pass 45 = .ok (.getfield 12, 3) := by decide +kernel
theorem dX9_pass_48 : decode cX9_pass 48 = .ok (.invokevirtual 254, 3) := by decide +kernel
theorem dX9_pass_51 : decode cX9_pass 51 = .ok (.aload_n 0, 1) := by decide +kernel
theorem dX9_pass_52 : decode cX9_pass 52 = .ok (.getfield 12, 3) := by decide +kernel
theorem dX9_pass_55 : decode cX9_pass 55 = .ok (.getfield 118, 3) := by decide +kernel
theorem dX9_pass_58 : decode cX9_pass 58 = .ok (.getfield 122, 3) := by decide +kernel
theorem dX9_pass_61 : decode cX9_pass 61 = .ok (.istore_n 2, 1) := by decide +kernel
theorem dX9_pass_62 : decode cX9_pass 62 = .ok (.iconst 0, 1) := by decide +kernel
theorem dX9_pass_63 : decode cX9_pass 63 = .ok (.istore_n 3, 1) := by decide +kernel
theorem dX9_pass_64 : decode cX9_pass 64 = .ok (.iload_n 3, 1) := by decide +kernel
theorem dX9_pass_65 : decode cX9_pass 65 = .ok (.iload_n 1, 1) := by decide +kernel
theorem dX9_pass_66 : decode cX9_pass 66 = .ok (.if_icmp .ge 16, 3) := by decide +kernel
theorem dX9_pass_69 : decode cX9_pass 69 = .ok (.aload_n 0, 1) := by decide +kernel
theorem dX9_pass_70 : decode cX9_pass 70 = .ok (.getfield 12, 3) := by decide +kernel
theorem dX9_pass_73 : decode cX9_pass 73 = .ok (.invokevirtual 244, 3) := by decide +kernel
theorem dX9_pass_76 : decode cX9_pass 76 = .ok (.iinc 3 1, 3) := by decide +kernel
theorem dX9_pass_79 : decode cX9_pass 79 = .ok (.goto (-15), 3) := by decide +kernel
theorem dX9_pass_82 : decode cX9_pass 82 = .ok (.aload_n 0, 1) := by decide +kernel
theorem dX9_pass_83 : decode cX9_pass 83 = .ok (.getfield 12, 3) := by decide +kernel
theorem dX9_pass_86 : decode cX9_pass 86 = .ok (.getfield 118, 3) := by decide +kernel
theorem dX9_pass_89 : decode cX9_pass 89 = .ok (.getfield 122, 3) := by decide +kernel
theorem dX9_pass_92 : decode cX9_pass 92 = .ok (.iload_n 2, 1) := by decide +kernel
theorem dX9_pass_93 : decode cX9_pass 93 = .ok (.isub, 1) := by decide +kernel
theorem dX9_pass_94 : decode cX9_pass 94 = .ok (.ireturn, 1) := by decide +kernel
def rm_X9_pass : Room := { frames := 6, cells := 18, slots := 1488, locals := 222 }
def M_X9_pass_64 (k : Nat) : Nat → (Int32) → (Int32) → (Int32) → (VV × VV × VV × VV × VV × Int32) → (Nat × Int32 × Int32 × (Nat → VV)) → Option (Int32 × Int32 × (VV × VV × VV × VV × VV × Int32) × (Nat × Int32 × Int32 × (Nat → VV)))
  | 0, _, _, _, _, _ => none
  | n + 1, x1, x2, x3, S, T => if x1 ≤ x3 then (some ((0 : Int32), (((klF (S.1)) 0 0) - x2), S, T)) else ((M_X0_tick k (S.1)).bind fun q2 => lt ((q2, S.2)) fun F3 => M_X9_pass_64 k n x1 x2 (x3 + 1) F3 T)
theorem M_X9_pass_64_s (k : Nat) (n : Nat) (x1 : Int32) (x2 : Int32) (x3 : Int32) (S : VV × VV × VV × VV × VV × Int32) (T : Nat × Int32 × Int32 × (Nat → VV)) : M_X9_pass_64 k (n + 1) x1 x2 x3 S T = (if x1 ≤ x3 then (some ((0 : Int32), (((klF (S.1)) 0 0) - x2), S, T)) else ((M_X0_tick k (S.1)).bind fun q2 => lt ((q2, S.2)) fun F3 => M_X9_pass_64 k n x1 x2 (x3 + 1) F3 T)) := rfl
set_option maxRecDepth 100000 in
set_option maxHeartbeats 4000000 in
theorem N_X9_pass_64 (C : CX E p l s m args meth c cX9_pass 4 RX9 (some .int) A) (a : Nat → Nat) (k : Nat) (fa : Nat → Nat → Nat) {post : Int32 → va_W → Prop} {px : Int32 → va_W → Prop} (hlt : l.stackTraces = false) (hno : ∀ x ∈ c.exceptionTable.toList, False) (hdc : DC s) :
    ∀ (n : Nat) (x1 : Int32) (x2 : Int32) (x3 : Int32) (S : VV × VV × VV × VV × VV × Int32) (T : Nat × Int32 × Int32 × (Nat → VV)) (q : Int32 × Int32 × (VV × VV × VV × VV × VV × Int32) × (Nat × Int32 × Int32 × (Nat → VV))), M_X9_pass_64 k n x1 x2 x3 S T = some q → (∀ fa' : Nat → Nat → Nat, T.1 ≤ q.2.2.2.1 → TI post px q.1 q.2.1 (wSg E a q.2.2.1 ++ wHi E a fa' q.2.2.2)) →
      WW E p l e rm_X9_pass s m args below meth c A 18 1488 (QXI E below post px args s rm_X9_pass A) (wSg E a S ++ wHi E a fa T) 4 [some (.ref (a 0)), some (.int x1), some (.int x2), some (.int x3)] 64 [] := by
  intro n
  induction n with
  | zero => intro x1 x2 x3 S T q  h _; cases h
  | succ n ih =>
    intro x1 x2 x3 S T q  h hq
    rw [M_X9_pass_64_s] at h
    refine r_iload_n (pc := 64) C (i := 3) dX9_pass_64 rfl rfl ?_
    refine r_iload_n (pc := 65) C (i := 1) dX9_pass_65 rfl rfl ?_
    refine r_icmp_ge (pc := 66) C (tgt := 82) dX9_pass_66 rfl (fun c1 => ?_) (fun c1 => ?_)
    · rw [if_pos c1] at h
      refine r_aload_n (pc := 82) C (i := 0) dX9_pass_82 rfl rfl ?_
      refine r_get (pc := 83) C gwX9 0 rfl rfl 0 (by decide) wm_2_15 rfl dX9_pass_83 ?_
      refine r_get (pc := 86) C gwX0 1 rfl rfl 10 (by decide) wm_1_120 rfl dX9_pass_86 ?_
      refine r_get (pc := 89) C gwX3 10 rfl rfl 0 (by decide) wm_1_78 rfl dX9_pass_89 ?_
      refine r_iload_n (pc := 92) C (i := 2) dX9_pass_92 rfl rfl ?_
      refine r_isub (pc := 93) C dX9_pass_93 ?_
      cases h
      exact r_xI (r_ireti (pc := 94) C (TI_0 (hq fa (Nat.le_refl _))) (Nat.le_of_ble_eq_true rfl) (Nat.le_of_ble_eq_true rfl) dX9_pass_94)
    · rw [if_neg c1] at h
      refine r_aload_n (pc := 69) C (i := 0) dX9_pass_69 rfl rfl ?_
      refine r_get (pc := 70) C gwX9 0 rfl rfl 0 (by decide) wm_2_15 rfl dX9_pass_70 ?_
      obtain ⟨q2, hq2, h⟩ := bnd h
      obtain ⟨F3, hF3, h⟩ := lt_e h
      refine r_callV_CV (Cn := RX0) (pc := 73) C [] (c_X0_tick E l k (fun i => a (i + 1)) (S.1) hq2) [1, 2, 3, 4, 5, 6, 7, 8, 9, 10, 11, 12, 13, 14, 15, 16, 17, 18] (hps_hi (List.append_assoc _ _ _).symm (hp_X9_pass_0 E a fa S T)) (by decide) 0 rfl rfl rfl g_X9_244 hd_X0_tick ⟨Nat.le_of_ble_eq_true rfl, Nat.le_of_ble_eq_true rfl⟩ ⟨Nat.le_of_ble_eq_true rfl, Nat.le_of_ble_eq_true rfl⟩ (Nat.le_of_ble_eq_true rfl) rfl dX9_pass_73 (fun w1 hw1 => ?_)
      subst hw1
      refine ⟨(wSg E a F3 ++ wHi E a fa T), by rw [hF3]; exact putW_hi (List.append_assoc _ _ _).symm (List.append_assoc _ _ _).symm (hp_X9_pass_0 E a fa S T) rfl (pw_X9_pass_0 E a fa S T q2), ?_⟩
      refine r_iinc (pc := 76) C (v := (x3 + 1)) dX9_pass_76 rfl rfl (by decide) rfl ?_
      refine r_goto (pc := 79) C (tgt := 64) dX9_pass_79 rfl ?_
      refine r_weak (lSub_s (lSub_s (lSub_s (lSub_s lSub_e)))) ?_
      exact ih x1 x2 (x3 + 1) F3 T q  h hq
def M_X9_pass_0 (k : Nat) (p0 : Int32) (S : VV × VV × VV × VV × VV × Int32) (T : Nat × Int32 × Int32 × (Nat → VV)) : Option (Int32 × Int32 × (VV × VV × VV × VV × VV × Int32) × (Nat × Int32 × Int32 × (Nat → VV))) := if p0 < (1 : Int32) then (some ((2 : Int32), (0 : Int32), S, T)) else (if p0 ≤ (100 : Int32) then (if (((S.1) 0 4) + p0) ≤ (9999 : Int32) then ((Hkeep k T (S.1)).bind fun q7 => lt ((klF (S.1)) 0 0) fun v9 => M_X9_pass_64 k k p0 v9 (0 : Int32) S q7) else (some ((0 : Int32), (-2 : Int32), S, T))) else (some ((2 : Int32), (0 : Int32), S, T)))
set_option maxRecDepth 100000 in
set_option maxHeartbeats 4000000 in
theorem N_X9_pass_0 (C : CX E p l s m args meth c cX9_pass 4 RX9 (some .int) A) (a : Nat → Nat) (k : Nat) (fa : Nat → Nat → Nat) {post : Int32 → va_W → Prop} {px : Int32 → va_W → Prop} (hlt : l.stackTraces = false) (hno : ∀ x ∈ c.exceptionTable.toList, False) (hdc : DC s) :
    ∀ (p0 : Int32) (S : VV × VV × VV × VV × VV × Int32) (T : Nat × Int32 × Int32 × (Nat → VV)) (q : Int32 × Int32 × (VV × VV × VV × VV × VV × Int32) × (Nat × Int32 × Int32 × (Nat → VV))), M_X9_pass_0 k p0 S T = some q → (∀ fa' : Nat → Nat → Nat, T.1 ≤ q.2.2.2.1 → TI post px q.1 q.2.1 (wSg E a q.2.2.1 ++ wHi E a fa' q.2.2.2)) →
      WW E p l e rm_X9_pass s m args below meth c A 0 0 (QXI E below post px args s rm_X9_pass A) (wSg E a S ++ wHi E a fa T) 4 [some (.ref (a 0)), some (.int p0), none, none] 0 [] := by
  intro p0 S T q  h hq
  unfold M_X9_pass_0 at h
  refine r_iload_n (pc := 0) C (i := 1) dX9_pass_0 rfl rfl ?_
  refine r_iconst (pc := 1) C (v := 1) dX9_pass_1 (by decide) ?_
  refine r_icmp_lt (pc := 2) C (tgt := 11) dX9_pass_2 rfl (fun c4 => ?_) (fun c4 => ?_)
  · rw [if_pos c4] at h
    cases h
    exact r_throwAW (pc := 11) C hlt hno hdc 25 rfl wm_2_186 wm_1_13 dX9_pass_11 dX9_pass_14 dX9_pass_15 dX9_pass_18 dX9_pass_21 (Nat.le_of_ble_eq_true rfl) (Nat.le_of_ble_eq_true rfl) (Nat.le_of_ble_eq_true rfl) (Nat.le_of_ble_eq_true rfl) (Nat.le_of_ble_eq_true rfl) (TI_x (by decide) (hq fa (Nat.le_refl _)))
  · rw [if_neg c4] at h
    refine r_iload_n (pc := 5) C (i := 1) dX9_pass_5 rfl rfl ?_
    refine r_bipush (pc := 6) C (v := 100) dX9_pass_6 (by decide) ?_
    refine r_icmp_le (pc := 8) C (tgt := 22) dX9_pass_8 rfl (fun c5 => ?_) (fun c5 => ?_)
    · rw [if_pos c5] at h
      refine r_aload_n (pc := 22) C (i := 0) dX9_pass_22 rfl rfl ?_
      refine r_get (pc := 23) C gwX9 0 rfl rfl 0 (by decide) wm_2_15 rfl dX9_pass_23 ?_
      refine r_get (pc := 26) C gwX0 1 rfl rfl 4 (by decide) wm_1_105 rfl dX9_pass_26 ?_
      refine r_iload_n (pc := 29) C (i := 1) dX9_pass_29 rfl rfl ?_
      refine r_iadd (pc := 30) C dX9_pass_30 ?_
      refine r_sipush (pc := 31) C (v := 9999) dX9_pass_31 (by decide) ?_
      refine r_icmp_le (pc := 34) C (tgt := 40) dX9_pass_34 rfl (fun c6 => ?_) (fun c6 => ?_)
      · rw [if_pos c6] at h
        refine r_aload_n (pc := 40) C (i := 0) dX9_pass_40 rfl rfl ?_
        refine r_get (pc := 41) C gwX9 0 rfl rfl 4 (by decide) wm_2_19 rfl dX9_pass_41 ?_
        refine r_aload_n (pc := 44) C (i := 0) dX9_pass_44 rfl rfl ?_
        refine r_get (pc := 45) C gwX9 0 rfl rfl 0 (by decide) wm_2_15 rfl dX9_pass_45 ?_
        obtain ⟨q7, hq7, h⟩ := bnd h
        refine r_callT_CV (Cn := RX2) (c0 := wFl E (fun i => a (i + 1)) (S.1) ++ hiC E a fa T) (w0 := ((wSg E a S) ++ hiC E a fa T)) (t := hiT E fa T) (pc := 48) C [.ref (a 1)] (c_X2_keep E l k a (fun i => a (i + 1)) fa T (S.1) hq7) [1, 2, 3, 4, 5, 6, 7, 8, 9, 10, 11, 12, 13, 14, 15, 16, 17, 18, 61, 62] (hpH2 E a fa S T) (by decide) 18 rfl rfl rfl g_X9_254 hd_X2_keep ⟨Nat.le_of_ble_eq_true rfl, Nat.le_of_ble_eq_true rfl⟩ ⟨Nat.le_of_ble_eq_true rfl, Nat.le_of_ble_eq_true rfl⟩ (Nat.le_of_ble_eq_true rfl) rfl dX9_pass_48 (List.append_assoc _ _ _).symm (fun w1 hw1 => ?_)
        obtain ⟨fa8, hw1⟩ := hw1
        subst hw1
        refine ⟨wFl E (fun i => a (i + 1)) (S.1) ++ hiC E a fa8 q7, hiT E fa8 q7, (wSg E a S) ++ hiC E a fa8 q7, (List.append_assoc _ _ _).symm, rfl, hiT_le (Hkeep_h hq7), pwH2 E a _ _ _ _ _ _, ?_⟩
        refine r_world (List.append_assoc _ _ _) ?_
        refine r_aload_n (pc := 51) C (i := 0) dX9_pass_51 rfl rfl ?_
        refine r_get (pc := 52) C gwX9 0 rfl rfl 0 (by decide) wm_2_15 rfl dX9_pass_52 ?_
        refine r_get (pc := 55) C gwX0 1 rfl rfl 10 (by decide) wm_1_120 rfl dX9_pass_55 ?_
        refine r_get (pc := 58) C gwX3 10 rfl rfl 0 (by decide) wm_1_78 rfl dX9_pass_58 ?_
        obtain ⟨v9, hv9, h⟩ := lt_e h
        refine r_topi hv9 ?_
        refine r_istore_n (pc := 61) C (i := 2) dX9_pass_61 rfl (by decide) rfl ?_
        refine r_iconst (pc := 62) C (v := 0) dX9_pass_62 (by decide) ?_
        refine r_istore_n (pc := 63) C (i := 3) dX9_pass_63 rfl (by decide) rfl ?_
        refine r_weak (lSub_s (lSub_s (lSub_s (lSub_s lSub_e)))) ?_
        exact N_X9_pass_64 C a k fa8 hlt hno hdc k p0 v9 (0 : Int32) S q7 q  h (fun fa' hm' => hq fa' (Nat.le_trans (Nat.le_trans (Nat.le_refl _) (Hkeep_h hq7)) hm'))
      · rw [if_neg c6] at h
        refine r_bipush (pc := 37) C (v := (-2)) dX9_pass_37 (by decide) ?_
        have h := Option.some.inj h
        subst h
        exact r_xI (r_ireti (pc := 39) C (TI_0 (hq fa (Nat.le_refl _))) (Nat.zero_le _) (Nat.zero_le _) dX9_pass_39)
    · rw [if_neg c5] at h
      cases h
      exact r_throwAW (pc := 11) C hlt hno hdc 25 rfl wm_2_186 wm_1_13 dX9_pass_11 dX9_pass_14 dX9_pass_15 dX9_pass_18 dX9_pass_21 (Nat.le_of_ble_eq_true rfl) (Nat.le_of_ble_eq_true rfl) (Nat.le_of_ble_eq_true rfl) (Nat.le_of_ble_eq_true rfl) (Nat.le_of_ble_eq_true rfl) (TI_x (by decide) (hq fa (Nat.le_refl _)))
def M_X9_pass (k : Nat) (S : VV × VV × VV × VV × VV × Int32) (T : Nat × Int32 × Int32 × (Nat → VV)) (p0 : Int32) : Option (Int32 × Int32 × (VV × VV × VV × VV × VV × Int32) × (Nat × Int32 × Int32 × (Nat → VV))) := M_X9_pass_0 k p0 S T
set_option maxRecDepth 100000 in
set_option maxHeartbeats 4000000 in
theorem c_X9_pass (E : ENV) (l : Launch) (k : Nat) (a : Nat → Nat) (fa : Nat → Nat → Nat) (S : VV × VV × VV × VV × VV × Int32) (T : Nat × Int32 × Int32 × (Nat → VV)) (p0 : Int32) (hlt : l.stackTraces = false) {q : Int32 × Int32 × (VV × VV × VV × VV × VV × Int32) × (Nat × Int32 × Int32 × (Nat → VV))} (hm : M_X9_pass k S T p0 = some q) : XI E l yX9_pass cX9_pass 4 (some .int) rm_X9_pass [.ref (a 0), .int p0] (wSg E a S ++ wHi E a fa T) (fun r w' => q.1 = 0 ∧ r = q.2.1 ∧ ∃ fa' : Nat → Nat → Nat, w' = (wSg E a q.2.2.1 ++ wHi E a fa' q.2.2.2) ∧ T.1 ≤ q.2.2.2.1) (fun cd w' => cd = q.1 ∧ ¬ q.1 = 0 ∧ ∃ fa' : Nat → Nat → Nat, w' = (wSg E a q.2.2.1 ++ wHi E a fa' q.2.2.2) ∧ T.1 ≤ q.2.2.2.1) :=
  XI.of 2 (by decide) (Nat.le_of_ble_eq_true rfl) (fun p e s m below meth c A C hno hdc => r_weak (lSub_s (lSub_s (lSub_n (lSub_n lSub_e)))) (N_X9_pass_0 C a k fa hlt hno hdc p0 S T q  hm (fun fa' hm' => TI_of ⟨fa', rfl, hm'⟩)))
set_option maxRecDepth 100000 in
theorem c2_X9_pass (E : ENV) (l : Launch) (k : Nat) (a : Nat → Nat) (fa : Nat → Nat → Nat) (S : VV × VV × VV × VV × VV × Int32) (T : Nat × Int32 × Int32 × (Nat → VV)) (p0 : Int32) (hlt : l.stackTraces = false) {q : Int32 × Int32 × (VV × VV × VV × VV × VV × Int32) × (Nat × Int32 × Int32 × (Nat → VV))} (hm : M_X9_pass k S T p0 = some q) : XI E l yX9_pass cX9_pass 4 (some .int) rm_X9_pass [.ref (a 0), .int p0] (((wSg E a S) ++ hiC E a fa T) ++ hiT E fa T) (fun r w' => q.1 = 0 ∧ r = q.2.1 ∧ ∃ fa' : Nat → Nat → Nat, w' = (wSg E a q.2.2.1 ++ wHi E a fa' q.2.2.2) ∧ T.1 ≤ q.2.2.2.1) (fun cd w' => cd = q.1 ∧ ¬ q.1 = 0 ∧ ∃ fa' : Nat → Nat → Nat, w' = (wSg E a q.2.2.1 ++ wHi E a fa' q.2.2.2) ∧ T.1 ≤ q.2.2.2.1) := by
  rw [show ((wSg E a S) ++ hiC E a fa T) ++ hiT E fa T = (wSg E a S ++ wHi E a fa T) from List.append_assoc _ _ _]
  exact c_X9_pass E l k a fa S T p0 hlt hm
theorem g_X9_146 : GoodIn GW (wsV RX9 146 RX5 yX5_at (wsG yX5_at cX5_at 2 (some .int))) := gw_V wm_2_149 wm_2_150 wm_2_151 wm_1_3 wm_2_152
-- ShardGuard.formattedByte(I)I
set_option maxHeartbeats 8000000 in
theorem hp_X9_formattedByte_0 (E : ENV) (a : Nat → Nat) (S : VV × VV × VV × VV × VV × Int32) : ([59, 60] : List Nat).map (fun i => (wSg E a S)[i]?) = (wRow E (fun i => a (i + 59)) 428 ((S.2.2.2.2.1) 1)).map some := rfl
theorem dX9_formattedByte_0 : decode cX9_formattedByte 0 = .ok (.iload_n 1, 1) := by decide +kernel
theorem dX9_formattedByte_1 : decode cX9_formattedByte 1 = .ok (.ifCond .lt 28, 3) := by decide +kernel
theorem dX9_formattedByte_4 : decode cX9_formattedByte 4 = .ok (.iload_n 1, 1) := by decide +kernel
theorem dX9_formattedByte_5 : decode cX9_formattedByte 5 = .ok (.aload_n 0, 1) := by decide +kernel
theorem dX9_formattedByte_6 : decode cX9_formattedByte 6 = .ok (.getfield 43, 3) := by decide +kernel
theorem dX9_formattedByte_9 : decode cX9_formattedByte 9 = .ok (.getfield 292, 3) := by decide +kernel
theorem dX9_formattedByte_12 : decode cX9_formattedByte 12 = .ok (.if_icmp .ge 17, 3) := by decide +kernel
theorem dX9_formattedByte_15 : decode cX9_formattedByte 15 = .ok (.aload_n 0, 1) := by decide +kernel
theorem dX9_formattedByte_16 : decode cX9_formattedByte 16 = .ok (.getfield 43, 3) := by decide +kernel
theorem dX9_formattedByte_19 : decode cX9_formattedByte 19 = .ok (.getfield 295, 3) := by decide +kernel
theorem dX9_formattedByte_22 : decode cX9_formattedByte 22 = .ok (.iload_n 1, 1) := by decide +kernel
theorem dX9_formattedByte_23 : decode cX9_formattedByte 23 = .ok (.invokevirtual 146, 3) := by decide +kernel
theorem dX9_formattedByte_26 : decode cX9_formattedByte 26 = .ok (.goto 4, 3) := by decide +kernel
theorem dX9_formattedByte_29 : decode cX9_formattedByte 29 = .ok (.iconst (-1), 1) := by decide +kernel
theorem dX9_formattedByte_30 : decode cX9_formattedByte 30 = .ok (.ireturn, 1) := by decide +kernel
def rm_X9_formattedByte : Room := { frames := 1, cells := 0, slots := 0, locals := 21 }
def M_X9_formattedByte_0 (k : Nat) (S : VV × VV × VV × VV × VV × Int32) (p0 : Int32) : Option (Int32) := if p0 < 0 then (some (-1 : Int32)) else (if ((S.2.2.2.2.1) 0 0) ≤ p0 then (some (-1 : Int32)) else ((M_X5_at k 428 ((S.2.2.2.2.1) 1) p0).bind fun q3 => some q3))
set_option maxRecDepth 100000 in
set_option maxHeartbeats 4000000 in
theorem N_X9_formattedByte_0 (C : CX E p l s m args meth c cX9_formattedByte 2 RX9 (some .int) A) (a : Nat → Nat) (k : Nat) (S : VV × VV × VV × VV × VV × Int32) {post : Int32 → va_W → Prop} :
    ∀ (p0 : Int32) (q : Int32), M_X9_formattedByte_0 k S p0 = some q → post q (wSg E a S) →
      WW E p l e rm_X9_formattedByte s m args below meth c A 0 0 (QI E below post args s rm_X9_formattedByte A) (wSg E a S) 2 [some (.ref (a 0)), some (.int p0)] 0 [] := by
  intro p0 q  h hq
  unfold M_X9_formattedByte_0 at h
  refine r_iload_n (pc := 0) C (i := 1) dX9_formattedByte_0 rfl rfl ?_
  refine r_if_lt (pc := 1) C (tgt := 29) dX9_formattedByte_1 rfl (fun c1 => ?_) (fun c1 => ?_)
  · rw [if_pos c1] at h
    refine r_iconst (pc := 29) C (v := (-1)) dX9_formattedByte_29 (by decide) ?_
    have h := Option.some.inj h
    subst h
    exact r_ireti (pc := 30) C hq (Nat.zero_le _) (Nat.zero_le _) dX9_formattedByte_30
  · rw [if_neg c1] at h
    refine r_iload_n (pc := 4) C (i := 1) dX9_formattedByte_4 rfl rfl ?_
    refine r_aload_n (pc := 5) C (i := 0) dX9_formattedByte_5 rfl rfl ?_
    refine r_get (pc := 6) C gwX9 0 rfl rfl 6 (by decide) wm_2_21 rfl dX9_formattedByte_6 ?_
    refine r_get (pc := 9) C gwX8 58 rfl rfl 0 (by decide) wm_1_217 rfl dX9_formattedByte_9 ?_
    refine r_icmp_ge (pc := 12) C (tgt := 29) dX9_formattedByte_12 rfl (fun c2 => ?_) (fun c2 => ?_)
    · rw [if_pos c2] at h
      refine r_iconst (pc := 29) C (v := (-1)) dX9_formattedByte_29 (by decide) ?_
      have h := Option.some.inj h
      subst h
      exact r_ireti (pc := 30) C hq (Nat.zero_le _) (Nat.zero_le _) dX9_formattedByte_30
    · rw [if_neg c2] at h
      refine r_aload_n (pc := 15) C (i := 0) dX9_formattedByte_15 rfl rfl ?_
      refine r_get (pc := 16) C gwX9 0 rfl rfl 6 (by decide) wm_2_21 rfl dX9_formattedByte_16 ?_
      refine r_get (pc := 19) C gwX8 58 rfl rfl 1 (by decide) wm_1_219 rfl dX9_formattedByte_19 ?_
      refine r_iload_n (pc := 22) C (i := 1) dX9_formattedByte_22 rfl rfl ?_
      obtain ⟨q3, hq3, h⟩ := bnd h
      refine r_callVp_CI (Cn := RX5) (pc := 23) C [.int p0] (c_X5_at E l k (fun i => a (i + 59)) 428 ((S.2.2.2.2.1) 1) p0 hq3) [59, 60] (hp_X9_formattedByte_0 E a S) (by decide) 0 rfl rfl rfl g_X9_146 hd_X5_at ⟨Nat.le_of_ble_eq_true rfl, Nat.le_of_ble_eq_true rfl⟩ ⟨Nat.zero_le _, Nat.zero_le _⟩ (Nat.le_of_ble_eq_true rfl) rfl dX9_formattedByte_23 (fun r hr => ?_)
      have hr := hr.symm
      subst hr
      refine r_goto (pc := 26) C (tgt := 30) dX9_formattedByte_26 rfl ?_
      cases h
      exact r_ireti (pc := 30) C hq (Nat.zero_le _) (Nat.zero_le _) dX9_formattedByte_30
def M_X9_formattedByte (k : Nat) (S : VV × VV × VV × VV × VV × Int32) (p0 : Int32) : Option (Int32) := M_X9_formattedByte_0 k S p0
set_option maxRecDepth 100000 in
set_option maxHeartbeats 4000000 in
theorem c_X9_formattedByte (E : ENV) (l : Launch) (k : Nat) (a : Nat → Nat) (S : VV × VV × VV × VV × VV × Int32) (p0 : Int32) {q : Int32} (hm : M_X9_formattedByte k S p0 = some q) : CI E l yX9_formattedByte cX9_formattedByte 2 (some .int) rm_X9_formattedByte [.ref (a 0), .int p0] (wSg E a S) (fun r w' => r = q ∧ w' = (wSg E a S)) :=
  CI.of 0 (by decide) (Nat.le_of_ble_eq_true rfl) (fun p e s m below meth c A C _ => r_weak (lSub_s (lSub_s lSub_e)) (N_X9_formattedByte_0 C a k S p0 q  hm ⟨rfl, rfl⟩))
-- ShardGuard.undoCount()I
theorem dX9_undoCount_0 : decode cX9_undoCount 0 = .ok (.aload_n 0, 1) := by decide +kernel
theorem dX9_undoCount_1 : decode cX9_undoCount 1 = .ok (.getfield 29, 3) := by decide +kernel
theorem dX9_undoCount_4 : decode cX9_undoCount 4 = .ok (.getfield 298, 3) := by decide +kernel
theorem dX9_undoCount_7 : decode cX9_undoCount 7 = .ok (.ireturn, 1) := by decide +kernel
def rm_X9_undoCount : Room := { frames := 0, cells := 0, slots := 0, locals := 0 }
def M_X9_undoCount_0 (k : Nat) (S : VV × VV × VV × VV × VV × Int32) (T : Nat × Int32 × Int32 × (Nat → VV)) : Option (Int32) := some ((T.2.1))
set_option maxRecDepth 100000 in
set_option maxHeartbeats 4000000 in
theorem N_X9_undoCount_0 (C : CX E p l s m args meth c cX9_undoCount 1 RX9 (some .int) A) (a : Nat → Nat) (k : Nat) (S : VV × VV × VV × VV × VV × Int32) (T : Nat × Int32 × Int32 × (Nat → VV)) (fa : Nat → Nat → Nat) {post : Int32 → va_W → Prop} :
    ∀ (q : Int32), M_X9_undoCount_0 k S T = some q → (∀ fa' : Nat → Nat → Nat, post q (wSg E a S ++ wHi E a fa' T)) →
      WW E p l e rm_X9_undoCount s m args below meth c A 0 0 (QI E below post args s rm_X9_undoCount A) (wSg E a S ++ wHi E a fa T) 1 [some (.ref (a 0))] 0 [] := by
  intro  q  h hq
  unfold M_X9_undoCount_0 at h
  refine r_aload_n (pc := 0) C (i := 0) dX9_undoCount_0 rfl rfl ?_
  refine r_get (pc := 1) C gwX9 0 rfl rfl 4 (by decide) wm_2_19 rfl dX9_undoCount_1 ?_
  refine r_get (pc := 4) C gwX2 61 rfl rfl 0 (by decide) wm_1_159 rfl dX9_undoCount_4 ?_
  cases h
  exact r_ireti (pc := 7) C (hq fa) (Nat.zero_le _) (Nat.zero_le _) dX9_undoCount_7
def M_X9_undoCount (k : Nat) (S : VV × VV × VV × VV × VV × Int32) (T : Nat × Int32 × Int32 × (Nat → VV)) : Option (Int32) := M_X9_undoCount_0 k S T
set_option maxRecDepth 100000 in
set_option maxHeartbeats 4000000 in
theorem c_X9_undoCount (E : ENV) (l : Launch) (k : Nat) (a : Nat → Nat) (fa : Nat → Nat → Nat) (S : VV × VV × VV × VV × VV × Int32) (T : Nat × Int32 × Int32 × (Nat → VV)) {q : Int32} (hm : M_X9_undoCount k S T = some q) : CI E l yX9_undoCount cX9_undoCount 1 (some .int) rm_X9_undoCount [.ref (a 0)] (wSg E a S ++ wHi E a fa T) (fun r w' => r = q ∧ ∃ fa' : Nat → Nat → Nat, w' = (wSg E a S ++ wHi E a fa' T)) :=
  CI.of 0 (by decide) (Nat.le_of_ble_eq_true rfl) (fun p e s m below meth c A C _ => r_weak (lSub_s lSub_e) (N_X9_undoCount_0 C a k S T fa q  hm (fun fa' => ⟨rfl, fa', rfl⟩)))
set_option maxRecDepth 100000 in
theorem c2_X9_undoCount (E : ENV) (l : Launch) (k : Nat) (a : Nat → Nat) (fa : Nat → Nat → Nat) (S : VV × VV × VV × VV × VV × Int32) (T : Nat × Int32 × Int32 × (Nat → VV)) {q : Int32} (hm : M_X9_undoCount k S T = some q) : CI E l yX9_undoCount cX9_undoCount 1 (some .int) rm_X9_undoCount [.ref (a 0)] (((wSg E a S) ++ hiC E a fa T) ++ hiT E fa T) (fun r w' => r = q ∧ ∃ fa' : Nat → Nat → Nat, w' = (wSg E a S ++ wHi E a fa' T)) := by
  rw [show ((wSg E a S) ++ hiC E a fa T) ++ hiT E fa T = (wSg E a S ++ wHi E a fa T) from List.append_assoc _ _ _]
  exact c_X9_undoCount E l k a fa S T hm
end WALKS
