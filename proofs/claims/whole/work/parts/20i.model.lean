section WALKS
variable {E : ENV} {p : Program} {l : Launch} {e : Env} {s : State} {m : MethodId} {args : Array Value} {below : List Frame} {meth : Method} {c : Code} {A : Nat → Prop}
-- ShardGuardModel.inState(II)I
theorem dX10_inState_0 : decode cX10_inState 0 = .ok (.iconst 0, 1) := by decide +kernel
theorem dX10_inState_1 : decode cX10_inState 1 = .ok (.istore_n 3, 1) := by decide +kernel
theorem dX10_inState_2 : decode cX10_inState 2 = .ok (.iconst 0, 1) := by decide +kernel
theorem dX10_inState_3 : decode cX10_inState 3 = .ok (.istore 4, 2) := by decide +kernel
theorem dX10_inState_5 : decode cX10_inState 5 = .ok (.iload 4, 2) := by decide +kernel
theorem dX10_inState_7 : decode cX10_inState 7 = .ok (.aload_n 0, 1) := by decide +kernel
theorem dX10_inState_8 : decode cX10_inState 8 = .ok (.invokevirtual 117, 3) := by decide +kernel
theorem dX10_inState_11 : decode cX10_inState 11 = .ok (.if_icmp .ge 44, 3) := by decide +kernel
theorem dX10_inState_14 : decode cX10_inState 14 = .ok (.iload_n 3, 1) := by decide +kernel
theorem dX10_inState_15 : decode cX10_inState 15 = .ok (.aload_n 0, 1) := by decide +kernel
theorem dX10_inState_16 : decode cX10_inState 16 = .ok (.iload 4, 2) := by decide +kernel
theorem dX10_inState_18 : decode cX10_inState 18 = .ok (.iconst 4, 1) := by decide +kernel
theorem dX10_inState_19 : decode cX10_inState 19 = .ok (.invokevirtual 123, 3) := by decide +kernel
theorem dX10_inState_22 : decode cX10_inState 22 = .ok (.iload_n 1, 1) := by decide +kernel
theorem dX10_inState_23 : decode cX10_inState 23 = .ok (.if_icmp .ne 23, 3) := by decide +kernel
theorem dX10_inState_26 : decode cX10_inState 26 = .ok (.iload_n 2, 1) := by decide +kernel
theorem dX10_inState_27 : decode cX10_inState 27 = .ok (.iconst (-1), 1) := by decide +kernel
theorem dX10_inState_28 : decode cX10_inState 28 = .ok (.if_icmp .eq 14, 3) := by decide +kernel
theorem dX10_inState_31 : decode cX10_inState 31 = .ok (.aload_n 0, 1) := by decide +kernel
theorem dX10_inState_32 : decode cX10_inState 32 = .ok (.iload 4, 2) := by decide +kernel
theorem dX10_inState_34 : decode cX10_inState 34 = .ok (.iconst 0, 1) := by decide +kernel
theorem dX10_inState_35 : decode cX10_inState 35 = .ok (.invokevirtual 123, 3) := by decide +kernel
theorem dX10_inState_38 : decode cX10_inState 38 = .ok (.iload_n 2, 1) := by decide +kernel
theorem dX10_inState_39 : decode cX10_inState 39 = .ok (.if_icmp .ne 7, 3) := by decide +kernel
theorem dX10_inState_42 : decode cX10_inState 42 = .ok (.iconst 1, 1) := by decide +kernel
theorem dX10_inState_43 : decode cX10_inState 43 = .ok (.goto 4, 3) := by decide +kernel
theorem dX10_inState_46 : decode cX10_inState 46 = .ok (.iconst 0, 1) := by decide +kernel
theorem dX10_inState_47 : decode cX10_inState 47 = .ok (.iadd, 1) := by decide +kernel
theorem dX10_inState_48 : decode cX10_inState 48 = .ok (.istore_n 3, 1) := by decide +kernel
theorem dX10_inState_49 : decode cX10_inState 49 = .ok (.iinc 4 1, 3) := by decide +kernel
theorem dX10_inState_52 : decode cX10_inState 52 = .ok (.goto (-47), 3) := by decide +kernel
theorem dX10_inState_55 : decode cX10_inState 55 = .ok (.iload_n 3, 1) := by decide +kernel
theorem dX10_inState_56 : decode cX10_inState 56 = .ok (.ireturn, 1) := by decide +kernel
def rm_X10_inState : Room := { frames := 2, cells := 0, slots := 0, locals := 43 }
def M_X10_inState_5 (k : Nat) (S : Nat → Nat → Int32) : Nat → (Int32) → (Int32) → (Int32) → (Int32) → Option (Int32)
  | 0, _, _, _, _ => none
  | n + 1, x1, x2, x3, x4 => (M_X10_requests k S).bind fun q1 => if q1 ≤ x4 then (some x3) else ((M_X10_of k S x4 (4 : Int32)).bind fun q3 => if q3 = x1 then (if x2 = (-1 : Int32) then (lt (x3 + (1 : Int32)) fun v7 => M_X10_inState_5 k S n x1 x2 v7 (x4 + 1)) else ((M_X10_of k S x4 (0 : Int32)).bind fun q8 => if q8 = x2 then (lt (x3 + (1 : Int32)) fun v11 => M_X10_inState_5 k S n x1 x2 v11 (x4 + 1)) else (lt (x3 + (0 : Int32)) fun v10 => M_X10_inState_5 k S n x1 x2 v10 (x4 + 1)))) else (lt (x3 + (0 : Int32)) fun v5 => M_X10_inState_5 k S n x1 x2 v5 (x4 + 1)))
theorem M_X10_inState_5_s (k : Nat) (S : Nat → Nat → Int32) (n : Nat) (x1 : Int32) (x2 : Int32) (x3 : Int32) (x4 : Int32) : M_X10_inState_5 k S (n + 1) x1 x2 x3 x4 = ((M_X10_requests k S).bind fun q1 => if q1 ≤ x4 then (some x3) else ((M_X10_of k S x4 (4 : Int32)).bind fun q3 => if q3 = x1 then (if x2 = (-1 : Int32) then (lt (x3 + (1 : Int32)) fun v7 => M_X10_inState_5 k S n x1 x2 v7 (x4 + 1)) else ((M_X10_of k S x4 (0 : Int32)).bind fun q8 => if q8 = x2 then (lt (x3 + (1 : Int32)) fun v11 => M_X10_inState_5 k S n x1 x2 v11 (x4 + 1)) else (lt (x3 + (0 : Int32)) fun v10 => M_X10_inState_5 k S n x1 x2 v10 (x4 + 1)))) else (lt (x3 + (0 : Int32)) fun v5 => M_X10_inState_5 k S n x1 x2 v5 (x4 + 1)))) := rfl
set_option maxRecDepth 100000 in
set_option maxHeartbeats 4000000 in
theorem N_X10_inState_5 (C : CX E p l s m args meth c cX10_inState 5 RX10 (some .int) A) (a : Nat → Nat) (k : Nat) (S : Nat → Nat → Int32) {post : Int32 → va_W → Prop} :
    ∀ (n : Nat) (x1 : Int32) (x2 : Int32) (x3 : Int32) (x4 : Int32) (q : Int32), M_X10_inState_5 k S n x1 x2 x3 x4 = some q → post q (wMd E a S) →
      WW E p l e rm_X10_inState s m args below meth c A 0 0 (QI E below post args s rm_X10_inState A) (wMd E a S) 5 [some (.ref (a 0)), some (.int x1), some (.int x2), some (.int x3), some (.int x4)] 5 [] := by
  intro n
  induction n with
  | zero => intro x1 x2 x3 x4 q  h _; cases h
  | succ n ih =>
    intro x1 x2 x3 x4 q  h hq
    rw [M_X10_inState_5_s] at h
    refine r_iload (pc := 5) C (i := 4) dX10_inState_5 rfl ?_
    refine r_aload_n (pc := 7) C (i := 0) dX10_inState_7 rfl rfl ?_
    obtain ⟨q1, hq1, h⟩ := bnd h
    refine r_callVp_CI (Cn := RX10) (pc := 8) C [] (c_X10_requests E l k a S hq1) [0, 1, 2, 3, 4, 5, 6, 7, 8, 9, 10, 11, 12] rfl (by decide) 0 rfl rfl rfl g_X10_117 hd_X10_requests ⟨Nat.le_of_ble_eq_true rfl, Nat.le_of_ble_eq_true rfl⟩ ⟨Nat.zero_le _, Nat.zero_le _⟩ (Nat.le_of_ble_eq_true rfl) rfl dX10_inState_8 (fun r hr => ?_)
    have hr := hr.symm
    subst hr
    refine r_icmp_ge (pc := 11) C (tgt := 55) dX10_inState_11 rfl (fun c2 => ?_) (fun c2 => ?_)
    · rw [if_pos c2] at h
      refine r_iload_n (pc := 55) C (i := 3) dX10_inState_55 rfl rfl ?_
      cases h
      exact r_ireti (pc := 56) C hq (Nat.zero_le _) (Nat.zero_le _) dX10_inState_56
    · rw [if_neg c2] at h
      refine r_iload_n (pc := 14) C (i := 3) dX10_inState_14 rfl rfl ?_
      refine r_aload_n (pc := 15) C (i := 0) dX10_inState_15 rfl rfl ?_
      refine r_iload (pc := 16) C (i := 4) dX10_inState_16 rfl ?_
      refine r_iconst (pc := 18) C (v := 4) dX10_inState_18 (by decide) ?_
      obtain ⟨q3, hq3, h⟩ := bnd h
      refine r_callVp_CI (Cn := RX10) (pc := 19) C [.int x4, .int (4 : Int32)] (c_X10_of E l k a S x4 (4 : Int32) hq3) [0, 1, 2, 3, 4, 5, 6, 7, 8, 9, 10, 11, 12] rfl (by decide) 0 rfl rfl rfl g_X10_123 hd_X10_of ⟨Nat.le_of_ble_eq_true rfl, Nat.le_of_ble_eq_true rfl⟩ ⟨Nat.zero_le _, Nat.zero_le _⟩ (Nat.le_of_ble_eq_true rfl) rfl dX10_inState_19 (fun r hr => ?_)
      have hr := hr.symm
      subst hr
      refine r_iload_n (pc := 22) C (i := 1) dX10_inState_22 rfl rfl ?_
      refine r_icmp_ne (pc := 23) C (tgt := 46) dX10_inState_23 rfl (fun c4 => ?_) (fun c4 => ?_)
      · rw [if_neg c4] at h
        refine r_iconst (pc := 46) C (v := 0) dX10_inState_46 (by decide) ?_
        refine r_iadd (pc := 47) C dX10_inState_47 ?_
        obtain ⟨v5, hv5, h⟩ := lt_e h
        refine r_topi hv5 ?_
        refine r_istore_n (pc := 48) C (i := 3) dX10_inState_48 rfl (by decide) rfl ?_
        refine r_iinc (pc := 49) C (v := (x4 + 1)) dX10_inState_49 rfl rfl (by decide) rfl ?_
        refine r_goto (pc := 52) C (tgt := 5) dX10_inState_52 rfl ?_
        refine r_weak (lSub_s (lSub_s (lSub_s (lSub_s (lSub_s lSub_e))))) ?_
        exact ih x1 x2 v5 (x4 + 1) q  h hq
      · rw [if_pos c4] at h
        refine r_iload_n (pc := 26) C (i := 2) dX10_inState_26 rfl rfl ?_
        refine r_iconst (pc := 27) C (v := (-1)) dX10_inState_27 (by decide) ?_
        refine r_icmp_eq (pc := 28) C (tgt := 42) dX10_inState_28 rfl (fun c6 => ?_) (fun c6 => ?_)
        · rw [if_pos c6] at h
          refine r_iconst (pc := 42) C (v := 1) dX10_inState_42 (by decide) ?_
          refine r_goto (pc := 43) C (tgt := 47) dX10_inState_43 rfl ?_
          refine r_iadd (pc := 47) C dX10_inState_47 ?_
          obtain ⟨v7, hv7, h⟩ := lt_e h
          refine r_topi hv7 ?_
          refine r_istore_n (pc := 48) C (i := 3) dX10_inState_48 rfl (by decide) rfl ?_
          refine r_iinc (pc := 49) C (v := (x4 + 1)) dX10_inState_49 rfl rfl (by decide) rfl ?_
          refine r_goto (pc := 52) C (tgt := 5) dX10_inState_52 rfl ?_
          refine r_weak (lSub_s (lSub_s (lSub_s (lSub_s (lSub_s lSub_e))))) ?_
          exact ih x1 x2 v7 (x4 + 1) q  h hq
        · rw [if_neg c6] at h
          refine r_aload_n (pc := 31) C (i := 0) dX10_inState_31 rfl rfl ?_
          refine r_iload (pc := 32) C (i := 4) dX10_inState_32 rfl ?_
          refine r_iconst (pc := 34) C (v := 0) dX10_inState_34 (by decide) ?_
          obtain ⟨q8, hq8, h⟩ := bnd h
          refine r_callVp_CI (Cn := RX10) (pc := 35) C [.int x4, .int (0 : Int32)] (c_X10_of E l k a S x4 (0 : Int32) hq8) [0, 1, 2, 3, 4, 5, 6, 7, 8, 9, 10, 11, 12] rfl (by decide) 0 rfl rfl rfl g_X10_123 hd_X10_of ⟨Nat.le_of_ble_eq_true rfl, Nat.le_of_ble_eq_true rfl⟩ ⟨Nat.zero_le _, Nat.zero_le _⟩ (Nat.le_of_ble_eq_true rfl) rfl dX10_inState_35 (fun r hr => ?_)
          have hr := hr.symm
          subst hr
          refine r_iload_n (pc := 38) C (i := 2) dX10_inState_38 rfl rfl ?_
          refine r_icmp_ne (pc := 39) C (tgt := 46) dX10_inState_39 rfl (fun c9 => ?_) (fun c9 => ?_)
          · rw [if_neg c9] at h
            refine r_iconst (pc := 46) C (v := 0) dX10_inState_46 (by decide) ?_
            refine r_iadd (pc := 47) C dX10_inState_47 ?_
            obtain ⟨v10, hv10, h⟩ := lt_e h
            refine r_topi hv10 ?_
            refine r_istore_n (pc := 48) C (i := 3) dX10_inState_48 rfl (by decide) rfl ?_
            refine r_iinc (pc := 49) C (v := (x4 + 1)) dX10_inState_49 rfl rfl (by decide) rfl ?_
            refine r_goto (pc := 52) C (tgt := 5) dX10_inState_52 rfl ?_
            refine r_weak (lSub_s (lSub_s (lSub_s (lSub_s (lSub_s lSub_e))))) ?_
            exact ih x1 x2 v10 (x4 + 1) q  h hq
          · rw [if_pos c9] at h
            refine r_iconst (pc := 42) C (v := 1) dX10_inState_42 (by decide) ?_
            refine r_goto (pc := 43) C (tgt := 47) dX10_inState_43 rfl ?_
            refine r_iadd (pc := 47) C dX10_inState_47 ?_
            obtain ⟨v11, hv11, h⟩ := lt_e h
            refine r_topi hv11 ?_
            refine r_istore_n (pc := 48) C (i := 3) dX10_inState_48 rfl (by decide) rfl ?_
            refine r_iinc (pc := 49) C (v := (x4 + 1)) dX10_inState_49 rfl rfl (by decide) rfl ?_
            refine r_goto (pc := 52) C (tgt := 5) dX10_inState_52 rfl ?_
            refine r_weak (lSub_s (lSub_s (lSub_s (lSub_s (lSub_s lSub_e))))) ?_
            exact ih x1 x2 v11 (x4 + 1) q  h hq
def M_X10_inState_0 (k : Nat) (S : Nat → Nat → Int32) (p0 : Int32) (p1 : Int32) : Option (Int32) := M_X10_inState_5 k S k p0 p1 (0 : Int32) (0 : Int32)
set_option maxRecDepth 100000 in
set_option maxHeartbeats 4000000 in
theorem N_X10_inState_0 (C : CX E p l s m args meth c cX10_inState 5 RX10 (some .int) A) (a : Nat → Nat) (k : Nat) (S : Nat → Nat → Int32) {post : Int32 → va_W → Prop} :
    ∀ (p0 : Int32) (p1 : Int32) (q : Int32), M_X10_inState_0 k S p0 p1 = some q → post q (wMd E a S) →
      WW E p l e rm_X10_inState s m args below meth c A 0 0 (QI E below post args s rm_X10_inState A) (wMd E a S) 5 [some (.ref (a 0)), some (.int p0), some (.int p1), none, none] 0 [] := by
  intro p0 p1 q  h hq
  unfold M_X10_inState_0 at h
  refine r_iconst (pc := 0) C (v := 0) dX10_inState_0 (by decide) ?_
  refine r_istore_n (pc := 1) C (i := 3) dX10_inState_1 rfl (by decide) rfl ?_
  refine r_iconst (pc := 2) C (v := 0) dX10_inState_2 (by decide) ?_
  refine r_istore (pc := 3) C (i := 4) dX10_inState_3 (by decide) rfl ?_
  refine r_weak (lSub_s (lSub_s (lSub_s (lSub_s (lSub_s lSub_e))))) ?_
  exact N_X10_inState_5 C a k S k p0 p1 (0 : Int32) (0 : Int32) q  h hq
def M_X10_inState (k : Nat) (S : Nat → Nat → Int32) (p0 : Int32) (p1 : Int32) : Option (Int32) := M_X10_inState_0 k S p0 p1
set_option maxRecDepth 100000 in
set_option maxHeartbeats 4000000 in
theorem c_X10_inState (E : ENV) (l : Launch) (k : Nat) (a : Nat → Nat) (S : Nat → Nat → Int32) (p0 : Int32) (p1 : Int32) {q : Int32} (hm : M_X10_inState k S p0 p1 = some q) : CI E l yX10_inState cX10_inState 5 (some .int) rm_X10_inState [.ref (a 0), .int p0, .int p1] (wMd E a S) (fun r w' => r = q ∧ w' = (wMd E a S)) :=
  CI.of 2 (by decide) (Nat.le_of_ble_eq_true rfl) (fun p e s m below meth c A C _ => r_weak (lSub_s (lSub_s (lSub_s (lSub_n (lSub_n lSub_e))))) (N_X10_inState_0 C a k S p0 p1 q  hm ⟨rfl, rfl⟩))
theorem hd_X10_isCutOff : yX10_isCutOff.cls = RX10 ∧ yX10_isCutOff.cls ≠ "java/lang/invoke/MethodHandle" ∧ yX10_isCutOff.cls ≠ "java/lang/invoke/VarHandle" ∧ (parseMethodDescriptor yX10_isCutOff.desc).map (fun d => d.parameters.length) = some 1 := by decide +kernel
theorem g_X10_252 : GoodIn GW (wsV RX10 252 RX10 yX10_isCutOff (wsG yX10_isCutOff cX10_isCutOff 2 (some .boolean))) := gw_V wm_6_93 wm_6_95 wm_0_29 wm_1_9 wm_6_96
-- ShardGuardModel.cutOff()I
theorem dX10_cutOff_0 : decode cX10_cutOff 0 = .ok (.iconst 0, 1) := by decide +kernel
theorem dX10_cutOff_1 : decode cX10_cutOff 1 = .ok (.istore_n 1, 1) := by decide +kernel
theorem dX10_cutOff_2 : decode cX10_cutOff 2 = .ok (.iconst 0, 1) := by decide +kernel
theorem dX10_cutOff_3 : decode cX10_cutOff 3 = .ok (.istore_n 2, 1) := by decide +kernel
theorem dX10_cutOff_4 : decode cX10_cutOff 4 = .ok (.iload_n 2, 1) := by decide +kernel
theorem dX10_cutOff_5 : decode cX10_cutOff 5 = .ok (.aload_n 0, 1) := by decide +kernel
theorem dX10_cutOff_6 : decode cX10_cutOff 6 = .ok (.invokevirtual 114, 3) := by decide +kernel
theorem dX10_cutOff_9 : decode cX10_cutOff 9 = .ok (.if_icmp .ge 25, 3) := by decide +kernel
theorem dX10_cutOff_12 : decode cX10_cutOff 12 = .ok (.iload_n 1, 1) := by decide +kernel
theorem dX10_cutOff_13 : decode cX10_cutOff 13 = .ok (.aload_n 0, 1) := by decide +kernel
theorem dX10_cutOff_14 : decode cX10_cutOff 14 = .ok (.iload_n 2, 1) := by decide +kernel
theorem dX10_cutOff_15 : decode cX10_cutOff 15 = .ok (.invokevirtual 252, 3) := by decide +kernel
theorem dX10_cutOff_18 : decode cX10_cutOff 18 = .ok (.ifCond .eq 7, 3) := by decide +kernel
theorem dX10_cutOff_21 : decode cX10_cutOff 21 = .ok (.iconst 1, 1) := by decide +kernel
theorem dX10_cutOff_22 : decode cX10_cutOff 22 = .ok (.goto 4, 3) := by decide +kernel
theorem dX10_cutOff_25 : decode cX10_cutOff 25 = .ok (.iconst 0, 1) := by decide +kernel
theorem dX10_cutOff_26 : decode cX10_cutOff 26 = .ok (.iadd, 1) := by decide +kernel
theorem dX10_cutOff_27 : decode cX10_cutOff 27 = .ok (.istore_n 1, 1) := by decide +kernel
theorem dX10_cutOff_28 : decode cX10_cutOff 28 = .ok (.iinc 2 1, 3) := by decide +kernel
theorem dX10_cutOff_31 : decode cX10_cutOff 31 = .ok (.goto (-27), 3) := by decide +kernel
theorem dX10_cutOff_34 : decode cX10_cutOff 34 = .ok (.iload_n 1, 1) := by decide +kernel
theorem dX10_cutOff_35 : decode cX10_cutOff 35 = .ok (.ireturn, 1) := by decide +kernel
def rm_X10_cutOff : Room := { frames := 4, cells := 0, slots := 0, locals := 85 }
def M_X10_cutOff_4 (k : Nat) (S : Nat → Nat → Int32) : Nat → (Int32) → (Int32) → Option (Int32)
  | 0, _, _ => none
  | n + 1, x1, x2 => (M_X10_tenants k S).bind fun q1 => if q1 ≤ x2 then (some x1) else ((M_X10_isCutOff k S x2).bind fun q3 => if q3 = 0 then (lt (x1 + (0 : Int32)) fun v5 => M_X10_cutOff_4 k S n v5 (x2 + 1)) else (lt (x1 + (1 : Int32)) fun v6 => M_X10_cutOff_4 k S n v6 (x2 + 1)))
theorem M_X10_cutOff_4_s (k : Nat) (S : Nat → Nat → Int32) (n : Nat) (x1 : Int32) (x2 : Int32) : M_X10_cutOff_4 k S (n + 1) x1 x2 = ((M_X10_tenants k S).bind fun q1 => if q1 ≤ x2 then (some x1) else ((M_X10_isCutOff k S x2).bind fun q3 => if q3 = 0 then (lt (x1 + (0 : Int32)) fun v5 => M_X10_cutOff_4 k S n v5 (x2 + 1)) else (lt (x1 + (1 : Int32)) fun v6 => M_X10_cutOff_4 k S n v6 (x2 + 1)))) := rfl
set_option maxRecDepth 100000 in
set_option maxHeartbeats 4000000 in
theorem N_X10_cutOff_4 (C : CX E p l s m args meth c cX10_cutOff 3 RX10 (some .int) A) (a : Nat → Nat) (k : Nat) (S : Nat → Nat → Int32) {post : Int32 → va_W → Prop} :
    ∀ (n : Nat) (x1 : Int32) (x2 : Int32) (q : Int32), M_X10_cutOff_4 k S n x1 x2 = some q → post q (wMd E a S) →
      WW E p l e rm_X10_cutOff s m args below meth c A 0 0 (QI E below post args s rm_X10_cutOff A) (wMd E a S) 3 [some (.ref (a 0)), some (.int x1), some (.int x2)] 4 [] := by
  intro n
  induction n with
  | zero => intro x1 x2 q  h _; cases h
  | succ n ih =>
    intro x1 x2 q  h hq
    rw [M_X10_cutOff_4_s] at h
    refine r_iload_n (pc := 4) C (i := 2) dX10_cutOff_4 rfl rfl ?_
    refine r_aload_n (pc := 5) C (i := 0) dX10_cutOff_5 rfl rfl ?_
    obtain ⟨q1, hq1, h⟩ := bnd h
    refine r_callVp_CI (Cn := RX10) (pc := 6) C [] (c_X10_tenants E l k a S hq1) [0, 1, 2, 3, 4, 5, 6, 7, 8, 9, 10, 11, 12] rfl (by decide) 0 rfl rfl rfl g_X10_114 hd_X10_tenants ⟨Nat.le_of_ble_eq_true rfl, Nat.le_of_ble_eq_true rfl⟩ ⟨Nat.zero_le _, Nat.zero_le _⟩ (Nat.le_of_ble_eq_true rfl) rfl dX10_cutOff_6 (fun r hr => ?_)
    have hr := hr.symm
    subst hr
    refine r_icmp_ge (pc := 9) C (tgt := 34) dX10_cutOff_9 rfl (fun c2 => ?_) (fun c2 => ?_)
    · rw [if_pos c2] at h
      refine r_iload_n (pc := 34) C (i := 1) dX10_cutOff_34 rfl rfl ?_
      cases h
      exact r_ireti (pc := 35) C hq (Nat.zero_le _) (Nat.zero_le _) dX10_cutOff_35
    · rw [if_neg c2] at h
      refine r_iload_n (pc := 12) C (i := 1) dX10_cutOff_12 rfl rfl ?_
      refine r_aload_n (pc := 13) C (i := 0) dX10_cutOff_13 rfl rfl ?_
      refine r_iload_n (pc := 14) C (i := 2) dX10_cutOff_14 rfl rfl ?_
      obtain ⟨q3, hq3, h⟩ := bnd h
      refine r_callVp_CI (Cn := RX10) (pc := 15) C [.int x2] (c_X10_isCutOff E l k a S x2 hq3) [0, 1, 2, 3, 4, 5, 6, 7, 8, 9, 10, 11, 12] rfl (by decide) 0 rfl rfl rfl g_X10_252 hd_X10_isCutOff ⟨Nat.le_of_ble_eq_true rfl, Nat.le_of_ble_eq_true rfl⟩ ⟨Nat.zero_le _, Nat.zero_le _⟩ (Nat.le_of_ble_eq_true rfl) rfl dX10_cutOff_15 (fun r hr => ?_)
      have hr := hr.symm
      subst hr
      refine r_if_eq (pc := 18) C (tgt := 25) dX10_cutOff_18 rfl (fun c4 => ?_) (fun c4 => ?_)
      · rw [if_pos c4] at h
        refine r_iconst (pc := 25) C (v := 0) dX10_cutOff_25 (by decide) ?_
        refine r_iadd (pc := 26) C dX10_cutOff_26 ?_
        obtain ⟨v5, hv5, h⟩ := lt_e h
        refine r_topi hv5 ?_
        refine r_istore_n (pc := 27) C (i := 1) dX10_cutOff_27 rfl (by decide) rfl ?_
        refine r_iinc (pc := 28) C (v := (x2 + 1)) dX10_cutOff_28 rfl rfl (by decide) rfl ?_
        refine r_goto (pc := 31) C (tgt := 4) dX10_cutOff_31 rfl ?_
        refine r_weak (lSub_s (lSub_s (lSub_s lSub_e))) ?_
        exact ih v5 (x2 + 1) q  h hq
      · rw [if_neg c4] at h
        refine r_iconst (pc := 21) C (v := 1) dX10_cutOff_21 (by decide) ?_
        refine r_goto (pc := 22) C (tgt := 26) dX10_cutOff_22 rfl ?_
        refine r_iadd (pc := 26) C dX10_cutOff_26 ?_
        obtain ⟨v6, hv6, h⟩ := lt_e h
        refine r_topi hv6 ?_
        refine r_istore_n (pc := 27) C (i := 1) dX10_cutOff_27 rfl (by decide) rfl ?_
        refine r_iinc (pc := 28) C (v := (x2 + 1)) dX10_cutOff_28 rfl rfl (by decide) rfl ?_
        refine r_goto (pc := 31) C (tgt := 4) dX10_cutOff_31 rfl ?_
        refine r_weak (lSub_s (lSub_s (lSub_s lSub_e))) ?_
        exact ih v6 (x2 + 1) q  h hq
def M_X10_cutOff_0 (k : Nat) (S : Nat → Nat → Int32) : Option (Int32) := M_X10_cutOff_4 k S k (0 : Int32) (0 : Int32)
set_option maxRecDepth 100000 in
set_option maxHeartbeats 4000000 in
theorem N_X10_cutOff_0 (C : CX E p l s m args meth c cX10_cutOff 3 RX10 (some .int) A) (a : Nat → Nat) (k : Nat) (S : Nat → Nat → Int32) {post : Int32 → va_W → Prop} :
    ∀ (q : Int32), M_X10_cutOff_0 k S = some q → post q (wMd E a S) →
      WW E p l e rm_X10_cutOff s m args below meth c A 0 0 (QI E below post args s rm_X10_cutOff A) (wMd E a S) 3 [some (.ref (a 0)), none, none] 0 [] := by
  intro  q  h hq
  unfold M_X10_cutOff_0 at h
  refine r_iconst (pc := 0) C (v := 0) dX10_cutOff_0 (by decide) ?_
  refine r_istore_n (pc := 1) C (i := 1) dX10_cutOff_1 rfl (by decide) rfl ?_
  refine r_iconst (pc := 2) C (v := 0) dX10_cutOff_2 (by decide) ?_
  refine r_istore_n (pc := 3) C (i := 2) dX10_cutOff_3 rfl (by decide) rfl ?_
  refine r_weak (lSub_s (lSub_s (lSub_s lSub_e))) ?_
  exact N_X10_cutOff_4 C a k S k (0 : Int32) (0 : Int32) q  h hq
def M_X10_cutOff (k : Nat) (S : Nat → Nat → Int32) : Option (Int32) := M_X10_cutOff_0 k S
set_option maxRecDepth 100000 in
set_option maxHeartbeats 4000000 in
theorem c_X10_cutOff (E : ENV) (l : Launch) (k : Nat) (a : Nat → Nat) (S : Nat → Nat → Int32) {q : Int32} (hm : M_X10_cutOff k S = some q) : CI E l yX10_cutOff cX10_cutOff 3 (some .int) rm_X10_cutOff [.ref (a 0)] (wMd E a S) (fun r w' => r = q ∧ w' = (wMd E a S)) :=
  CI.of 2 (by decide) (Nat.le_of_ble_eq_true rfl) (fun p e s m below meth c A C _ => r_weak (lSub_s (lSub_n (lSub_n lSub_e))) (N_X10_cutOff_0 C a k S q  hm ⟨rfl, rfl⟩))
theorem hd_X10_isOpen : yX10_isOpen.cls = RX10 ∧ yX10_isOpen.cls ≠ "java/lang/invoke/MethodHandle" ∧ yX10_isOpen.cls ≠ "java/lang/invoke/VarHandle" ∧ (parseMethodDescriptor yX10_isOpen.desc).map (fun d => d.parameters.length) = some 1 := by decide +kernel
theorem g_X10_199 : GoodIn GW (wsV RX10 199 RX10 yX10_isOpen (wsG yX10_isOpen cX10_isOpen 2 (some .boolean))) := gw_V wm_6_108 wm_6_110 wm_0_32 wm_1_9 wm_6_111
-- ShardGuardModel.shutTenants()I
theorem dX10_shutTenants_0 : decode cX10_shutTenants 0 = .ok (.iconst 0, 1) := by decide +kernel
theorem dX10_shutTenants_1 : decode cX10_shutTenants 1 = .ok (.istore_n 1, 1) := by decide +kernel
theorem dX10_shutTenants_2 : decode cX10_shutTenants 2 = .ok (.iconst 0, 1) := by decide +kernel
theorem dX10_shutTenants_3 : decode cX10_shutTenants 3 = .ok (.istore_n 2, 1) := by decide +kernel
theorem dX10_shutTenants_4 : decode cX10_shutTenants 4 = .ok (.iload_n 2, 1) := by decide +kernel
theorem dX10_shutTenants_5 : decode cX10_shutTenants 5 = .ok (.aload_n 0, 1) := by decide +kernel
theorem dX10_shutTenants_6 : decode cX10_shutTenants 6 = .ok (.invokevirtual 114, 3) := by decide +kernel
theorem dX10_shutTenants_9 : decode cX10_shutTenants 9 = .ok (.if_icmp .ge 25, 3) := by decide +kernel
theorem dX10_shutTenants_12 : decode cX10_shutTenants 12 = .ok (.iload_n 1, 1) := by decide +kernel
theorem dX10_shutTenants_13 : decode cX10_shutTenants 13 = .ok (.aload_n 0, 1) := by decide +kernel
theorem dX10_shutTenants_14 : decode cX10_shutTenants 14 = .ok (.iload_n 2, 1) := by decide +kernel
theorem dX10_shutTenants_15 : decode cX10_shutTenants 15 = .ok (.invokevirtual 199, 3) := by decide +kernel
theorem dX10_shutTenants_18 : decode cX10_shutTenants 18 = .ok (.ifCond .eq 7, 3) := by decide +kernel
theorem dX10_shutTenants_21 : decode cX10_shutTenants 21 = .ok (.iconst 0, 1) := by decide +kernel
theorem dX10_shutTenants_22 : decode cX10_shutTenants 22 = .ok (.goto 4, 3) := by decide +kernel
theorem dX10_shutTenants_25 : decode cX10_shutTenants 25 = .ok (.iconst 1, 1) := by decide +kernel
theorem dX10_shutTenants_26 : decode cX10_shutTenants 26 = .ok (.iadd, 1) := by decide +kernel
theorem dX10_shutTenants_27 : decode cX10_shutTenants 27 = .ok (.istore_n 1, 1) := by decide +kernel
theorem dX10_shutTenants_28 : decode cX10_shutTenants 28 = .ok (.iinc 2 1, 3) := by decide +kernel
theorem dX10_shutTenants_31 : decode cX10_shutTenants 31 = .ok (.goto (-27), 3) := by decide +kernel
theorem dX10_shutTenants_34 : decode cX10_shutTenants 34 = .ok (.iload_n 1, 1) := by decide +kernel
theorem dX10_shutTenants_35 : decode cX10_shutTenants 35 = .ok (.ireturn, 1) := by decide +kernel
def rm_X10_shutTenants : Room := { frames := 3, cells := 0, slots := 0, locals := 64 }
def M_X10_shutTenants_4 (k : Nat) (S : Nat → Nat → Int32) : Nat → (Int32) → (Int32) → Option (Int32)
  | 0, _, _ => none
  | n + 1, x1, x2 => (M_X10_tenants k S).bind fun q1 => if q1 ≤ x2 then (some x1) else ((M_X10_isOpen k S x2).bind fun q3 => if q3 = 0 then (lt (x1 + (1 : Int32)) fun v5 => M_X10_shutTenants_4 k S n v5 (x2 + 1)) else (lt (x1 + (0 : Int32)) fun v6 => M_X10_shutTenants_4 k S n v6 (x2 + 1)))
theorem M_X10_shutTenants_4_s (k : Nat) (S : Nat → Nat → Int32) (n : Nat) (x1 : Int32) (x2 : Int32) : M_X10_shutTenants_4 k S (n + 1) x1 x2 = ((M_X10_tenants k S).bind fun q1 => if q1 ≤ x2 then (some x1) else ((M_X10_isOpen k S x2).bind fun q3 => if q3 = 0 then (lt (x1 + (1 : Int32)) fun v5 => M_X10_shutTenants_4 k S n v5 (x2 + 1)) else (lt (x1 + (0 : Int32)) fun v6 => M_X10_shutTenants_4 k S n v6 (x2 + 1)))) := rfl
set_option maxRecDepth 100000 in
set_option maxHeartbeats 4000000 in
theorem N_X10_shutTenants_4 (C : CX E p l s m args meth c cX10_shutTenants 3 RX10 (some .int) A) (a : Nat → Nat) (k : Nat) (S : Nat → Nat → Int32) {post : Int32 → va_W → Prop} :
    ∀ (n : Nat) (x1 : Int32) (x2 : Int32) (q : Int32), M_X10_shutTenants_4 k S n x1 x2 = some q → post q (wMd E a S) →
      WW E p l e rm_X10_shutTenants s m args below meth c A 0 0 (QI E below post args s rm_X10_shutTenants A) (wMd E a S) 3 [some (.ref (a 0)), some (.int x1), some (.int x2)] 4 [] := by
  intro n
  induction n with
  | zero => intro x1 x2 q  h _; cases h
  | succ n ih =>
    intro x1 x2 q  h hq
    rw [M_X10_shutTenants_4_s] at h
    refine r_iload_n (pc := 4) C (i := 2) dX10_shutTenants_4 rfl rfl ?_
    refine r_aload_n (pc := 5) C (i := 0) dX10_shutTenants_5 rfl rfl ?_
    obtain ⟨q1, hq1, h⟩ := bnd h
    refine r_callVp_CI (Cn := RX10) (pc := 6) C [] (c_X10_tenants E l k a S hq1) [0, 1, 2, 3, 4, 5, 6, 7, 8, 9, 10, 11, 12] rfl (by decide) 0 rfl rfl rfl g_X10_114 hd_X10_tenants ⟨Nat.le_of_ble_eq_true rfl, Nat.le_of_ble_eq_true rfl⟩ ⟨Nat.zero_le _, Nat.zero_le _⟩ (Nat.le_of_ble_eq_true rfl) rfl dX10_shutTenants_6 (fun r hr => ?_)
    have hr := hr.symm
    subst hr
    refine r_icmp_ge (pc := 9) C (tgt := 34) dX10_shutTenants_9 rfl (fun c2 => ?_) (fun c2 => ?_)
    · rw [if_pos c2] at h
      refine r_iload_n (pc := 34) C (i := 1) dX10_shutTenants_34 rfl rfl ?_
      cases h
      exact r_ireti (pc := 35) C hq (Nat.zero_le _) (Nat.zero_le _) dX10_shutTenants_35
    · rw [if_neg c2] at h
      refine r_iload_n (pc := 12) C (i := 1) dX10_shutTenants_12 rfl rfl ?_
      refine r_aload_n (pc := 13) C (i := 0) dX10_shutTenants_13 rfl rfl ?_
      refine r_iload_n (pc := 14) C (i := 2) dX10_shutTenants_14 rfl rfl ?_
      obtain ⟨q3, hq3, h⟩ := bnd h
      refine r_callVp_CI (Cn := RX10) (pc := 15) C [.int x2] (c_X10_isOpen E l k a S x2 hq3) [0, 1, 2, 3, 4, 5, 6, 7, 8, 9, 10, 11, 12] rfl (by decide) 0 rfl rfl rfl g_X10_199 hd_X10_isOpen ⟨Nat.le_of_ble_eq_true rfl, Nat.le_of_ble_eq_true rfl⟩ ⟨Nat.zero_le _, Nat.zero_le _⟩ (Nat.le_of_ble_eq_true rfl) rfl dX10_shutTenants_15 (fun r hr => ?_)
      have hr := hr.symm
      subst hr
      refine r_if_eq (pc := 18) C (tgt := 25) dX10_shutTenants_18 rfl (fun c4 => ?_) (fun c4 => ?_)
      · rw [if_pos c4] at h
        refine r_iconst (pc := 25) C (v := 1) dX10_shutTenants_25 (by decide) ?_
        refine r_iadd (pc := 26) C dX10_shutTenants_26 ?_
        obtain ⟨v5, hv5, h⟩ := lt_e h
        refine r_topi hv5 ?_
        refine r_istore_n (pc := 27) C (i := 1) dX10_shutTenants_27 rfl (by decide) rfl ?_
        refine r_iinc (pc := 28) C (v := (x2 + 1)) dX10_shutTenants_28 rfl rfl (by decide) rfl ?_
        refine r_goto (pc := 31) C (tgt := 4) dX10_shutTenants_31 rfl ?_
        refine r_weak (lSub_s (lSub_s (lSub_s lSub_e))) ?_
        exact ih v5 (x2 + 1) q  h hq
      · rw [if_neg c4] at h
        refine r_iconst (pc := 21) C (v := 0) dX10_shutTenants_21 (by decide) ?_
        refine r_goto (pc := 22) C (tgt := 26) dX10_shutTenants_22 rfl ?_
        refine r_iadd (pc := 26) C dX10_shutTenants_26 ?_
        obtain ⟨v6, hv6, h⟩ := lt_e h
        refine r_topi hv6 ?_
        refine r_istore_n (pc := 27) C (i := 1) dX10_shutTenants_27 rfl (by decide) rfl ?_
        refine r_iinc (pc := 28) C (v := (x2 + 1)) dX10_shutTenants_28 rfl rfl (by decide) rfl ?_
        refine r_goto (pc := 31) C (tgt := 4) dX10_shutTenants_31 rfl ?_
        refine r_weak (lSub_s (lSub_s (lSub_s lSub_e))) ?_
        exact ih v6 (x2 + 1) q  h hq
def M_X10_shutTenants_0 (k : Nat) (S : Nat → Nat → Int32) : Option (Int32) := M_X10_shutTenants_4 k S k (0 : Int32) (0 : Int32)
set_option maxRecDepth 100000 in
set_option maxHeartbeats 4000000 in
theorem N_X10_shutTenants_0 (C : CX E p l s m args meth c cX10_shutTenants 3 RX10 (some .int) A) (a : Nat → Nat) (k : Nat) (S : Nat → Nat → Int32) {post : Int32 → va_W → Prop} :
    ∀ (q : Int32), M_X10_shutTenants_0 k S = some q → post q (wMd E a S) →
      WW E p l e rm_X10_shutTenants s m args below meth c A 0 0 (QI E below post args s rm_X10_shutTenants A) (wMd E a S) 3 [some (.ref (a 0)), none, none] 0 [] := by
  intro  q  h hq
  unfold M_X10_shutTenants_0 at h
  refine r_iconst (pc := 0) C (v := 0) dX10_shutTenants_0 (by decide) ?_
  refine r_istore_n (pc := 1) C (i := 1) dX10_shutTenants_1 rfl (by decide) rfl ?_
  refine r_iconst (pc := 2) C (v := 0) dX10_shutTenants_2 (by decide) ?_
  refine r_istore_n (pc := 3) C (i := 2) dX10_shutTenants_3 rfl (by decide) rfl ?_
  refine r_weak (lSub_s (lSub_s (lSub_s lSub_e))) ?_
  exact N_X10_shutTenants_4 C a k S k (0 : Int32) (0 : Int32) q  h hq
def M_X10_shutTenants (k : Nat) (S : Nat → Nat → Int32) : Option (Int32) := M_X10_shutTenants_0 k S
set_option maxRecDepth 100000 in
set_option maxHeartbeats 4000000 in
theorem c_X10_shutTenants (E : ENV) (l : Launch) (k : Nat) (a : Nat → Nat) (S : Nat → Nat → Int32) {q : Int32} (hm : M_X10_shutTenants k S = some q) : CI E l yX10_shutTenants cX10_shutTenants 3 (some .int) rm_X10_shutTenants [.ref (a 0)] (wMd E a S) (fun r w' => r = q ∧ w' = (wMd E a S)) :=
  CI.of 2 (by decide) (Nat.le_of_ble_eq_true rfl) (fun p e s m below meth c A C _ => r_weak (lSub_s (lSub_n (lSub_n lSub_e))) (N_X10_shutTenants_0 C a k S q  hm ⟨rfl, rfl⟩))
theorem hd_X10_inState : yX10_inState.cls = RX10 ∧ yX10_inState.cls ≠ "java/lang/invoke/MethodHandle" ∧ yX10_inState.cls ≠ "java/lang/invoke/VarHandle" ∧ (parseMethodDescriptor yX10_inState.desc).map (fun d => d.parameters.length) = some 2 := by decide +kernel
theorem g_X10_258 : GoodIn GW (wsV RX10 258 RX10 yX10_inState (wsG yX10_inState cX10_inState 5 (some .int))) := gw_V wm_6_70 wm_6_72 wm_0_24 wm_1_9 wm_6_73
theorem hd_X10_cutOff : yX10_cutOff.cls = RX10 ∧ yX10_cutOff.cls ≠ "java/lang/invoke/MethodHandle" ∧ yX10_cutOff.cls ≠ "java/lang/invoke/VarHandle" ∧ (parseMethodDescriptor yX10_cutOff.desc).map (fun d => d.parameters.length) = some 0 := by decide +kernel
theorem g_X10_261 : GoodIn GW (wsV RX10 261 RX10 yX10_cutOff (wsG yX10_cutOff cX10_cutOff 3 (some .int))) := gw_V wm_6_85 wm_6_87 wm_0_27 wm_1_9 wm_6_88
theorem hd_X10_shutTenants : yX10_shutTenants.cls = RX10 ∧ yX10_shutTenants.cls ≠ "java/lang/invoke/MethodHandle" ∧ yX10_shutTenants.cls ≠ "java/lang/invoke/VarHandle" ∧ (parseMethodDescriptor yX10_shutTenants.desc).map (fun d => d.parameters.length) = some 0 := by decide +kernel
theorem g_X10_264 : GoodIn GW (wsV RX10 264 RX10 yX10_shutTenants (wsG yX10_shutTenants cX10_shutTenants 3 (some .int))) := gw_V wm_6_104 wm_6_106 wm_0_31 wm_1_9 wm_6_107
theorem hd_X10_raise : yX10_raise.cls = RX10 ∧ yX10_raise.cls ≠ "java/lang/invoke/MethodHandle" ∧ yX10_raise.cls ≠ "java/lang/invoke/VarHandle" ∧ (parseMethodDescriptor yX10_raise.desc).map (fun d => d.parameters.length) = some 1 := by decide +kernel
theorem g_X10_267 : GoodIn GW (wsV RX10 267 RX10 yX10_raise (wsG yX10_raise cX10_raise 2 (some .int))) := gw_V wm_6_112 wm_6_114 wm_0_33 wm_1_9 wm_6_115
-- ShardGuardModel.size(I)I
theorem dX10_size_0 : decode cX10_size 0 = .ok (.aload_n 0, 1) := by decide +kernel
theorem dX10_size_1 : decode cX10_size 1 = .ok (.iconst 0, 1) := by decide +kernel
theorem dX10_size_2 : decode cX10_size 2 = .ok (.putfield 93, 3) := by decide +kernel
theorem dX10_size_5 : decode cX10_size 5 = .ok (.iload_n 1, 1) := by decide +kernel
theorem dX10_size_6 : decode cX10_size 6 = .ok (.tableswitch 94 0 9 #[54, 54, 54, 54, 54, 61, 69, 76, 84, 89], 54) := by decide +kernel
theorem dX10_size_60 : decode cX10_size 60 = .ok (.aload_n 0, 1) := by decide +kernel
theorem dX10_size_61 : decode cX10_size 61 = .ok (.getfield 9, 3) := by decide +kernel
theorem dX10_size_64 : decode cX10_size 64 = .ok (.iload_n 1, 1) := by decide +kernel
theorem dX10_size_65 : decode cX10_size 65 = .ok (.iaload, 1) := by decide +kernel
theorem dX10_size_66 : decode cX10_size 66 = .ok (.ireturn, 1) := by decide +kernel
theorem dX10_size_67 : decode cX10_size 67 = .ok (.aload_n 0, 1) := by decide +kernel
theorem dX10_size_68 : decode cX10_size 68 = .ok (.invokevirtual 208, 3) := by decide +kernel
theorem dX10_size_71 : decode cX10_size 71 = .ok (.invokestatic 211, 3) := by decide +kernel
theorem dX10_size_74 : decode cX10_size 74 = .ok (.ireturn, 1) := by decide +kernel
theorem dX10_size_75 : decode cX10_size 75 = .ok (.aload_n 0, 1) := by decide +kernel
theorem dX10_size_76 : decode cX10_size 76 = .ok (.iconst 1, 1) := by decide +kernel
theorem dX10_size_77 : decode cX10_size 77 = .ok (.iconst (-1), 1) := by decide +kernel
theorem dX10_size_78 : decode cX10_size 78 = .ok (.invokevirtual 258, 3) := by decide +kernel
theorem dX10_size_81 : decode cX10_size 81 = .ok (.ireturn, 1) := by decide +kernel
theorem dX10_size_82 : decode cX10_size 82 = .ok (.aload_n 0, 1) := by decide +kernel
theorem dX10_size_83 : decode cX10_size 83 = .ok (.getfield 9, 3) := by decide +kernel
theorem dX10_size_86 : decode cX10_size 86 = .ok (.bipush 11, 2) := by decide +kernel
theorem dX10_size_88 : decode cX10_size 88 = .ok (.iaload, 1) := by decide +kernel
theorem dX10_size_89 : decode cX10_size 89 = .ok (.ireturn, 1) := by decide +kernel
theorem dX10_size_90 : decode cX10_size 90 = .ok (.aload_n 0, 1) := by decide +kernel
theorem dX10_size_91 : decode cX10_size 91 = .ok (.invokevirtual 261, 3) := by decide +kernel
theorem dX10_size_94 : decode cX10_size 94 = .ok (.ireturn, 1) := by decide +kernel
theorem dX10_size_95 : decode cX10_size 95 = .ok (.aload_n 0, 1) := by decide +kernel
theorem dX10_size_96 : decode cX10_size 96 = .ok (.invokevirtual 264, 3) := by decide +kernel
theorem dX10_size_99 : decode cX10_size 99 = .ok (.ireturn, 1) := by decide +kernel
theorem dX10_size_100 : decode cX10_size 100 = .ok (.aload_n 0, 1) := by decide +kernel
theorem dX10_size_101 : decode cX10_size 101 = .ok (.iconst 1, 1) := by decide +kernel
theorem dX10_size_102 : decode cX10_size 102 = .ok (.invokevirtual 267, 3) := by decide +kernel
theorem dX10_size_105 : decode cX10_size 105 = .ok (.ireturn, 1) := by decide +kernel
def rm_X10_size : Room := { frames := 5, cells := 0, slots := 0, locals := 107 }
def M_X10_size_0 (k : Nat) (p0 : Int32) (S : Nat → Nat → Int32) : Option (Int32 × (Nat → Nat → Int32)) := lt (va_up S 0 (upd (S 0) 1 (0 : Int32))) fun F1 => if p0 = (0 : Int32) then ((if inb p0 1692 = true then some (((F1 1) p0.toNatClampNeg), F1) else none)) else (if p0 = (1 : Int32) then ((if inb p0 1692 = true then some (((F1 1) p0.toNatClampNeg), F1) else none)) else (if p0 = (2 : Int32) then ((if inb p0 1692 = true then some (((F1 1) p0.toNatClampNeg), F1) else none)) else (if p0 = (3 : Int32) then ((if inb p0 1692 = true then some (((F1 1) p0.toNatClampNeg), F1) else none)) else (if p0 = (4 : Int32) then ((if inb p0 1692 = true then some (((F1 1) p0.toNatClampNeg), F1) else none)) else (if p0 = (5 : Int32) then ((M_X10_upWorkers k F1).bind fun q13 => (M_J6_bitCount_0f7a4 k q13).bind fun q14 => some (q14, F1)) else (if p0 = (6 : Int32) then ((M_X10_inState k F1 (1 : Int32) (-1 : Int32)).bind fun q16 => some (q16, F1)) else (if p0 = (7 : Int32) then ((if inb (11 : Int32) 1692 = true then some (((F1 1) (11 : Int32).toNatClampNeg), F1) else none)) else (if p0 = (8 : Int32) then ((M_X10_cutOff k F1).bind fun q20 => some (q20, F1)) else (if p0 = (9 : Int32) then ((M_X10_shutTenants k F1).bind fun q22 => some (q22, F1)) else ((M_X10_raise k F1 (1 : Int32)).bind fun q23 => some (q23.1, q23.2)))))))))))
set_option maxRecDepth 100000 in
set_option maxHeartbeats 4000000 in
theorem N_X10_size_0 (C : CX E p l s m args meth c cX10_size 2 RX10 (some .int) A) (a : Nat → Nat) (k : Nat) {post : Int32 → va_W → Prop} :
    ∀ (p0 : Int32) (S : Nat → Nat → Int32) (q : Int32 × (Nat → Nat → Int32)), M_X10_size_0 k p0 S = some q → post q.1 (wMd E a q.2) →
      WW E p l e rm_X10_size s m args below meth c A 0 0 (QI E below post args s rm_X10_size A) (wMd E a S) 2 [some (.ref (a 0)), some (.int p0)] 0 [] := by
  intro p0 S q  h hq
  unfold M_X10_size_0 at h
  refine r_aload_n (pc := 0) C (i := 0) dX10_size_0 rfl rfl ?_
  refine r_iconst (pc := 1) C (v := 0) dX10_size_1 (by decide) ?_
  obtain ⟨F1, hF1, h⟩ := lt_e h
  refine r_put (pc := 2) C gwX10 tyX10 tyX10_ok nmX10 0 rfl rfl 6 (by decide) wm_5_209 rfl rfl rfl rfl (Nat.le_of_ble_eq_true rfl) (w' := (wMd E a F1)) (by rw [hF1]; rfl) dX10_size_2 ?_
  refine r_iload_n (pc := 5) C (i := 1) dX10_size_5 rfl rfl ?_
  by_cases c2 : p0 = (0 : Int32)
  · rw [if_pos c2] at h
    refine r_tabIn (pc := 6) C 60 dX10_size_6 c2 (by decide) (by decide) rfl rfl ?_
    refine r_aload_n (pc := 60) C (i := 0) dX10_size_60 rfl rfl ?_
    refine r_get (pc := 61) C gwX10 0 rfl rfl 0 (by decide) wm_5_203 rfl dX10_size_61 ?_
    refine r_iload_n (pc := 64) C (i := 1) dX10_size_64 rfl rfl ?_
    obtain ⟨hi3, h⟩ := ifn h
    refine r_iald (pc := 65) C 1 rfl hi3 dX10_size_65 ?_
    cases h
    exact r_ireti (pc := 66) C hq (Nat.zero_le _) (Nat.zero_le _) dX10_size_66
  · rw [if_neg c2] at h
    by_cases c4 : p0 = (1 : Int32)
    · rw [if_pos c4] at h
      refine r_tabIn (pc := 6) C 60 dX10_size_6 c4 (by decide) (by decide) rfl rfl ?_
      refine r_aload_n (pc := 60) C (i := 0) dX10_size_60 rfl rfl ?_
      refine r_get (pc := 61) C gwX10 0 rfl rfl 0 (by decide) wm_5_203 rfl dX10_size_61 ?_
      refine r_iload_n (pc := 64) C (i := 1) dX10_size_64 rfl rfl ?_
      obtain ⟨hi5, h⟩ := ifn h
      refine r_iald (pc := 65) C 1 rfl hi5 dX10_size_65 ?_
      cases h
      exact r_ireti (pc := 66) C hq (Nat.zero_le _) (Nat.zero_le _) dX10_size_66
    · rw [if_neg c4] at h
      by_cases c6 : p0 = (2 : Int32)
      · rw [if_pos c6] at h
        refine r_tabIn (pc := 6) C 60 dX10_size_6 c6 (by decide) (by decide) rfl rfl ?_
        refine r_aload_n (pc := 60) C (i := 0) dX10_size_60 rfl rfl ?_
        refine r_get (pc := 61) C gwX10 0 rfl rfl 0 (by decide) wm_5_203 rfl dX10_size_61 ?_
        refine r_iload_n (pc := 64) C (i := 1) dX10_size_64 rfl rfl ?_
        obtain ⟨hi7, h⟩ := ifn h
        refine r_iald (pc := 65) C 1 rfl hi7 dX10_size_65 ?_
        cases h
        exact r_ireti (pc := 66) C hq (Nat.zero_le _) (Nat.zero_le _) dX10_size_66
      · rw [if_neg c6] at h
        by_cases c8 : p0 = (3 : Int32)
        · rw [if_pos c8] at h
          refine r_tabIn (pc := 6) C 60 dX10_size_6 c8 (by decide) (by decide) rfl rfl ?_
          refine r_aload_n (pc := 60) C (i := 0) dX10_size_60 rfl rfl ?_
          refine r_get (pc := 61) C gwX10 0 rfl rfl 0 (by decide) wm_5_203 rfl dX10_size_61 ?_
          refine r_iload_n (pc := 64) C (i := 1) dX10_size_64 rfl rfl ?_
          obtain ⟨hi9, h⟩ := ifn h
          refine r_iald (pc := 65) C 1 rfl hi9 dX10_size_65 ?_
          cases h
          exact r_ireti (pc := 66) C hq (Nat.zero_le _) (Nat.zero_le _) dX10_size_66
        · rw [if_neg c8] at h
          by_cases c10 : p0 = (4 : Int32)
          · rw [if_pos c10] at h
            refine r_tabIn (pc := 6) C 60 dX10_size_6 c10 (by decide) (by decide) rfl rfl ?_
            refine r_aload_n (pc := 60) C (i := 0) dX10_size_60 rfl rfl ?_
            refine r_get (pc := 61) C gwX10 0 rfl rfl 0 (by decide) wm_5_203 rfl dX10_size_61 ?_
            refine r_iload_n (pc := 64) C (i := 1) dX10_size_64 rfl rfl ?_
            obtain ⟨hi11, h⟩ := ifn h
            refine r_iald (pc := 65) C 1 rfl hi11 dX10_size_65 ?_
            cases h
            exact r_ireti (pc := 66) C hq (Nat.zero_le _) (Nat.zero_le _) dX10_size_66
          · rw [if_neg c10] at h
            by_cases c12 : p0 = (5 : Int32)
            · rw [if_pos c12] at h
              refine r_tabIn (pc := 6) C 67 dX10_size_6 c12 (by decide) (by decide) rfl rfl ?_
              refine r_aload_n (pc := 67) C (i := 0) dX10_size_67 rfl rfl ?_
              obtain ⟨q13, hq13, h⟩ := bnd h
              refine r_callVp_CI (Cn := RX10) (pc := 68) C [] (c_X10_upWorkers E l k a F1 hq13) [0, 1, 2, 3, 4, 5, 6, 7, 8, 9, 10, 11, 12] rfl (by decide) 0 rfl rfl rfl g_X10_208 hd_X10_upWorkers ⟨Nat.le_of_ble_eq_true rfl, Nat.le_of_ble_eq_true rfl⟩ ⟨Nat.zero_le _, Nat.zero_le _⟩ (Nat.le_of_ble_eq_true rfl) rfl dX10_size_68 (fun r hr => ?_)
              have hr := hr.symm
              subst hr
              obtain ⟨q14, hq14, h⟩ := bnd h
              refine r_callSp_CI (pc := 71) C [.int q13] (c_J6_bitCount_0f7a4 E l k q13 hq14) [] rfl (by decide) g_X10_211 hd_J6_bitCount_0f7a4.2 ⟨Nat.le_of_ble_eq_true rfl, Nat.le_of_ble_eq_true rfl⟩ ⟨Nat.zero_le _, Nat.zero_le _⟩ (Nat.le_of_ble_eq_true rfl) rfl dX10_size_71 (fun r hr => ?_)
              have hr := hr.symm
              subst hr
              cases h
              exact r_ireti (pc := 74) C hq (Nat.zero_le _) (Nat.zero_le _) dX10_size_74
            · rw [if_neg c12] at h
              by_cases c15 : p0 = (6 : Int32)
              · rw [if_pos c15] at h
                refine r_tabIn (pc := 6) C 75 dX10_size_6 c15 (by decide) (by decide) rfl rfl ?_
                refine r_aload_n (pc := 75) C (i := 0) dX10_size_75 rfl rfl ?_
                refine r_iconst (pc := 76) C (v := 1) dX10_size_76 (by decide) ?_
                refine r_iconst (pc := 77) C (v := (-1)) dX10_size_77 (by decide) ?_
                obtain ⟨q16, hq16, h⟩ := bnd h
                refine r_callVp_CI (Cn := RX10) (pc := 78) C [.int (1 : Int32), .int (-1 : Int32)] (c_X10_inState E l k a F1 (1 : Int32) (-1 : Int32) hq16) [0, 1, 2, 3, 4, 5, 6, 7, 8, 9, 10, 11, 12] rfl (by decide) 0 rfl rfl rfl g_X10_258 hd_X10_inState ⟨Nat.le_of_ble_eq_true rfl, Nat.le_of_ble_eq_true rfl⟩ ⟨Nat.zero_le _, Nat.zero_le _⟩ (Nat.le_of_ble_eq_true rfl) rfl dX10_size_78 (fun r hr => ?_)
                have hr := hr.symm
                subst hr
                cases h
                exact r_ireti (pc := 81) C hq (Nat.zero_le _) (Nat.zero_le _) dX10_size_81
              · rw [if_neg c15] at h
                by_cases c17 : p0 = (7 : Int32)
                · rw [if_pos c17] at h
                  refine r_tabIn (pc := 6) C 82 dX10_size_6 c17 (by decide) (by decide) rfl rfl ?_
                  refine r_aload_n (pc := 82) C (i := 0) dX10_size_82 rfl rfl ?_
                  refine r_get (pc := 83) C gwX10 0 rfl rfl 0 (by decide) wm_5_203 rfl dX10_size_83 ?_
                  refine r_bipush (pc := 86) C (v := 11) dX10_size_86 (by decide) ?_
                  obtain ⟨hi18, h⟩ := ifn h
                  refine r_iald (pc := 88) C 1 rfl hi18 dX10_size_88 ?_
                  cases h
                  exact r_ireti (pc := 89) C hq (Nat.zero_le _) (Nat.zero_le _) dX10_size_89
                · rw [if_neg c17] at h
                  by_cases c19 : p0 = (8 : Int32)
                  · rw [if_pos c19] at h
                    refine r_tabIn (pc := 6) C 90 dX10_size_6 c19 (by decide) (by decide) rfl rfl ?_
                    refine r_aload_n (pc := 90) C (i := 0) dX10_size_90 rfl rfl ?_
                    obtain ⟨q20, hq20, h⟩ := bnd h
                    refine r_callVp_CI (Cn := RX10) (pc := 91) C [] (c_X10_cutOff E l k a F1 hq20) [0, 1, 2, 3, 4, 5, 6, 7, 8, 9, 10, 11, 12] rfl (by decide) 0 rfl rfl rfl g_X10_261 hd_X10_cutOff ⟨Nat.le_of_ble_eq_true rfl, Nat.le_of_ble_eq_true rfl⟩ ⟨Nat.zero_le _, Nat.zero_le _⟩ (Nat.le_of_ble_eq_true rfl) rfl dX10_size_91 (fun r hr => ?_)
                    have hr := hr.symm
                    subst hr
                    cases h
                    exact r_ireti (pc := 94) C hq (Nat.zero_le _) (Nat.zero_le _) dX10_size_94
                  · rw [if_neg c19] at h
                    by_cases c21 : p0 = (9 : Int32)
                    · rw [if_pos c21] at h
                      refine r_tabIn (pc := 6) C 95 dX10_size_6 c21 (by decide) (by decide) rfl rfl ?_
                      refine r_aload_n (pc := 95) C (i := 0) dX10_size_95 rfl rfl ?_
                      obtain ⟨q22, hq22, h⟩ := bnd h
                      refine r_callVp_CI (Cn := RX10) (pc := 96) C [] (c_X10_shutTenants E l k a F1 hq22) [0, 1, 2, 3, 4, 5, 6, 7, 8, 9, 10, 11, 12] rfl (by decide) 0 rfl rfl rfl g_X10_264 hd_X10_shutTenants ⟨Nat.le_of_ble_eq_true rfl, Nat.le_of_ble_eq_true rfl⟩ ⟨Nat.zero_le _, Nat.zero_le _⟩ (Nat.le_of_ble_eq_true rfl) rfl dX10_size_96 (fun r hr => ?_)
                      have hr := hr.symm
                      subst hr
                      cases h
                      exact r_ireti (pc := 99) C hq (Nat.zero_le _) (Nat.zero_le _) dX10_size_99
                    · rw [if_neg c21] at h
                      refine r_tabOut (pc := 6) C 100 dX10_size_6 (by have := lv_neT (a := 0) c2 (by decide); have := lv_neT (a := 1) c4 (by decide); have := lv_neT (a := 2) c6 (by decide); have := lv_neT (a := 3) c8 (by decide); have := lv_neT (a := 4) c10 (by decide); have := lv_neT (a := 5) c12 (by decide); have := lv_neT (a := 6) c15 (by decide); have := lv_neT (a := 7) c17 (by decide); have := lv_neT (a := 8) c19 (by decide); have := lv_neT (a := 9) c21 (by decide); omega) rfl ?_
                      refine r_aload_n (pc := 100) C (i := 0) dX10_size_100 rfl rfl ?_
                      refine r_iconst (pc := 101) C (v := 1) dX10_size_101 (by decide) ?_
                      obtain ⟨q23, hq23, h⟩ := bnd h
                      refine r_callV_CI (Cn := RX10) (pc := 102) C [.int (1 : Int32)] (c_X10_raise E l k a F1 (1 : Int32) hq23) [0, 1, 2, 3, 4, 5, 6, 7, 8, 9, 10, 11, 12] rfl (by decide) 0 rfl rfl rfl g_X10_267 hd_X10_raise ⟨Nat.le_of_ble_eq_true rfl, Nat.le_of_ble_eq_true rfl⟩ ⟨Nat.zero_le _, Nat.zero_le _⟩ (Nat.le_of_ble_eq_true rfl) rfl dX10_size_102 (fun r w1 hw1 => ?_)
                      obtain ⟨hr1, hw1⟩ := hw1
                      subst hr1 hw1
                      refine ⟨(wMd E a q23.2), by rfl, ?_⟩
                      cases h
                      exact r_ireti (pc := 105) C hq (Nat.zero_le _) (Nat.zero_le _) dX10_size_105
def M_X10_size (k : Nat) (S : Nat → Nat → Int32) (p0 : Int32) : Option (Int32 × (Nat → Nat → Int32)) := M_X10_size_0 k p0 S
set_option maxRecDepth 100000 in
set_option maxHeartbeats 4000000 in
theorem c_X10_size (E : ENV) (l : Launch) (k : Nat) (a : Nat → Nat) (S : Nat → Nat → Int32) (p0 : Int32) {q : Int32 × (Nat → Nat → Int32)} (hm : M_X10_size k S p0 = some q) : CI E l yX10_size cX10_size 2 (some .int) rm_X10_size [.ref (a 0), .int p0] (wMd E a S) (fun r w' => r = q.1 ∧ w' = (wMd E a q.2)) :=
  CI.of 0 (by decide) (Nat.le_of_ble_eq_true rfl) (fun p e s m below meth c A C _ => r_weak (lSub_s (lSub_s lSub_e)) (N_X10_size_0 C a k p0 S q  hm ⟨rfl, rfl⟩))
-- ShardGuardModel.setting(I)I
theorem dX10_setting_0 : decode cX10_setting 0 = .ok (.aload_n 0, 1) := by decide +kernel
theorem dX10_setting_1 : decode cX10_setting 1 = .ok (.iconst 0, 1) := by decide +kernel
theorem dX10_setting_2 : decode cX10_setting 2 = .ok (.putfield 93, 3) := by decide +kernel
theorem dX10_setting_5 : decode cX10_setting 5 = .ok (.iload_n 1, 1) := by decide +kernel
theorem dX10_setting_6 : decode cX10_setting 6 = .ok (.iconst 0, 1) := by decide +kernel
theorem dX10_setting_7 : decode cX10_setting 7 = .ok (.iconst 4, 1) := by decide +kernel
theorem dX10_setting_8 : decode cX10_setting 8 = .ok (.invokestatic 110, 3) := by decide +kernel
theorem dX10_setting_11 : decode cX10_setting 11 = .ok (.ifCond .eq 11, 3) := by decide +kernel
theorem dX10_setting_14 : decode cX10_setting 14 = .ok (.aload_n 0, 1) := by decide +kernel
theorem dX10_setting_15 : decode cX10_setting 15 = .ok (.iload_n 1, 1) := by decide +kernel
theorem dX10_setting_16 : decode cX10_setting 16 = .ok (.invokevirtual 162, 3) := by decide +kernel
theorem dX10_setting_19 : decode cX10_setting 19 = .ok (.goto 8, 3) := by decide +kernel
theorem dX10_setting_22 : decode cX10_setting 22 = .ok (.aload_n 0, 1) := by decide +kernel
theorem dX10_setting_23 : decode cX10_setting 23 = .ok (.iconst 1, 1) := by decide +kernel
theorem dX10_setting_24 : decode cX10_setting 24 = .ok (.invokevirtual 267, 3) := by decide +kernel
theorem dX10_setting_27 : decode cX10_setting 27 = .ok (.ireturn, 1) := by decide +kernel
def rm_X10_setting : Room := { frames := 1, cells := 0, slots := 0, locals := 22 }
def M_X10_setting_0 (k : Nat) (p0 : Int32) (S : Nat → Nat → Int32) : Option (Int32 × (Nat → Nat → Int32)) := lt (va_up S 0 (upd (S 0) 1 (0 : Int32))) fun F1 => (M_X10_inRange k p0 (0 : Int32) (4 : Int32)).bind fun q2 => if q2 = 0 then ((M_X10_raise k F1 (1 : Int32)).bind fun q4 => some (q4.1, q4.2)) else ((M_X10_told k F1 p0).bind fun q5 => some (q5, F1))
set_option maxRecDepth 100000 in
set_option maxHeartbeats 4000000 in
theorem N_X10_setting_0 (C : CX E p l s m args meth c cX10_setting 2 RX10 (some .int) A) (a : Nat → Nat) (k : Nat) {post : Int32 → va_W → Prop} :
    ∀ (p0 : Int32) (S : Nat → Nat → Int32) (q : Int32 × (Nat → Nat → Int32)), M_X10_setting_0 k p0 S = some q → post q.1 (wMd E a q.2) →
      WW E p l e rm_X10_setting s m args below meth c A 0 0 (QI E below post args s rm_X10_setting A) (wMd E a S) 2 [some (.ref (a 0)), some (.int p0)] 0 [] := by
  intro p0 S q  h hq
  unfold M_X10_setting_0 at h
  refine r_aload_n (pc := 0) C (i := 0) dX10_setting_0 rfl rfl ?_
  refine r_iconst (pc := 1) C (v := 0) dX10_setting_1 (by decide) ?_
  obtain ⟨F1, hF1, h⟩ := lt_e h
  refine r_put (pc := 2) C gwX10 tyX10 tyX10_ok nmX10 0 rfl rfl 6 (by decide) wm_5_209 rfl rfl rfl rfl (Nat.le_of_ble_eq_true rfl) (w' := (wMd E a F1)) (by rw [hF1]; rfl) dX10_setting_2 ?_
  refine r_iload_n (pc := 5) C (i := 1) dX10_setting_5 rfl rfl ?_
  refine r_iconst (pc := 6) C (v := 0) dX10_setting_6 (by decide) ?_
  refine r_iconst (pc := 7) C (v := 4) dX10_setting_7 (by decide) ?_
  obtain ⟨q2, hq2, h⟩ := bnd h
  refine r_callSp_CI (pc := 8) C [.int p0, .int (0 : Int32), .int (4 : Int32)] (c_X10_inRange E l k p0 (0 : Int32) (4 : Int32) hq2) [] rfl (by decide) g_X10_110 hd_X10_inRange.2 ⟨Nat.le_of_ble_eq_true rfl, Nat.le_of_ble_eq_true rfl⟩ ⟨Nat.zero_le _, Nat.zero_le _⟩ (Nat.le_of_ble_eq_true rfl) rfl dX10_setting_8 (fun r hr => ?_)
  have hr := hr.symm
  subst hr
  refine r_if_eq (pc := 11) C (tgt := 22) dX10_setting_11 rfl (fun c3 => ?_) (fun c3 => ?_)
  · rw [if_pos c3] at h
    refine r_aload_n (pc := 22) C (i := 0) dX10_setting_22 rfl rfl ?_
    refine r_iconst (pc := 23) C (v := 1) dX10_setting_23 (by decide) ?_
    obtain ⟨q4, hq4, h⟩ := bnd h
    refine r_callV_CI (Cn := RX10) (pc := 24) C [.int (1 : Int32)] (c_X10_raise E l k a F1 (1 : Int32) hq4) [0, 1, 2, 3, 4, 5, 6, 7, 8, 9, 10, 11, 12] rfl (by decide) 0 rfl rfl rfl g_X10_267 hd_X10_raise ⟨Nat.le_of_ble_eq_true rfl, Nat.le_of_ble_eq_true rfl⟩ ⟨Nat.zero_le _, Nat.zero_le _⟩ (Nat.le_of_ble_eq_true rfl) rfl dX10_setting_24 (fun r w1 hw1 => ?_)
    obtain ⟨hr1, hw1⟩ := hw1
    subst hr1 hw1
    refine ⟨(wMd E a q4.2), by rfl, ?_⟩
    cases h
    exact r_ireti (pc := 27) C hq (Nat.zero_le _) (Nat.zero_le _) dX10_setting_27
  · rw [if_neg c3] at h
    refine r_aload_n (pc := 14) C (i := 0) dX10_setting_14 rfl rfl ?_
    refine r_iload_n (pc := 15) C (i := 1) dX10_setting_15 rfl rfl ?_
    obtain ⟨q5, hq5, h⟩ := bnd h
    refine r_callVp_CI (Cn := RX10) (pc := 16) C [.int p0] (c_X10_told E l k a F1 p0 hq5) [0, 1, 2, 3, 4, 5, 6, 7, 8, 9, 10, 11, 12] rfl (by decide) 0 rfl rfl rfl g_X10_162 hd_X10_told ⟨Nat.le_of_ble_eq_true rfl, Nat.le_of_ble_eq_true rfl⟩ ⟨Nat.zero_le _, Nat.zero_le _⟩ (Nat.le_of_ble_eq_true rfl) rfl dX10_setting_16 (fun r hr => ?_)
    have hr := hr.symm
    subst hr
    refine r_goto (pc := 19) C (tgt := 27) dX10_setting_19 rfl ?_
    cases h
    exact r_ireti (pc := 27) C hq (Nat.zero_le _) (Nat.zero_le _) dX10_setting_27
def M_X10_setting (k : Nat) (S : Nat → Nat → Int32) (p0 : Int32) : Option (Int32 × (Nat → Nat → Int32)) := M_X10_setting_0 k p0 S
set_option maxRecDepth 100000 in
set_option maxHeartbeats 4000000 in
theorem c_X10_setting (E : ENV) (l : Launch) (k : Nat) (a : Nat → Nat) (S : Nat → Nat → Int32) (p0 : Int32) {q : Int32 × (Nat → Nat → Int32)} (hm : M_X10_setting k S p0 = some q) : CI E l yX10_setting cX10_setting 2 (some .int) rm_X10_setting [.ref (a 0), .int p0] (wMd E a S) (fun r w' => r = q.1 ∧ w' = (wMd E a q.2)) :=
  CI.of 0 (by decide) (Nat.le_of_ble_eq_true rfl) (fun p e s m below meth c A C _ => r_weak (lSub_s (lSub_s lSub_e)) (N_X10_setting_0 C a k p0 S q  hm ⟨rfl, rfl⟩))
end WALKS
