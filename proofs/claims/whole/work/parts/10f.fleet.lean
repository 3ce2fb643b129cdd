section WALKS
variable {E : ENV} {p : Program} {l : Launch} {e : Env} {s : State} {m : MethodId} {args : Array Value} {below : List Frame} {meth : Method} {c : Code} {A : Nat → Prop}
theorem hd_X0_sharingCost : yX0_sharingCost.cls = RX0 ∧ yX0_sharingCost.cls ≠ "java/lang/invoke/MethodHandle" ∧ yX0_sharingCost.cls ≠ "java/lang/invoke/VarHandle" ∧ (parseMethodDescriptor yX0_sharingCost.desc).map (fun d => d.parameters.length) = some 2 := by decide +kernel
theorem g_X0_198 : GoodIn GW (wsV RX0 198 RX0 yX0_sharingCost (wsG yX0_sharingCost cX0_sharingCost 7 (some .int))) := gw_V wm_4_122 wm_4_124 wm_0_7 wm_1_2 wm_4_125
-- ShardGuard$Fleet.leastSharedShard(I)I
theorem dX0_leastSharedShard_0 : decode cX0_leastSharedShard 0 = .ok (.iconst (-1), 1) := by decide +kernel
theorem dX0_leastSharedShard_1 : decode cX0_leastSharedShard 1 = .ok (.istore_n 2, 1) := by decide +kernel
theorem dX0_leastSharedShard_2 : decode cX0_leastSharedShard 2 = .ok (.iconst 0, 1) := by decide +kernel
theorem dX0_leastSharedShard_3 : decode cX0_leastSharedShard 3 = .ok (.istore_n 3, 1) := by decide +kernel
theorem dX0_leastSharedShard_4 : decode cX0_leastSharedShard 4 = .ok (.iconst 0, 1) := by decide +kernel
theorem dX0_leastSharedShard_5 : decode cX0_leastSharedShard 5 = .ok (.istore 4, 2) := by decide +kernel
theorem dX0_leastSharedShard_7 : decode cX0_leastSharedShard 7 = .ok (.iload 4, 2) := by decide +kernel
theorem dX0_leastSharedShard_9 : decode cX0_leastSharedShard 9 = .ok (.aload_n 0, 1) := by decide +kernel
theorem dX0_leastSharedShard_10 : decode cX0_leastSharedShard 10 = .ok (.invokevirtual 58, 3) := by decide +kernel
theorem dX0_leastSharedShard_13 : decode cX0_leastSharedShard 13 = .ok (.if_icmp .gt 47, 3) := by decide +kernel
theorem dX0_leastSharedShard_16 : decode cX0_leastSharedShard 16 = .ok (.iload 4, 2) := by decide +kernel
theorem dX0_leastSharedShard_18 : decode cX0_leastSharedShard 18 = .ok (.invokestatic 190, 3) := by decide +kernel
theorem dX0_leastSharedShard_21 : decode cX0_leastSharedShard 21 = .ok (.aload_n 0, 1) := by decide +kernel
theorem dX0_leastSharedShard_22 : decode cX0_leastSharedShard 22 = .ok (.getfield 49, 3) := by decide +kernel
theorem dX0_leastSharedShard_25 : decode cX0_leastSharedShard 25 = .ok (.if_icmp .ne 29, 3) := by decide +kernel
theorem dX0_leastSharedShard_28 : decode cX0_leastSharedShard 28 = .ok (.aload_n 0, 1) := by decide +kernel
theorem dX0_leastSharedShard_29 : decode cX0_leastSharedShard 29 = .ok (.iload_n 1, 1) := by decide +kernel
theorem dX0_leastSharedShard_30 : decode cX0_leastSharedShard 30 = .ok (.iload 4, 2) := by decide +kernel
theorem dX0_leastSharedShard_32 : decode cX0_leastSharedShard 32 = .ok (.invokevirtual 198, 3) := by decide +kernel
theorem dX0_leastSharedShard_35 : decode cX0_leastSharedShard 35 = .ok (.istore 5, 2) := by decide +kernel
theorem dX0_leastSharedShard_37 : decode cX0_leastSharedShard 37 = .ok (.iload_n 2, 1) := by decide +kernel
theorem dX0_leastSharedShard_38 : decode cX0_leastSharedShard 38 = .ok (.iconst (-1), 1) := by decide +kernel
theorem dX0_leastSharedShard_39 : decode cX0_leastSharedShard 39 = .ok (.if_icmp .eq 9, 3) := by decide +kernel
theorem dX0_leastSharedShard_42 : decode cX0_leastSharedShard 42 = .ok (.iload 5, 2) := by decide +kernel
theorem dX0_leastSharedShard_44 : decode cX0_leastSharedShard 44 = .ok (.iload_n 3, 1) := by decide +kernel
theorem dX0_leastSharedShard_45 : decode cX0_leastSharedShard 45 = .ok (.if_icmp .ge 9, 3) := by decide +kernel
theorem dX0_leastSharedShard_48 : decode cX0_leastSharedShard 48 = .ok (.iload 5, 2) := by decide +kernel
theorem dX0_leastSharedShard_50 : decode cX0_leastSharedShard 50 = .ok (.istore_n 3, 1) := by decide +kernel
theorem dX0_leastSharedShard_51 : decode cX0_leastSharedShard 51 = .ok (.iload 4, 2) := by decide +kernel
theorem dX0_leastSharedShard_53 : decode cX0_leastSharedShard 53 = .ok (.istore_n 2, 1) := by decide +kernel
theorem dX0_leastSharedShard_54 : decode cX0_leastSharedShard 54 = .ok (.iinc 4 1, 3) := by decide +kernel
theorem dX0_leastSharedShard_57 : decode cX0_leastSharedShard 57 = .ok (.goto (-50), 3) := by decide +kernel
theorem dX0_leastSharedShard_60 : decode cX0_leastSharedShard 60 = .ok (.iload_n 2, 1) := by decide +kernel
theorem dX0_leastSharedShard_61 : decode cX0_leastSharedShard 61 = .ok (.ireturn, 1) := by decide +kernel
def rm_X0_leastSharedShard : Room := { frames := 3, cells := 0, slots := 0, locals := 71 }
def M_X0_leastSharedShard_7 (k : Nat) (S : Nat → Nat → Int32) : Nat → (Int32) → (Int32) → (Int32) → (Int32) → Option (Int32)
  | 0, _, _, _, _ => none
  | n + 1, x1, x2, x3, x4 => (M_X0_allWorkers k S).bind fun q1 => if q1 < x4 then (some x2) else ((M_J6_bitCount_0f7a4 k x4).bind fun q3 => if q3 = (S 0 1) then ((M_X0_sharingCost k S x1 x4).bind fun q5 => if x2 = (-1 : Int32) then (M_X0_leastSharedShard_7 k S n x1 x4 q5 (x4 + 1)) else (if x3 ≤ q5 then (M_X0_leastSharedShard_7 k S n x1 x2 x3 (x4 + 1)) else (M_X0_leastSharedShard_7 k S n x1 x4 q5 (x4 + 1)))) else (M_X0_leastSharedShard_7 k S n x1 x2 x3 (x4 + 1)))
theorem M_X0_leastSharedShard_7_s (k : Nat) (S : Nat → Nat → Int32) (n : Nat) (x1 : Int32) (x2 : Int32) (x3 : Int32) (x4 : Int32) : M_X0_leastSharedShard_7 k S (n + 1) x1 x2 x3 x4 = ((M_X0_allWorkers k S).bind fun q1 => if q1 < x4 then (some x2) else ((M_J6_bitCount_0f7a4 k x4).bind fun q3 => if q3 = (S 0 1) then ((M_X0_sharingCost k S x1 x4).bind fun q5 => if x2 = (-1 : Int32) then (M_X0_leastSharedShard_7 k S n x1 x4 q5 (x4 + 1)) else (if x3 ≤ q5 then (M_X0_leastSharedShard_7 k S n x1 x2 x3 (x4 + 1)) else (M_X0_leastSharedShard_7 k S n x1 x4 q5 (x4 + 1)))) else (M_X0_leastSharedShard_7 k S n x1 x2 x3 (x4 + 1)))) := rfl
set_option maxRecDepth 100000 in
set_option maxHeartbeats 4000000 in
theorem N_X0_leastSharedShard_7 (C : CX E p l s m args meth c cX0_leastSharedShard 6 RX0 (some .int) A) (a : Nat → Nat) (k : Nat) (S : Nat → Nat → Int32) {post : Int32 → va_W → Prop} :
    ∀ (n : Nat) (x1 : Int32) (x2 : Int32) (x3 : Int32) (x4 : Int32) (q : Int32), M_X0_leastSharedShard_7 k S n x1 x2 x3 x4 = some q → post q (wFl E a S) →
      WW E p l e rm_X0_leastSharedShard s m args below meth c A 0 0 (QI E below post args s rm_X0_leastSharedShard A) (wFl E a S) 6 [some (.ref (a 0)), some (.int x1), some (.int x2), some (.int x3), some (.int x4), none] 7 [] := by
  intro n
  induction n with
  | zero => intro x1 x2 x3 x4 q  h _; cases h
  | succ n ih =>
    intro x1 x2 x3 x4 q  h hq
    rw [M_X0_leastSharedShard_7_s] at h
    refine r_iload (pc := 7) C (i := 4) dX0_leastSharedShard_7 rfl ?_
    refine r_aload_n (pc := 9) C (i := 0) dX0_leastSharedShard_9 rfl rfl ?_
    obtain ⟨q1, hq1, h⟩ := bnd h
    refine r_callVp_CI (Cn := RX0) (pc := 10) C [] (c_X0_allWorkers E l k a S hq1) [0, 1, 2, 3, 4, 5, 6, 7, 8, 9, 10, 11, 12, 13, 14, 15, 16, 17] (hp_X0_isCutOff_0 E a S) (by decide) 0 rfl rfl rfl g_X0_58 hd_X0_allWorkers ⟨Nat.le_of_ble_eq_true rfl, Nat.le_of_ble_eq_true rfl⟩ ⟨Nat.zero_le _, Nat.zero_le _⟩ (Nat.le_of_ble_eq_true rfl) rfl dX0_leastSharedShard_10 (fun r hr => ?_)
    have hr := hr.symm
    subst hr
    refine r_icmp_gt (pc := 13) C (tgt := 60) dX0_leastSharedShard_13 rfl (fun c2 => ?_) (fun c2 => ?_)
    · rw [if_pos c2] at h
      refine r_iload_n (pc := 60) C (i := 2) dX0_leastSharedShard_60 rfl rfl ?_
      cases h
      exact r_ireti (pc := 61) C hq (Nat.zero_le _) (Nat.zero_le _) dX0_leastSharedShard_61
    · rw [if_neg c2] at h
      refine r_iload (pc := 16) C (i := 4) dX0_leastSharedShard_16 rfl ?_
      obtain ⟨q3, hq3, h⟩ := bnd h
      refine r_callSp_CI (pc := 18) C [.int x4] (c_J6_bitCount_0f7a4 E l k x4 hq3) [] rfl (by decide) g_X0_190 hd_J6_bitCount_0f7a4.2 ⟨Nat.le_of_ble_eq_true rfl, Nat.le_of_ble_eq_true rfl⟩ ⟨Nat.zero_le _, Nat.zero_le _⟩ (Nat.le_of_ble_eq_true rfl) rfl dX0_leastSharedShard_18 (fun r hr => ?_)
      have hr := hr.symm
      subst hr
      refine r_aload_n (pc := 21) C (i := 0) dX0_leastSharedShard_21 rfl rfl ?_
      refine r_get (pc := 22) C gwX0 0 rfl rfl 1 (by decide) wm_1_95 rfl dX0_leastSharedShard_22 ?_
      refine r_icmp_ne (pc := 25) C (tgt := 54) dX0_leastSharedShard_25 rfl (fun c4 => ?_) (fun c4 => ?_)
      · rw [if_neg c4] at h
        refine r_iinc (pc := 54) C (v := (x4 + 1)) dX0_leastSharedShard_54 rfl rfl (by decide) rfl ?_
        refine r_goto (pc := 57) C (tgt := 7) dX0_leastSharedShard_57 rfl ?_
        refine r_weak (lSub_s (lSub_s (lSub_s (lSub_s (lSub_s (lSub_n lSub_e)))))) ?_
        exact ih x1 x2 x3 (x4 + 1) q  h hq
      · rw [if_pos c4] at h
        refine r_aload_n (pc := 28) C (i := 0) dX0_leastSharedShard_28 rfl rfl ?_
        refine r_iload_n (pc := 29) C (i := 1) dX0_leastSharedShard_29 rfl rfl ?_
        refine r_iload (pc := 30) C (i := 4) dX0_leastSharedShard_30 rfl ?_
        obtain ⟨q5, hq5, h⟩ := bnd h
        refine r_callVp_CI (Cn := RX0) (pc := 32) C [.int x1, .int x4] (c_X0_sharingCost E l k a S x1 x4 hq5) [0, 1, 2, 3, 4, 5, 6, 7, 8, 9, 10, 11, 12, 13, 14, 15, 16, 17] (hp_X0_isCutOff_0 E a S) (by decide) 0 rfl rfl rfl g_X0_198 hd_X0_sharingCost ⟨Nat.le_of_ble_eq_true rfl, Nat.le_of_ble_eq_true rfl⟩ ⟨Nat.zero_le _, Nat.zero_le _⟩ (Nat.le_of_ble_eq_true rfl) rfl dX0_leastSharedShard_32 (fun r hr => ?_)
        have hr := hr.symm
        subst hr
        refine r_istore (pc := 35) C (i := 5) dX0_leastSharedShard_35 (by decide) rfl ?_
        refine r_iload_n (pc := 37) C (i := 2) dX0_leastSharedShard_37 rfl rfl ?_
        refine r_iconst (pc := 38) C (v := (-1)) dX0_leastSharedShard_38 (by decide) ?_
        refine r_icmp_eq (pc := 39) C (tgt := 48) dX0_leastSharedShard_39 rfl (fun c6 => ?_) (fun c6 => ?_)
        · rw [if_pos c6] at h
          refine r_iload (pc := 48) C (i := 5) dX0_leastSharedShard_48 rfl ?_
          refine r_istore_n (pc := 50) C (i := 3) dX0_leastSharedShard_50 rfl (by decide) rfl ?_
          refine r_iload (pc := 51) C (i := 4) dX0_leastSharedShard_51 rfl ?_
          refine r_istore_n (pc := 53) C (i := 2) dX0_leastSharedShard_53 rfl (by decide) rfl ?_
          refine r_iinc (pc := 54) C (v := (x4 + 1)) dX0_leastSharedShard_54 rfl rfl (by decide) rfl ?_
          refine r_goto (pc := 57) C (tgt := 7) dX0_leastSharedShard_57 rfl ?_
          refine r_weak (lSub_s (lSub_s (lSub_s (lSub_s (lSub_s (lSub_n lSub_e)))))) ?_
          exact ih x1 x4 q5 (x4 + 1) q  h hq
        · rw [if_neg c6] at h
          refine r_iload (pc := 42) C (i := 5) dX0_leastSharedShard_42 rfl ?_
          refine r_iload_n (pc := 44) C (i := 3) dX0_leastSharedShard_44 rfl rfl ?_
          refine r_icmp_ge (pc := 45) C (tgt := 54) dX0_leastSharedShard_45 rfl (fun c7 => ?_) (fun c7 => ?_)
          · rw [if_pos c7] at h
            refine r_iinc (pc := 54) C (v := (x4 + 1)) dX0_leastSharedShard_54 rfl rfl (by decide) rfl ?_
            refine r_goto (pc := 57) C (tgt := 7) dX0_leastSharedShard_57 rfl ?_
            refine r_weak (lSub_s (lSub_s (lSub_s (lSub_s (lSub_s (lSub_n lSub_e)))))) ?_
            exact ih x1 x2 x3 (x4 + 1) q  h hq
          · rw [if_neg c7] at h
            refine r_iload (pc := 48) C (i := 5) dX0_leastSharedShard_48 rfl ?_
            refine r_istore_n (pc := 50) C (i := 3) dX0_leastSharedShard_50 rfl (by decide) rfl ?_
            refine r_iload (pc := 51) C (i := 4) dX0_leastSharedShard_51 rfl ?_
            refine r_istore_n (pc := 53) C (i := 2) dX0_leastSharedShard_53 rfl (by decide) rfl ?_
            refine r_iinc (pc := 54) C (v := (x4 + 1)) dX0_leastSharedShard_54 rfl rfl (by decide) rfl ?_
            refine r_goto (pc := 57) C (tgt := 7) dX0_leastSharedShard_57 rfl ?_
            refine r_weak (lSub_s (lSub_s (lSub_s (lSub_s (lSub_s (lSub_n lSub_e)))))) ?_
            exact ih x1 x4 q5 (x4 + 1) q  h hq
def M_X0_leastSharedShard_0 (k : Nat) (S : Nat → Nat → Int32) (p0 : Int32) : Option (Int32) := M_X0_leastSharedShard_7 k S k p0 (-1 : Int32) (0 : Int32) (0 : Int32)
set_option maxRecDepth 100000 in
set_option maxHeartbeats 4000000 in
theorem N_X0_leastSharedShard_0 (C : CX E p l s m args meth c cX0_leastSharedShard 6 RX0 (some .int) A) (a : Nat → Nat) (k : Nat) (S : Nat → Nat → Int32) {post : Int32 → va_W → Prop} :
    ∀ (p0 : Int32) (q : Int32), M_X0_leastSharedShard_0 k S p0 = some q → post q (wFl E a S) →
      WW E p l e rm_X0_leastSharedShard s m args below meth c A 0 0 (QI E below post args s rm_X0_leastSharedShard A) (wFl E a S) 6 [some (.ref (a 0)), some (.int p0), none, none, none, none] 0 [] := by
  intro p0 q  h hq
  unfold M_X0_leastSharedShard_0 at h
  refine r_iconst (pc := 0) C (v := (-1)) dX0_leastSharedShard_0 (by decide) ?_
  refine r_istore_n (pc := 1) C (i := 2) dX0_leastSharedShard_1 rfl (by decide) rfl ?_
  refine r_iconst (pc := 2) C (v := 0) dX0_leastSharedShard_2 (by decide) ?_
  refine r_istore_n (pc := 3) C (i := 3) dX0_leastSharedShard_3 rfl (by decide) rfl ?_
  refine r_iconst (pc := 4) C (v := 0) dX0_leastSharedShard_4 (by decide) ?_
  refine r_istore (pc := 5) C (i := 4) dX0_leastSharedShard_5 (by decide) rfl ?_
  refine r_weak (lSub_s (lSub_s (lSub_s (lSub_s (lSub_s (lSub_n lSub_e)))))) ?_
  exact N_X0_leastSharedShard_7 C a k S k p0 (-1 : Int32) (0 : Int32) (0 : Int32) q  h hq
def M_X0_leastSharedShard (k : Nat) (S : Nat → Nat → Int32) (p0 : Int32) : Option (Int32) := M_X0_leastSharedShard_0 k S p0
set_option maxRecDepth 100000 in
set_option maxHeartbeats 4000000 in
theorem c_X0_leastSharedShard (E : ENV) (l : Launch) (k : Nat) (a : Nat → Nat) (S : Nat → Nat → Int32) (p0 : Int32) {q : Int32} (hm : M_X0_leastSharedShard k S p0 = some q) : CI E l yX0_leastSharedShard cX0_leastSharedShard 6 (some .int) rm_X0_leastSharedShard [.ref (a 0), .int p0] (wFl E a S) (fun r w' => r = q ∧ w' = (wFl E a S)) :=
  CI.of 4 (by decide) (Nat.le_of_ble_eq_true rfl) (fun p e s m below meth c A C _ => r_weak (lSub_s (lSub_s (lSub_n (lSub_n (lSub_n (lSub_n lSub_e)))))) (N_X0_leastSharedShard_0 C a k S p0 q  hm ⟨rfl, rfl⟩))
-- ShardGuard$Fleet.freeWorker(II)I
theorem dX0_freeWorker_0 : decode cX0_freeWorker 0 = .ok (.aload_n 0, 1) := by decide +kernel
theorem dX0_freeWorker_1 : decode cX0_freeWorker 1 = .ok (.getfield 45, 3) := by decide +kernel
theorem dX0_freeWorker_4 : decode cX0_freeWorker 4 = .ok (.iload_n 1, 1) := by decide +kernel
theorem dX0_freeWorker_5 : decode cX0_freeWorker 5 = .ok (.invokestatic 190, 3) := by decide +kernel
theorem dX0_freeWorker_8 : decode cX0_freeWorker 8 = .ok (.isub, 1) := by decide +kernel
theorem dX0_freeWorker_9 : decode cX0_freeWorker 9 = .ok (.istore_n 3, 1) := by decide +kernel
theorem dX0_freeWorker_10 : decode cX0_freeWorker 10 = .ok (.iload_n 3, 1) := by decide +kernel
theorem dX0_freeWorker_11 : decode cX0_freeWorker 11 = .ok (.ifCond .gt 5, 3) := by decide +kernel
theorem dX0_freeWorker_14 : decode cX0_freeWorker 14 = .ok (.iconst 0, 1) := by decide +kernel
theorem dX0_freeWorker_15 : decode cX0_freeWorker 15 = .ok (.ireturn, 1) := by decide +kernel
theorem dX0_freeWorker_16 : decode cX0_freeWorker 16 = .ok (.iload_n 2, 1) := by decide +kernel
theorem dX0_freeWorker_17 : decode cX0_freeWorker 17 = .ok (.iload_n 3, 1) := by decide +kernel
theorem dX0_freeWorker_18 : decode cX0_freeWorker 18 = .ok (.irem, 1) := by decide +kernel
theorem dX0_freeWorker_19 : decode cX0_freeWorker 19 = .ok (.istore 4, 2) := by decide +kernel
theorem dX0_freeWorker_21 : decode cX0_freeWorker 21 = .ok (.iconst 0, 1) := by decide +kernel
theorem dX0_freeWorker_22 : decode cX0_freeWorker 22 = .ok (.istore 5, 2) := by decide +kernel
theorem dX0_freeWorker_24 : decode cX0_freeWorker 24 = .ok (.iload 5, 2) := by decide +kernel
theorem dX0_freeWorker_26 : decode cX0_freeWorker 26 = .ok (.aload_n 0, 1) := by decide +kernel
theorem dX0_freeWorker_27 : decode cX0_freeWorker 27 = .ok (.getfield 45, 3) := by decide +kernel
theorem dX0_freeWorker_30 : decode cX0_freeWorker 30 = .ok (.if_icmp .ge 31, 3) := by decide +kernel
theorem dX0_freeWorker_33 : decode cX0_freeWorker 33 = .ok (.iload_n 1, 1) := by decide +kernel
theorem dX0_freeWorker_34 : decode cX0_freeWorker 34 = .ok (.iload 5, 2) := by decide +kernel
theorem dX0_freeWorker_36 : decode cX0_freeWorker 36 = .ok (.invokestatic 107, 3) := by decide +kernel
theorem dX0_freeWorker_39 : decode cX0_freeWorker 39 = .ok (.ifCond .ne 16, 3) := by decide +kernel
theorem dX0_freeWorker_42 : decode cX0_freeWorker 42 = .ok (.iload 4, 2) := by decide +kernel
theorem dX0_freeWorker_44 : decode cX0_freeWorker 44 = .ok (.ifCond .ne 8, 3) := by decide +kernel
theorem dX0_freeWorker_47 : decode cX0_freeWorker 47 = .ok (.iconst 1, 1) := by decide +kernel
theorem dX0_freeWorker_48 : decode cX0_freeWorker 48 = .ok (.iload 5, 2) := by decide +kernel
theorem dX0_freeWorker_50 : decode cX0_freeWorker 50 = .ok (.ishl, 1) := by decide +kernel
theorem dX0_freeWorker_51 : decode cX0_freeWorker 51 = .ok (.ireturn, 1) := by decide +kernel
theorem dX0_freeWorker_52 : decode cX0_freeWorker 52 = .ok (.iinc 4 (-1), 3) := by decide +kernel
theorem dX0_freeWorker_55 : decode cX0_freeWorker 55 = .ok (.iinc 5 1, 3) := by decide +kernel
theorem dX0_freeWorker_58 : decode cX0_freeWorker 58 = .ok (.goto (-34), 3) := by decide +kernel
theorem dX0_freeWorker_61 : decode cX0_freeWorker 61 = .ok (.iconst 0, 1) := by decide +kernel
theorem dX0_freeWorker_62 : decode cX0_freeWorker 62 = .ok (.ireturn, 1) := by decide +kernel
def rm_X0_freeWorker : Room := { frames := 1, cells := 0, slots := 0, locals := 21 }
def M_X0_freeWorker_24 (k : Nat) (S : Nat → Nat → Int32) : Nat → (Int32) → (Int32) → (Int32) → Option (Int32)
  | 0, _, _, _ => none
  | n + 1, x1, x4, x5 => if (S 0 0) ≤ x5 then (some (0 : Int32)) else ((M_X0_has k x1 x5).bind fun q2 => if q2 = 0 then (if x4 = 0 then (some ((1 : Int32) <<< (x5 &&& 31))) else (M_X0_freeWorker_24 k S n x1 (x4 + (-1)) (x5 + 1))) else (M_X0_freeWorker_24 k S n x1 x4 (x5 + 1)))
theorem M_X0_freeWorker_24_s (k : Nat) (S : Nat → Nat → Int32) (n : Nat) (x1 : Int32) (x4 : Int32) (x5 : Int32) : M_X0_freeWorker_24 k S (n + 1) x1 x4 x5 = (if (S 0 0) ≤ x5 then (some (0 : Int32)) else ((M_X0_has k x1 x5).bind fun q2 => if q2 = 0 then (if x4 = 0 then (some ((1 : Int32) <<< (x5 &&& 31))) else (M_X0_freeWorker_24 k S n x1 (x4 + (-1)) (x5 + 1))) else (M_X0_freeWorker_24 k S n x1 x4 (x5 + 1)))) := rfl
set_option maxRecDepth 100000 in
set_option maxHeartbeats 4000000 in
theorem N_X0_freeWorker_24 (C : CX E p l s m args meth c cX0_freeWorker 6 RX0 (some .int) A) (a : Nat → Nat) (k : Nat) (S : Nat → Nat → Int32) {post : Int32 → va_W → Prop} :
    ∀ (n : Nat) (x1 : Int32) (x4 : Int32) (x5 : Int32) (q : Int32), M_X0_freeWorker_24 k S n x1 x4 x5 = some q → post q (wFl E a S) →
      WW E p l e rm_X0_freeWorker s m args below meth c A 0 0 (QI E below post args s rm_X0_freeWorker A) (wFl E a S) 6 [some (.ref (a 0)), some (.int x1), none, none, some (.int x4), some (.int x5)] 24 [] := by
  intro n
  induction n with
  | zero => intro x1 x4 x5 q  h _; cases h
  | succ n ih =>
    intro x1 x4 x5 q  h hq
    rw [M_X0_freeWorker_24_s] at h
    refine r_iload (pc := 24) C (i := 5) dX0_freeWorker_24 rfl ?_
    refine r_aload_n (pc := 26) C (i := 0) dX0_freeWorker_26 rfl rfl ?_
    refine r_get (pc := 27) C gwX0 0 rfl rfl 0 (by decide) wm_1_92 rfl dX0_freeWorker_27 ?_
    refine r_icmp_ge (pc := 30) C (tgt := 61) dX0_freeWorker_30 rfl (fun c1 => ?_) (fun c1 => ?_)
    · rw [if_pos c1] at h
      refine r_iconst (pc := 61) C (v := 0) dX0_freeWorker_61 (by decide) ?_
      cases h
      exact r_ireti (pc := 62) C hq (Nat.zero_le _) (Nat.zero_le _) dX0_freeWorker_62
    · rw [if_neg c1] at h
      refine r_iload_n (pc := 33) C (i := 1) dX0_freeWorker_33 rfl rfl ?_
      refine r_iload (pc := 34) C (i := 5) dX0_freeWorker_34 rfl ?_
      obtain ⟨q2, hq2, h⟩ := bnd h
      refine r_callSp_CI (pc := 36) C [.int x1, .int x5] (c_X0_has E l k x1 x5 hq2) [] rfl (by decide) g_X0_107 hd_X0_has.2 ⟨Nat.le_of_ble_eq_true rfl, Nat.le_of_ble_eq_true rfl⟩ ⟨Nat.zero_le _, Nat.zero_le _⟩ (Nat.le_of_ble_eq_true rfl) rfl dX0_freeWorker_36 (fun r hr => ?_)
      have hr := hr.symm
      subst hr
      refine r_if_ne (pc := 39) C (tgt := 55) dX0_freeWorker_39 rfl (fun c3 => ?_) (fun c3 => ?_)
      · rw [if_neg c3] at h
        refine r_iinc (pc := 55) C (v := (x5 + 1)) dX0_freeWorker_55 rfl rfl (by decide) rfl ?_
        refine r_goto (pc := 58) C (tgt := 24) dX0_freeWorker_58 rfl ?_
        refine r_weak (lSub_s (lSub_s (lSub_n (lSub_n (lSub_s (lSub_s lSub_e)))))) ?_
        exact ih x1 x4 (x5 + 1) q  h hq
      · rw [if_pos c3] at h
        refine r_iload (pc := 42) C (i := 4) dX0_freeWorker_42 rfl ?_
        refine r_if_ne (pc := 44) C (tgt := 52) dX0_freeWorker_44 rfl (fun c4 => ?_) (fun c4 => ?_)
        · rw [if_neg c4] at h
          refine r_iinc (pc := 52) C (v := (x4 + (-1))) dX0_freeWorker_52 rfl rfl (by decide) rfl ?_
          refine r_iinc (pc := 55) C (v := (x5 + 1)) dX0_freeWorker_55 rfl rfl (by decide) rfl ?_
          refine r_goto (pc := 58) C (tgt := 24) dX0_freeWorker_58 rfl ?_
          refine r_weak (lSub_s (lSub_s (lSub_n (lSub_n (lSub_s (lSub_s lSub_e)))))) ?_
          exact ih x1 (x4 + (-1)) (x5 + 1) q  h hq
        · rw [if_pos c4] at h
          refine r_iconst (pc := 47) C (v := 1) dX0_freeWorker_47 (by decide) ?_
          refine r_iload (pc := 48) C (i := 5) dX0_freeWorker_48 rfl ?_
          refine r_ishl (pc := 50) C dX0_freeWorker_50 ?_
          cases h
          exact r_ireti (pc := 51) C hq (Nat.zero_le _) (Nat.zero_le _) dX0_freeWorker_51
def M_X0_freeWorker_0 (k : Nat) (S : Nat → Nat → Int32) (p0 : Int32) (p1 : Int32) : Option (Int32) := (M_J6_bitCount_0f7a4 k p0).bind fun q5 => lt ((S 0 0) - q5) fun v6 => if 0 < v6 then ((if v6 = 0 then none else lt (p1 - p1 / v6 * v6) fun v9 => M_X0_freeWorker_24 k S k p0 v9 (0 : Int32))) else (some (0 : Int32))
set_option maxRecDepth 100000 in
set_option maxHeartbeats 4000000 in
theorem N_X0_freeWorker_0 (C : CX E p l s m args meth c cX0_freeWorker 6 RX0 (some .int) A) (a : Nat → Nat) (k : Nat) (S : Nat → Nat → Int32) {post : Int32 → va_W → Prop} :
    ∀ (p0 : Int32) (p1 : Int32) (q : Int32), M_X0_freeWorker_0 k S p0 p1 = some q → post q (wFl E a S) →
      WW E p l e rm_X0_freeWorker s m args below meth c A 0 0 (QI E below post args s rm_X0_freeWorker A) (wFl E a S) 6 [some (.ref (a 0)), some (.int p0), some (.int p1), none, none, none] 0 [] := by
  intro p0 p1 q  h hq
  unfold M_X0_freeWorker_0 at h
  refine r_aload_n (pc := 0) C (i := 0) dX0_freeWorker_0 rfl rfl ?_
  refine r_get (pc := 1) C gwX0 0 rfl rfl 0 (by decide) wm_1_92 rfl dX0_freeWorker_1 ?_
  refine r_iload_n (pc := 4) C (i := 1) dX0_freeWorker_4 rfl rfl ?_
  obtain ⟨q5, hq5, h⟩ := bnd h
  refine r_callSp_CI (pc := 5) C [.int p0] (c_J6_bitCount_0f7a4 E l k p0 hq5) [] rfl (by decide) g_X0_190 hd_J6_bitCount_0f7a4.2 ⟨Nat.le_of_ble_eq_true rfl, Nat.le_of_ble_eq_true rfl⟩ ⟨Nat.zero_le _, Nat.zero_le _⟩ (Nat.le_of_ble_eq_true rfl) rfl dX0_freeWorker_5 (fun r hr => ?_)
  have hr := hr.symm
  subst hr
  refine r_isub (pc := 8) C dX0_freeWorker_8 ?_
  obtain ⟨v6, hv6, h⟩ := lt_e h
  refine r_topi hv6 ?_
  refine r_istore_n (pc := 9) C (i := 3) dX0_freeWorker_9 rfl (by decide) rfl ?_
  refine r_iload_n (pc := 10) C (i := 3) dX0_freeWorker_10 rfl rfl ?_
  refine r_if_gt (pc := 11) C (tgt := 16) dX0_freeWorker_11 rfl (fun c7 => ?_) (fun c7 => ?_)
  · rw [if_pos c7] at h
    refine r_iload_n (pc := 16) C (i := 2) dX0_freeWorker_16 rfl rfl ?_
    refine r_iload_n (pc := 17) C (i := 3) dX0_freeWorker_17 rfl rfl ?_
    obtain ⟨hz8, h⟩ := ifz h
    refine r_irem (pc := 18) C dX0_freeWorker_18 hz8 ?_
    obtain ⟨v9, hv9, h⟩ := lt_e h
    refine r_topi hv9 ?_
    refine r_istore (pc := 19) C (i := 4) dX0_freeWorker_19 (by decide) rfl ?_
    refine r_iconst (pc := 21) C (v := 0) dX0_freeWorker_21 (by decide) ?_
    refine r_istore (pc := 22) C (i := 5) dX0_freeWorker_22 (by decide) rfl ?_
    refine r_weak (lSub_s (lSub_s (lSub_n (lSub_n (lSub_s (lSub_s lSub_e)))))) ?_
    exact N_X0_freeWorker_24 C a k S k p0 v9 (0 : Int32) q  h hq
  · rw [if_neg c7] at h
    refine r_iconst (pc := 14) C (v := 0) dX0_freeWorker_14 (by decide) ?_
    cases h
    exact r_ireti (pc := 15) C hq (Nat.zero_le _) (Nat.zero_le _) dX0_freeWorker_15
def M_X0_freeWorker (k : Nat) (S : Nat → Nat → Int32) (p0 : Int32) (p1 : Int32) : Option (Int32) := M_X0_freeWorker_0 k S p0 p1
set_option maxRecDepth 100000 in
set_option maxHeartbeats 4000000 in
theorem c_X0_freeWorker (E : ENV) (l : Launch) (k : Nat) (a : Nat → Nat) (S : Nat → Nat → Int32) (p0 : Int32) (p1 : Int32) {q : Int32} (hm : M_X0_freeWorker k S p0 p1 = some q) : CI E l yX0_freeWorker cX0_freeWorker 6 (some .int) rm_X0_freeWorker [.ref (a 0), .int p0, .int p1] (wFl E a S) (fun r w' => r = q ∧ w' = (wFl E a S)) :=
  CI.of 3 (by decide) (Nat.le_of_ble_eq_true rfl) (fun p e s m below meth c A C _ => r_weak (lSub_s (lSub_s (lSub_s (lSub_n (lSub_n (lSub_n lSub_e)))))) (N_X0_freeWorker_0 C a k S p0 p1 q  hm ⟨rfl, rfl⟩))
theorem hd_X0_finish : yX0_finish.cls = RX0 ∧ yX0_finish.cls ≠ "java/lang/invoke/MethodHandle" ∧ yX0_finish.cls ≠ "java/lang/invoke/VarHandle" ∧ (parseMethodDescriptor yX0_finish.desc).map (fun d => d.parameters.length) = some 2 := by decide +kernel
theorem g_X0_165 : GoodIn GW (wsV RX0 165 RX0 yX0_finish (wsG yX0_finish cX0_finish 3 (some .boolean))) := gw_V wm_4_181 wm_4_183 wm_0_13 wm_1_2 wm_4_184
theorem g_X0_162 : GoodIn GW (wsV RX0 162 RX6 yX6_add (wsG yX6_add cX6_add 4 none)) := gw_V wm_4_175 wm_4_176 wm_4_177 wm_1_4 wm_4_178
-- ShardGuard$Fleet.work()I
theorem dX0_work_0 : decode cX0_work 0 = .ok (.aload_n 0, 1) := by decide +kernel
theorem dX0_work_1 : decode cX0_work 1 = .ok (.getfield 62, 3) := by decide +kernel
theorem dX0_work_4 : decode cX0_work 4 = .ok (.istore_n 1, 1) := by decide +kernel
theorem dX0_work_5 : decode cX0_work 5 = .ok (.iconst 0, 1) := by decide +kernel
theorem dX0_work_6 : decode cX0_work 6 = .ok (.istore_n 2, 1) := by decide +kernel
theorem dX0_work_7 : decode cX0_work 7 = .ok (.iconst 0, 1) := by decide +kernel
theorem dX0_work_8 : decode cX0_work 8 = .ok (.istore_n 3, 1) := by decide +kernel
theorem dX0_work_9 : decode cX0_work 9 = .ok (.aload_n 0, 1) := by decide +kernel
theorem dX0_work_10 : decode cX0_work 10 = .ok (.getfield 78, 3) := by decide +kernel
theorem dX0_work_13 : decode cX0_work 13 = .ok (.istore 4, 2) := by decide +kernel
theorem dX0_work_15 : decode cX0_work 15 = .ok (.iload 4, 2) := by decide +kernel
theorem dX0_work_17 : decode cX0_work 17 = .ok (.ifCond .le 117, 3) := by decide +kernel
theorem dX0_work_20 : decode cX0_work 20 = .ok (.aload_n 0, 1) := by decide +kernel
theorem dX0_work_21 : decode cX0_work 21 = .ok (.getfield 42, 3) := by decide +kernel
theorem dX0_work_24 : decode cX0_work 24 = .ok (.iload_n 3, 1) := by decide +kernel
theorem dX0_work_25 : decode cX0_work 25 = .ok (.invokevirtual 122, 3) := by decide +kernel
theorem dX0_work_28 : decode cX0_work 28 = .ok (.istore 5, 2) := by decide +kernel
theorem dX0_work_30 : decode cX0_work 30 = .ok (.aload_n 0, 1) := by decide +kernel
theorem dX0_work_31 : decode cX0_work 31 = .ok (.getfield 32, 3) := by decide +kernel
theorem dX0_work_34 : decode cX0_work 34 = .ok (.iload 5, 2) := by decide +kernel
theorem dX0_work_36 : decode cX0_work 36 = .ok (.bipush 6, 2) := by decide +kernel
theorem dX0_work_38 : decode cX0_work 38 = .ok (.invokevirtual 111, 3) := by decide +kernel
theorem dX0_work_41 : decode cX0_work 41 = .ok (.istore 6, 2) := by decide +kernel
theorem dX0_work_43 : decode cX0_work 43 = .ok (.iload 6, 2) := by decide +kernel
theorem dX0_work_45 : decode cX0_work 45 = .ok (.iconst (-1), 1) := by decide +kernel
theorem dX0_work_46 : decode cX0_work 46 = .ok (.if_icmp .eq 16, 3) := by decide +kernel
theorem dX0_work_49 : decode cX0_work 49 = .ok (.iload_n 2, 1) := by decide +kernel
theorem dX0_work_50 : decode cX0_work 50 = .ok (.iload 6, 2) := by decide +kernel
theorem dX0_work_52 : decode cX0_work 52 = .ok (.invokestatic 107, 3) := by decide +kernel
theorem dX0_work_55 : decode cX0_work 55 = .ok (.ifCond .ne 7, 3) := by decide +kernel
theorem dX0_work_58 : decode cX0_work 58 = .ok (.iconst 1, 1) := by decide +kernel
theorem dX0_work_59 : decode cX0_work 59 = .ok (.goto 4, 3) := by decide +kernel
theorem dX0_work_62 : decode cX0_work 62 = .ok (.iconst 0, 1) := by decide +kernel
theorem dX0_work_63 : decode cX0_work 63 = .ok (.istore 7, 2) := by decide +kernel
theorem dX0_work_65 : decode cX0_work 65 = .ok (.iload 7, 2) := by decide +kernel
theorem dX0_work_67 : decode cX0_work 67 = .ok (.ifCond .eq 21, 3) := by decide +kernel
theorem dX0_work_70 : decode cX0_work 70 = .ok (.iload_n 2, 1) := by decide +kernel
theorem dX0_work_71 : decode cX0_work 71 = .ok (.iconst 1, 1) := by decide +kernel
theorem dX0_work_72 : decode cX0_work 72 = .ok (.iload 6, 2) := by decide +kernel
theorem dX0_work_74 : decode cX0_work 74 = .ok (.ishl, 1) := by decide +kernel
theorem dX0_work_75 : decode cX0_work 75 = .ok (.ior, 1) := by decide +kernel
theorem dX0_work_76 : decode cX0_work 76 = .ok (.istore_n 2, 1) := by decide +kernel
theorem dX0_work_77 : decode cX0_work 77 = .ok (.aload_n 0, 1) := by decide +kernel
theorem dX0_work_78 : decode cX0_work 78 = .ok (.getfield 32, 3) := by decide +kernel
theorem dX0_work_81 : decode cX0_work 81 = .ok (.iload 5, 2) := by decide +kernel
theorem dX0_work_83 : decode cX0_work 83 = .ok (.iconst 2, 1) := by decide +kernel
theorem dX0_work_84 : decode cX0_work 84 = .ok (.iconst (-1), 1) := by decide +kernel
theorem dX0_work_85 : decode cX0_work 85 = .ok (.invokevirtual 162, 3) := by decide +kernel
theorem dX0_work_88 : decode cX0_work 88 = .ok (.iload 7, 2) := by decide +kernel
theorem dX0_work_90 : decode cX0_work 90 = .ok (.ifCond .eq 35, 3) := by decide +kernel
theorem dX0_work_93 : decode cX0_work 93 = .ok (.aload_n 0, 1) := by decide +kernel
theorem dX0_work_94 : decode cX0_work 94 = .ok (.getfield 32, 3) := by decide +kernel
theorem dX0_work_97 : decode cX0_work 97 = .ok (.iload 5, 2) := by decide +kernel
theorem dX0_work_99 : decode cX0_work 99 = .ok (.iconst 2, 1) := by decide +kernel
theorem dX0_work_100 : decode cX0_work 100 = .ok (.invokevirtual 111, 3) := by decide +kernel
theorem dX0_work_103 : decode cX0_work 103 = .ok (.ifCond .gt 22, 3) := by decide +kernel
theorem dX0_work_106 : decode cX0_work 106 = .ok (.aload_n 0, 1) := by decide +kernel
theorem dX0_work_107 : decode cX0_work 107 = .ok (.iload 5, 2) := by decide +kernel
theorem dX0_work_109 : decode cX0_work 109 = .ok (.iload 6, 2) := by decide +kernel
theorem dX0_work_111 : decode cX0_work 111 = .ok (.invokevirtual 165, 3) := by decide +kernel
theorem dX0_work_114 : decode cX0_work 114 = .ok (.ifCond .eq 11, 3) := by decide +kernel
theorem dX0_work_117 : decode cX0_work 117 = .ok (.aload_n 0, 1) := by decide +kernel
theorem dX0_work_118 : decode cX0_work 118 = .ok (.iload_n 3, 1) := by decide +kernel
theorem dX0_work_119 : decode cX0_work 119 = .ok (.invokevirtual 156, 3) := by decide +kernel
theorem dX0_work_122 : decode cX0_work 122 = .ok (.goto 6, 3) := by decide +kernel
theorem dX0_work_125 : decode cX0_work 125 = .ok (.iinc 3 1, 3) := by decide +kernel
theorem dX0_work_128 : decode cX0_work 128 = .ok (.iinc 4 (-1), 3) := by decide +kernel
theorem dX0_work_131 : decode cX0_work 131 = .ok (.goto (-116), 3) := by decide +kernel
theorem dX0_work_134 : decode cX0_work 134 = .ok (.iload_n 1, 1) := by decide +kernel
theorem dX0_work_135 : decode cX0_work 135 = .ok (.aload_n 0, 1) := by decide +kernel
theorem dX0_work_136 : decode cX0_work 136 = .ok (.getfield 62, 3) := by decide +kernel
theorem dX0_work_139 : decode cX0_work 139 = .ok (.iconst (-1), 1) := by decide +kernel
theorem dX0_work_140 : decode cX0_work 140 = .ok (.ixor, 1) := by decide +kernel
theorem dX0_work_141 : decode cX0_work 141 = .ok (.iand, 1) := by decide +kernel
theorem dX0_work_142 : decode cX0_work 142 = .ok (.ireturn, 1) := by decide +kernel
def rm_X0_work : Room := { frames := 4, cells := 0, slots := 0, locals := 122 }
def M_X0_work_88 (k : Nat) (κ15 : Int32 → Int32 → Int32 → Int32 → (Nat → Nat → Int32) → Option (Int32 × (Nat → Nat → Int32))) (x1 : Int32) (x2 : Int32) (x3 : Int32) (x4 : Int32) (x5 : Int32) (x6 : Int32) (x7 : Int32) (S : Nat → Nat → Int32) : Option (Int32 × (Nat → Nat → Int32)) := if x7 = 0 then (κ15 x1 x2 (x3 + 1) (x4 + (-1)) S) else ((M_X6_at k 60 8 480 (S 4) x5 (2 : Int32)).bind fun q2 => if 0 < q2 then (κ15 x1 x2 (x3 + 1) (x4 + (-1)) S) else ((M_X0_finish k S x5 x6).bind fun q4 => if q4.1 = 0 then (κ15 x1 x2 (x3 + 1) (x4 + (-1)) q4.2) else ((M_X0_leaveLine k q4.2 x3).bind fun q6 => κ15 x1 x2 x3 (x4 + (-1)) q6)))
set_option maxRecDepth 100000 in
set_option maxHeartbeats 4000000 in
theorem N_X0_work_88 (C : CX E p l s m args meth c cX0_work 8 RX0 (some .int) A) (a : Nat → Nat) (k : Nat) {post : Int32 → va_W → Prop} (κ15 : Int32 → Int32 → Int32 → Int32 → (Nat → Nat → Int32) → Option (Int32 × (Nat → Nat → Int32))) (hκ15 : ∀ (x1 : Int32) (x2 : Int32) (x3 : Int32) (x4 : Int32) (S : Nat → Nat → Int32) (q : Int32 × (Nat → Nat → Int32)), κ15 x1 x2 x3 x4 S = some q → post q.1 (wFl E a q.2) → WW E p l e rm_X0_work s m args below meth c A 0 0 (QI E below post args s rm_X0_work A) (wFl E a S) 8 [some (.ref (a 0)), some (.int x1), some (.int x2), some (.int x3), some (.int x4), none, none, none] 15 []) :
    ∀ (x1 : Int32) (x2 : Int32) (x3 : Int32) (x4 : Int32) (x5 : Int32) (x6 : Int32) (x7 : Int32) (S : Nat → Nat → Int32) (q : Int32 × (Nat → Nat → Int32)), M_X0_work_88 k κ15 x1 x2 x3 x4 x5 x6 x7 S = some q → post q.1 (wFl E a q.2) →
      WW E p l e rm_X0_work s m args below meth c A 0 0 (QI E below post args s rm_X0_work A) (wFl E a S) 8 [some (.ref (a 0)), some (.int x1), some (.int x2), some (.int x3), some (.int x4), some (.int x5), some (.int x6), some (.int x7)] 88 [] := by
  intro x1 x2 x3 x4 x5 x6 x7 S q  h hq
  unfold M_X0_work_88 at h
  refine r_iload (pc := 88) C (i := 7) dX0_work_88 rfl ?_
  refine r_if_eq (pc := 90) C (tgt := 125) dX0_work_90 rfl (fun c1 => ?_) (fun c1 => ?_)
  · rw [if_pos c1] at h
    refine r_iinc (pc := 125) C (v := (x3 + 1)) dX0_work_125 rfl rfl (by decide) rfl ?_
    refine r_iinc (pc := 128) C (v := (x4 + (-1))) dX0_work_128 rfl rfl (by decide) rfl ?_
    refine r_goto (pc := 131) C (tgt := 15) dX0_work_131 rfl ?_
    refine r_weak (lSub_s (lSub_s (lSub_s (lSub_s (lSub_s (lSub_n (lSub_n (lSub_n lSub_e)))))))) ?_
    exact hκ15 x1 x2 (x3 + 1) (x4 + (-1)) S q  h hq
  · rw [if_neg c1] at h
    refine r_aload_n (pc := 93) C (i := 0) dX0_work_93 rfl rfl ?_
    refine r_get (pc := 94) C gwX0 0 rfl rfl 9 (by decide) wm_1_115 rfl dX0_work_94 ?_
    refine r_iload (pc := 97) C (i := 5) dX0_work_97 rfl ?_
    refine r_iconst (pc := 99) C (v := 2) dX0_work_99 (by decide) ?_
    obtain ⟨q2, hq2, h⟩ := bnd h
    refine r_callVp_CI (Cn := RX6) (pc := 100) C [.int x5, .int (2 : Int32)] (c_X6_at E l k (fun i => a (i + 7)) 60 8 480 (S 4) x5 (2 : Int32) hq2) [7, 8] (hp_X0_addRequest_0 E a S) (by decide) 0 rfl rfl rfl g_X0_111 hd_X6_at ⟨Nat.le_of_ble_eq_true rfl, Nat.le_of_ble_eq_true rfl⟩ ⟨Nat.zero_le _, Nat.zero_le _⟩ (Nat.le_of_ble_eq_true rfl) rfl dX0_work_100 (fun r hr => ?_)
    have hr := hr.symm
    subst hr
    refine r_if_gt (pc := 103) C (tgt := 125) dX0_work_103 rfl (fun c3 => ?_) (fun c3 => ?_)
    · rw [if_pos c3] at h
      refine r_iinc (pc := 125) C (v := (x3 + 1)) dX0_work_125 rfl rfl (by decide) rfl ?_
      refine r_iinc (pc := 128) C (v := (x4 + (-1))) dX0_work_128 rfl rfl (by decide) rfl ?_
      refine r_goto (pc := 131) C (tgt := 15) dX0_work_131 rfl ?_
      refine r_weak (lSub_s (lSub_s (lSub_s (lSub_s (lSub_s (lSub_n (lSub_n (lSub_n lSub_e)))))))) ?_
      exact hκ15 x1 x2 (x3 + 1) (x4 + (-1)) S q  h hq
    · rw [if_neg c3] at h
      refine r_aload_n (pc := 106) C (i := 0) dX0_work_106 rfl rfl ?_
      refine r_iload (pc := 107) C (i := 5) dX0_work_107 rfl ?_
      refine r_iload (pc := 109) C (i := 6) dX0_work_109 rfl ?_
      obtain ⟨q4, hq4, h⟩ := bnd h
      refine r_callV_CI (Cn := RX0) (pc := 111) C [.int x5, .int x6] (c_X0_finish E l k a S x5 x6 hq4) [0, 1, 2, 3, 4, 5, 6, 7, 8, 9, 10, 11, 12, 13, 14, 15, 16, 17] (hp_X0_isCutOff_0 E a S) (by decide) 0 rfl rfl rfl g_X0_165 hd_X0_finish ⟨Nat.le_of_ble_eq_true rfl, Nat.le_of_ble_eq_true rfl⟩ ⟨Nat.zero_le _, Nat.zero_le _⟩ (Nat.le_of_ble_eq_true rfl) rfl dX0_work_111 (fun r w1 hw1 => ?_)
      obtain ⟨hr1, hw1⟩ := hw1
      subst hr1 hw1
      refine ⟨(wFl E a q4.2), by exact (pw_X0_finish_0 E a S q4.2), ?_⟩
      refine r_if_eq (pc := 114) C (tgt := 125) dX0_work_114 rfl (fun c5 => ?_) (fun c5 => ?_)
      · rw [if_pos c5] at h
        refine r_iinc (pc := 125) C (v := (x3 + 1)) dX0_work_125 rfl rfl (by decide) rfl ?_
        refine r_iinc (pc := 128) C (v := (x4 + (-1))) dX0_work_128 rfl rfl (by decide) rfl ?_
        refine r_goto (pc := 131) C (tgt := 15) dX0_work_131 rfl ?_
        refine r_weak (lSub_s (lSub_s (lSub_s (lSub_s (lSub_s (lSub_n (lSub_n (lSub_n lSub_e)))))))) ?_
        exact hκ15 x1 x2 (x3 + 1) (x4 + (-1)) q4.2 q  h hq
      · rw [if_neg c5] at h
        refine r_aload_n (pc := 117) C (i := 0) dX0_work_117 rfl rfl ?_
        refine r_iload_n (pc := 118) C (i := 3) dX0_work_118 rfl rfl ?_
        obtain ⟨q6, hq6, h⟩ := bnd h
        refine r_callV_CV (Cn := RX0) (pc := 119) C [.int x3] (c_X0_leaveLine E l k a q4.2 x3 hq6) [0, 1, 2, 3, 4, 5, 6, 7, 8, 9, 10, 11, 12, 13, 14, 15, 16, 17] (hp_X0_isCutOff_0 E a q4.2) (by decide) 0 rfl rfl rfl g_X0_156 hd_X0_leaveLine ⟨Nat.le_of_ble_eq_true rfl, Nat.le_of_ble_eq_true rfl⟩ ⟨Nat.zero_le _, Nat.zero_le _⟩ (Nat.le_of_ble_eq_true rfl) rfl dX0_work_119 (fun w1 hw1 => ?_)
        subst hw1
        refine ⟨(wFl E a q6), by exact (pw_X0_finish_0 E a q4.2 q6), ?_⟩
        refine r_goto (pc := 122) C (tgt := 128) dX0_work_122 rfl ?_
        refine r_iinc (pc := 128) C (v := (x4 + (-1))) dX0_work_128 rfl rfl (by decide) rfl ?_
        refine r_goto (pc := 131) C (tgt := 15) dX0_work_131 rfl ?_
        refine r_weak (lSub_s (lSub_s (lSub_s (lSub_s (lSub_s (lSub_n (lSub_n (lSub_n lSub_e)))))))) ?_
        exact hκ15 x1 x2 x3 (x4 + (-1)) q6 q  h hq
def M_X0_work_63 (k : Nat) (κ15 : Int32 → Int32 → Int32 → Int32 → (Nat → Nat → Int32) → Option (Int32 × (Nat → Nat → Int32))) (x1 : Int32) (x2 : Int32) (x3 : Int32) (x4 : Int32) (x5 : Int32) (x6 : Int32) (y0 : Int32) (S : Nat → Nat → Int32) : Option (Int32 × (Nat → Nat → Int32)) := if y0 = 0 then (M_X0_work_88 k κ15 x1 x2 x3 x4 x5 x6 y0 S) else (lt (x2 ||| ((1 : Int32) <<< (x6 &&& 31))) fun v8 => (M_X6_add k 60 8 480 (S 4) x5 (2 : Int32) (-1 : Int32)).bind fun q9 => lt (va_up S 4 q9) fun F10 => M_X0_work_88 k κ15 x1 v8 x3 x4 x5 x6 y0 F10)
set_option maxRecDepth 100000 in
set_option maxHeartbeats 4000000 in
theorem N_X0_work_63 (C : CX E p l s m args meth c cX0_work 8 RX0 (some .int) A) (a : Nat → Nat) (k : Nat) {post : Int32 → va_W → Prop} (κ15 : Int32 → Int32 → Int32 → Int32 → (Nat → Nat → Int32) → Option (Int32 × (Nat → Nat → Int32))) (hκ15 : ∀ (x1 : Int32) (x2 : Int32) (x3 : Int32) (x4 : Int32) (S : Nat → Nat → Int32) (q : Int32 × (Nat → Nat → Int32)), κ15 x1 x2 x3 x4 S = some q → post q.1 (wFl E a q.2) → WW E p l e rm_X0_work s m args below meth c A 0 0 (QI E below post args s rm_X0_work A) (wFl E a S) 8 [some (.ref (a 0)), some (.int x1), some (.int x2), some (.int x3), some (.int x4), none, none, none] 15 []) :
    ∀ (x1 : Int32) (x2 : Int32) (x3 : Int32) (x4 : Int32) (x5 : Int32) (x6 : Int32) (y0 : Int32) (S : Nat → Nat → Int32) (q : Int32 × (Nat → Nat → Int32)), M_X0_work_63 k κ15 x1 x2 x3 x4 x5 x6 y0 S = some q → post q.1 (wFl E a q.2) →
      WW E p l e rm_X0_work s m args below meth c A 0 0 (QI E below post args s rm_X0_work A) (wFl E a S) 8 [some (.ref (a 0)), some (.int x1), some (.int x2), some (.int x3), some (.int x4), some (.int x5), some (.int x6), none] 63 [.int y0] := by
  intro x1 x2 x3 x4 x5 x6 y0 S q  h hq
  unfold M_X0_work_63 at h
  refine r_istore (pc := 63) C (i := 7) dX0_work_63 (by decide) rfl ?_
  refine r_iload (pc := 65) C (i := 7) dX0_work_65 rfl ?_
  refine r_if_eq (pc := 67) C (tgt := 88) dX0_work_67 rfl (fun c7 => ?_) (fun c7 => ?_)
  · rw [if_pos c7] at h
    refine r_weak (lSub_s (lSub_s (lSub_s (lSub_s (lSub_s (lSub_s (lSub_s (lSub_s lSub_e)))))))) ?_
    exact N_X0_work_88 C a k κ15 hκ15 x1 x2 x3 x4 x5 x6 y0 S q  h hq
  · rw [if_neg c7] at h
    refine r_iload_n (pc := 70) C (i := 2) dX0_work_70 rfl rfl ?_
    refine r_iconst (pc := 71) C (v := 1) dX0_work_71 (by decide) ?_
    refine r_iload (pc := 72) C (i := 6) dX0_work_72 rfl ?_
    refine r_ishl (pc := 74) C dX0_work_74 ?_
    refine r_ior (pc := 75) C dX0_work_75 ?_
    obtain ⟨v8, hv8, h⟩ := lt_e h
    refine r_topi hv8 ?_
    refine r_istore_n (pc := 76) C (i := 2) dX0_work_76 rfl (by decide) rfl ?_
    refine r_aload_n (pc := 77) C (i := 0) dX0_work_77 rfl rfl ?_
    refine r_get (pc := 78) C gwX0 0 rfl rfl 9 (by decide) wm_1_115 rfl dX0_work_78 ?_
    refine r_iload (pc := 81) C (i := 5) dX0_work_81 rfl ?_
    refine r_iconst (pc := 83) C (v := 2) dX0_work_83 (by decide) ?_
    refine r_iconst (pc := 84) C (v := (-1)) dX0_work_84 (by decide) ?_
    obtain ⟨q9, hq9, h⟩ := bnd h
    obtain ⟨F10, hF10, h⟩ := lt_e h
    refine r_callV_CV (Cn := RX6) (pc := 85) C [.int x5, .int (2 : Int32), .int (-1 : Int32)] (c_X6_add E l k (fun i => a (i + 7)) 60 8 480 (S 4) x5 (2 : Int32) (-1 : Int32) hq9) [7, 8] (hp_X0_addRequest_0 E a S) (by decide) 0 rfl rfl rfl g_X0_162 hd_X6_add ⟨Nat.le_of_ble_eq_true rfl, Nat.le_of_ble_eq_true rfl⟩ ⟨Nat.zero_le _, Nat.zero_le _⟩ (Nat.le_of_ble_eq_true rfl) rfl dX0_work_85 (fun w1 hw1 => ?_)
    subst hw1
    refine ⟨(wFl E a F10), by rw [hF10]; exact (pw_X0_addRequest_0 E a S q9), ?_⟩
    refine r_weak (lSub_s (lSub_s (lSub_s (lSub_s (lSub_s (lSub_s (lSub_s (lSub_s lSub_e)))))))) ?_
    exact N_X0_work_88 C a k κ15 hκ15 x1 v8 x3 x4 x5 x6 y0 F10 q  h hq
def M_X0_work_15 (k : Nat) : Nat → (Int32) → (Int32) → (Int32) → (Int32) → (Nat → Nat → Int32) → Option (Int32 × (Nat → Nat → Int32))
  | 0, _, _, _, _, _ => none
  | n + 1, x1, x2, x3, x4, S => if x4 ≤ 0 then (some ((x1 &&& ((S 0 5) ^^^ (-1 : Int32))), S)) else ((M_X5_at k 60 (S 5) x3).bind fun q12 => (M_X6_at k 60 8 480 (S 4) q12 (6 : Int32)).bind fun q13 => if q13 = (-1 : Int32) then (M_X0_work_63 k (M_X0_work_15 k n) x1 x2 x3 x4 q12 q13 (0 : Int32) S) else ((M_X0_has k x2 q13).bind fun q15 => if q15 = 0 then (M_X0_work_63 k (M_X0_work_15 k n) x1 x2 x3 x4 q12 q13 (1 : Int32) S) else (M_X0_work_63 k (M_X0_work_15 k n) x1 x2 x3 x4 q12 q13 (0 : Int32) S)))
theorem M_X0_work_15_s (k : Nat) (n : Nat) (x1 : Int32) (x2 : Int32) (x3 : Int32) (x4 : Int32) (S : Nat → Nat → Int32) : M_X0_work_15 k (n + 1) x1 x2 x3 x4 S = (if x4 ≤ 0 then (some ((x1 &&& ((S 0 5) ^^^ (-1 : Int32))), S)) else ((M_X5_at k 60 (S 5) x3).bind fun q12 => (M_X6_at k 60 8 480 (S 4) q12 (6 : Int32)).bind fun q13 => if q13 = (-1 : Int32) then (M_X0_work_63 k (M_X0_work_15 k n) x1 x2 x3 x4 q12 q13 (0 : Int32) S) else ((M_X0_has k x2 q13).bind fun q15 => if q15 = 0 then (M_X0_work_63 k (M_X0_work_15 k n) x1 x2 x3 x4 q12 q13 (1 : Int32) S) else (M_X0_work_63 k (M_X0_work_15 k n) x1 x2 x3 x4 q12 q13 (0 : Int32) S)))) := rfl
set_option maxRecDepth 100000 in
set_option maxHeartbeats 4000000 in
theorem N_X0_work_15 (C : CX E p l s m args meth c cX0_work 8 RX0 (some .int) A) (a : Nat → Nat) (k : Nat) {post : Int32 → va_W → Prop} :
    ∀ (n : Nat) (x1 : Int32) (x2 : Int32) (x3 : Int32) (x4 : Int32) (S : Nat → Nat → Int32) (q : Int32 × (Nat → Nat → Int32)), M_X0_work_15 k n x1 x2 x3 x4 S = some q → post q.1 (wFl E a q.2) →
      WW E p l e rm_X0_work s m args below meth c A 0 0 (QI E below post args s rm_X0_work A) (wFl E a S) 8 [some (.ref (a 0)), some (.int x1), some (.int x2), some (.int x3), some (.int x4), none, none, none] 15 [] := by
  intro n
  induction n with
  | zero => intro x1 x2 x3 x4 S q  h _; cases h
  | succ n ih =>
    intro x1 x2 x3 x4 S q  h hq
    rw [M_X0_work_15_s] at h
    refine r_iload (pc := 15) C (i := 4) dX0_work_15 rfl ?_
    refine r_if_le (pc := 17) C (tgt := 134) dX0_work_17 rfl (fun c11 => ?_) (fun c11 => ?_)
    · rw [if_pos c11] at h
      refine r_iload_n (pc := 134) C (i := 1) dX0_work_134 rfl rfl ?_
      refine r_aload_n (pc := 135) C (i := 0) dX0_work_135 rfl rfl ?_
      refine r_get (pc := 136) C gwX0 0 rfl rfl 5 (by decide) wm_1_106 rfl dX0_work_136 ?_
      refine r_iconst (pc := 139) C (v := (-1)) dX0_work_139 (by decide) ?_
      refine r_ixor (pc := 140) C dX0_work_140 ?_
      refine r_iand (pc := 141) C dX0_work_141 ?_
      have h := Option.some.inj h
      subst h
      exact r_ireti (pc := 142) C hq (Nat.zero_le _) (Nat.zero_le _) dX0_work_142
    · rw [if_neg c11] at h
      refine r_aload_n (pc := 20) C (i := 0) dX0_work_20 rfl rfl ?_
      refine r_get (pc := 21) C gwX0 0 rfl rfl 11 (by decide) wm_1_121 rfl dX0_work_21 ?_
      refine r_iload_n (pc := 24) C (i := 3) dX0_work_24 rfl rfl ?_
      obtain ⟨q12, hq12, h⟩ := bnd h
      refine r_callVp_CI (Cn := RX5) (pc := 25) C [.int x3] (c_X5_at E l k (fun i => a (i + 16)) 60 (S 5) x3 hq12) [16, 17] (hp_X0_queueLength_0 E a S) (by decide) 0 rfl rfl rfl g_X0_122 hd_X5_at ⟨Nat.le_of_ble_eq_true rfl, Nat.le_of_ble_eq_true rfl⟩ ⟨Nat.zero_le _, Nat.zero_le _⟩ (Nat.le_of_ble_eq_true rfl) rfl dX0_work_25 (fun r hr => ?_)
      have hr := hr.symm
      subst hr
      refine r_istore (pc := 28) C (i := 5) dX0_work_28 (by decide) rfl ?_
      refine r_aload_n (pc := 30) C (i := 0) dX0_work_30 rfl rfl ?_
      refine r_get (pc := 31) C gwX0 0 rfl rfl 9 (by decide) wm_1_115 rfl dX0_work_31 ?_
      refine r_iload (pc := 34) C (i := 5) dX0_work_34 rfl ?_
      refine r_bipush (pc := 36) C (v := 6) dX0_work_36 (by decide) ?_
      obtain ⟨q13, hq13, h⟩ := bnd h
      refine r_callVp_CI (Cn := RX6) (pc := 38) C [.int q12, .int (6 : Int32)] (c_X6_at E l k (fun i => a (i + 7)) 60 8 480 (S 4) q12 (6 : Int32) hq13) [7, 8] (hp_X0_addRequest_0 E a S) (by decide) 0 rfl rfl rfl g_X0_111 hd_X6_at ⟨Nat.le_of_ble_eq_true rfl, Nat.le_of_ble_eq_true rfl⟩ ⟨Nat.zero_le _, Nat.zero_le _⟩ (Nat.le_of_ble_eq_true rfl) rfl dX0_work_38 (fun r hr => ?_)
      have hr := hr.symm
      subst hr
      refine r_istore (pc := 41) C (i := 6) dX0_work_41 (by decide) rfl ?_
      refine r_iload (pc := 43) C (i := 6) dX0_work_43 rfl ?_
      refine r_iconst (pc := 45) C (v := (-1)) dX0_work_45 (by decide) ?_
      refine r_icmp_eq (pc := 46) C (tgt := 62) dX0_work_46 rfl (fun c14 => ?_) (fun c14 => ?_)
      · rw [if_pos c14] at h
        refine r_iconst (pc := 62) C (v := 0) dX0_work_62 (by decide) ?_
        refine r_weak (lSub_s (lSub_s (lSub_s (lSub_s (lSub_s (lSub_s (lSub_s (lSub_n lSub_e)))))))) ?_
        exact N_X0_work_63 C a k (M_X0_work_15 k n) ih x1 x2 x3 x4 q12 q13 (0 : Int32) S q  h hq
      · rw [if_neg c14] at h
        refine r_iload_n (pc := 49) C (i := 2) dX0_work_49 rfl rfl ?_
        refine r_iload (pc := 50) C (i := 6) dX0_work_50 rfl ?_
        obtain ⟨q15, hq15, h⟩ := bnd h
        refine r_callSp_CI (pc := 52) C [.int x2, .int q13] (c_X0_has E l k x2 q13 hq15) [] rfl (by decide) g_X0_107 hd_X0_has.2 ⟨Nat.le_of_ble_eq_true rfl, Nat.le_of_ble_eq_true rfl⟩ ⟨Nat.zero_le _, Nat.zero_le _⟩ (Nat.le_of_ble_eq_true rfl) rfl dX0_work_52 (fun r hr => ?_)
        have hr := hr.symm
        subst hr
        refine r_if_ne (pc := 55) C (tgt := 62) dX0_work_55 rfl (fun c16 => ?_) (fun c16 => ?_)
        · rw [if_neg c16] at h
          refine r_iconst (pc := 62) C (v := 0) dX0_work_62 (by decide) ?_
          refine r_weak (lSub_s (lSub_s (lSub_s (lSub_s (lSub_s (lSub_s (lSub_s (lSub_n lSub_e)))))))) ?_
          exact N_X0_work_63 C a k (M_X0_work_15 k n) ih x1 x2 x3 x4 q12 q13 (0 : Int32) S q  h hq
        · rw [if_pos c16] at h
          refine r_iconst (pc := 58) C (v := 1) dX0_work_58 (by decide) ?_
          refine r_goto (pc := 59) C (tgt := 63) dX0_work_59 rfl ?_
          refine r_weak (lSub_s (lSub_s (lSub_s (lSub_s (lSub_s (lSub_s (lSub_s (lSub_n lSub_e)))))))) ?_
          exact N_X0_work_63 C a k (M_X0_work_15 k n) ih x1 x2 x3 x4 q12 q13 (1 : Int32) S q  h hq
def M_X0_work_0 (k : Nat) (S : Nat → Nat → Int32) : Option (Int32 × (Nat → Nat → Int32)) := lt (S 0 5) fun v17 => lt (S 0 6) fun v18 => M_X0_work_15 k k v17 (0 : Int32) (0 : Int32) v18 S
set_option maxRecDepth 100000 in
set_option maxHeartbeats 4000000 in
theorem N_X0_work_0 (C : CX E p l s m args meth c cX0_work 8 RX0 (some .int) A) (a : Nat → Nat) (k : Nat) {post : Int32 → va_W → Prop} :
    ∀ (S : Nat → Nat → Int32) (q : Int32 × (Nat → Nat → Int32)), M_X0_work_0 k S = some q → post q.1 (wFl E a q.2) →
      WW E p l e rm_X0_work s m args below meth c A 0 0 (QI E below post args s rm_X0_work A) (wFl E a S) 8 [some (.ref (a 0)), none, none, none, none, none, none, none] 0 [] := by
  intro S q  h hq
  unfold M_X0_work_0 at h
  refine r_aload_n (pc := 0) C (i := 0) dX0_work_0 rfl rfl ?_
  refine r_get (pc := 1) C gwX0 0 rfl rfl 5 (by decide) wm_1_106 rfl dX0_work_1 ?_
  obtain ⟨v17, hv17, h⟩ := lt_e h
  refine r_topi hv17 ?_
  refine r_istore_n (pc := 4) C (i := 1) dX0_work_4 rfl (by decide) rfl ?_
  refine r_iconst (pc := 5) C (v := 0) dX0_work_5 (by decide) ?_
  refine r_istore_n (pc := 6) C (i := 2) dX0_work_6 rfl (by decide) rfl ?_
  refine r_iconst (pc := 7) C (v := 0) dX0_work_7 (by decide) ?_
  refine r_istore_n (pc := 8) C (i := 3) dX0_work_8 rfl (by decide) rfl ?_
  refine r_aload_n (pc := 9) C (i := 0) dX0_work_9 rfl rfl ?_
  refine r_get (pc := 10) C gwX0 0 rfl rfl 12 (by decide) wm_1_122 rfl dX0_work_10 ?_
  obtain ⟨v18, hv18, h⟩ := lt_e h
  refine r_topi hv18 ?_
  refine r_istore (pc := 13) C (i := 4) dX0_work_13 (by decide) rfl ?_
  refine r_weak (lSub_s (lSub_s (lSub_s (lSub_s (lSub_s (lSub_n (lSub_n (lSub_n lSub_e)))))))) ?_
  exact N_X0_work_15 C a k k v17 (0 : Int32) (0 : Int32) v18 S q  h hq
def M_X0_work (k : Nat) (S : Nat → Nat → Int32) : Option (Int32 × (Nat → Nat → Int32)) := M_X0_work_0 k S
set_option maxRecDepth 100000 in
set_option maxHeartbeats 4000000 in
theorem c_X0_work (E : ENV) (l : Launch) (k : Nat) (a : Nat → Nat) (S : Nat → Nat → Int32) {q : Int32 × (Nat → Nat → Int32)} (hm : M_X0_work k S = some q) : CI E l yX0_work cX0_work 8 (some .int) rm_X0_work [.ref (a 0)] (wFl E a S) (fun r w' => r = q.1 ∧ w' = (wFl E a q.2)) :=
  CI.of 7 (by decide) (Nat.le_of_ble_eq_true rfl) (fun p e s m below meth c A C _ => r_weak (lSub_s (lSub_n (lSub_n (lSub_n (lSub_n (lSub_n (lSub_n (lSub_n lSub_e)))))))) (N_X0_work_0 C a k S q  hm ⟨rfl, rfl⟩))
end WALKS
