section WALKS
variable {E : ENV} {p : Program} {l : Launch} {e : Env} {s : State} {m : MethodId} {args : Array Value} {below : List Frame} {meth : Method} {c : Code} {A : Nat → Prop}
-- ShardGuard$Fleet.loadOf(I)I
theorem dX0_loadOf_0 : decode cX0_loadOf 0 = .ok (.iconst 0, 1) := by decide +kernel
theorem dX0_loadOf_1 : decode cX0_loadOf 1 = .ok (.istore_n 2, 1) := by decide +kernel
theorem dX0_loadOf_2 : decode cX0_loadOf 2 = .ok (.iconst 0, 1) := by decide +kernel
theorem dX0_loadOf_3 : decode cX0_loadOf 3 = .ok (.istore_n 3, 1) := by decide +kernel
theorem dX0_loadOf_4 : decode cX0_loadOf 4 = .ok (.iload_n 3, 1) := by decide +kernel
theorem dX0_loadOf_5 : decode cX0_loadOf 5 = .ok (.aload_n 0, 1) := by decide +kernel
theorem dX0_loadOf_6 : decode cX0_loadOf 6 = .ok (.getfield 78, 3) := by decide +kernel
theorem dX0_loadOf_9 : decode cX0_loadOf 9 = .ok (.if_icmp .ge 49, 3) := by decide +kernel
theorem dX0_loadOf_12 : decode cX0_loadOf 12 = .ok (.aload_n 0, 1) := by decide +kernel
theorem dX0_loadOf_13 : decode cX0_loadOf 13 = .ok (.getfield 32, 3) := by decide +kernel
theorem dX0_loadOf_16 : decode cX0_loadOf 16 = .ok (.aload_n 0, 1) := by decide +kernel
theorem dX0_loadOf_17 : decode cX0_loadOf 17 = .ok (.getfield 42, 3) := by decide +kernel
theorem dX0_loadOf_20 : decode cX0_loadOf 20 = .ok (.iload_n 3, 1) := by decide +kernel
theorem dX0_loadOf_21 : decode cX0_loadOf 21 = .ok (.invokevirtual 122, 3) := by decide +kernel
theorem dX0_loadOf_24 : decode cX0_loadOf 24 = .ok (.bipush 6, 2) := by decide +kernel
theorem dX0_loadOf_26 : decode cX0_loadOf 26 = .ok (.invokevirtual 111, 3) := by decide +kernel
theorem dX0_loadOf_29 : decode cX0_loadOf 29 = .ok (.iload_n 1, 1) := by decide +kernel
theorem dX0_loadOf_30 : decode cX0_loadOf 30 = .ok (.if_icmp .ne 22, 3) := by decide +kernel
theorem dX0_loadOf_33 : decode cX0_loadOf 33 = .ok (.iload_n 2, 1) := by decide +kernel
theorem dX0_loadOf_34 : decode cX0_loadOf 34 = .ok (.aload_n 0, 1) := by decide +kernel
theorem dX0_loadOf_35 : decode cX0_loadOf 35 = .ok (.getfield 32, 3) := by decide +kernel
theorem dX0_loadOf_38 : decode cX0_loadOf 38 = .ok (.aload_n 0, 1) := by decide +kernel
theorem dX0_loadOf_39 : decode cX0_loadOf 39 = .ok (.getfield 42, 3) := by decide +kernel
theorem dX0_loadOf_42 : decode cX0_loadOf 42 = .ok (.iload_n 3, 1) := by decide +kernel
theorem dX0_loadOf_43 : decode cX0_loadOf 43 = .ok (.invokevirtual 122, 3) := by decide +kernel
theorem dX0_loadOf_46 : decode cX0_loadOf 46 = .ok (.iconst 2, 1) := by decide +kernel
theorem dX0_loadOf_47 : decode cX0_loadOf 47 = .ok (.invokevirtual 111, 3) := by decide +kernel
theorem dX0_loadOf_50 : decode cX0_loadOf 50 = .ok (.iadd, 1) := by decide +kernel
theorem dX0_loadOf_51 : decode cX0_loadOf 51 = .ok (.istore_n 2, 1) := by decide +kernel
theorem dX0_loadOf_52 : decode cX0_loadOf 52 = .ok (.iinc 3 1, 3) := by decide +kernel
theorem dX0_loadOf_55 : decode cX0_loadOf 55 = .ok (.goto (-51), 3) := by decide +kernel
theorem dX0_loadOf_58 : decode cX0_loadOf 58 = .ok (.iload_n 2, 1) := by decide +kernel
theorem dX0_loadOf_59 : decode cX0_loadOf 59 = .ok (.ireturn, 1) := by decide +kernel
def rm_X0_loadOf : Room := { frames := 1, cells := 0, slots := 0, locals := 24 }
def M_X0_loadOf_4 (k : Nat) (S : Nat → Nat → Int32) : Nat → (Int32) → (Int32) → (Int32) → Option (Int32)
  | 0, _, _, _ => none
  | n + 1, x1, x2, x3 => if (S 0 6) ≤ x3 then (some x2) else ((M_X5_at k 60 (S 5) x3).bind fun q2 => (M_X6_at k 60 8 480 (S 4) q2 (6 : Int32)).bind fun q3 => if q3 = x1 then ((M_X5_at k 60 (S 5) x3).bind fun q5 => (M_X6_at k 60 8 480 (S 4) q5 (2 : Int32)).bind fun q6 => lt (x2 + q6) fun v7 => M_X0_loadOf_4 k S n x1 v7 (x3 + 1)) else (M_X0_loadOf_4 k S n x1 x2 (x3 + 1)))
theorem M_X0_loadOf_4_s (k : Nat) (S : Nat → Nat → Int32) (n : Nat) (x1 : Int32) (x2 : Int32) (x3 : Int32) : M_X0_loadOf_4 k S (n + 1) x1 x2 x3 = (if (S 0 6) ≤ x3 then (some x2) else ((M_X5_at k 60 (S 5) x3).bind fun q2 => (M_X6_at k 60 8 480 (S 4) q2 (6 : Int32)).bind fun q3 => if q3 = x1 then ((M_X5_at k 60 (S 5) x3).bind fun q5 => (M_X6_at k 60 8 480 (S 4) q5 (2 : Int32)).bind fun q6 => lt (x2 + q6) fun v7 => M_X0_loadOf_4 k S n x1 v7 (x3 + 1)) else (M_X0_loadOf_4 k S n x1 x2 (x3 + 1)))) := rfl
set_option maxRecDepth 100000 in
set_option maxHeartbeats 4000000 in
theorem N_X0_loadOf_4 (C : CX E p l s m args meth c cX0_loadOf 4 RX0 (some .int) A) (a : Nat → Nat) (k : Nat) (S : Nat → Nat → Int32) {post : Int32 → va_W → Prop} :
    ∀ (n : Nat) (x1 : Int32) (x2 : Int32) (x3 : Int32) (q : Int32), M_X0_loadOf_4 k S n x1 x2 x3 = some q → post q (wFl E a S) →
      WW E p l e rm_X0_loadOf s m args below meth c A 0 0 (QI E below post args s rm_X0_loadOf A) (wFl E a S) 4 [some (.ref (a 0)), some (.int x1), some (.int x2), some (.int x3)] 4 [] := by
  intro n
  induction n with
  | zero => intro x1 x2 x3 q  h _; cases h
  | succ n ih =>
    intro x1 x2 x3 q  h hq
    rw [M_X0_loadOf_4_s] at h
    refine r_iload_n (pc := 4) C (i := 3) dX0_loadOf_4 rfl rfl ?_
    refine r_aload_n (pc := 5) C (i := 0) dX0_loadOf_5 rfl rfl ?_
    refine r_get (pc := 6) C gwX0 0 rfl rfl 12 (by decide) wm_1_122 rfl dX0_loadOf_6 ?_
    refine r_icmp_ge (pc := 9) C (tgt := 58) dX0_loadOf_9 rfl (fun c1 => ?_) (fun c1 => ?_)
    · rw [if_pos c1] at h
      refine r_iload_n (pc := 58) C (i := 2) dX0_loadOf_58 rfl rfl ?_
      cases h
      exact r_ireti (pc := 59) C hq (Nat.zero_le _) (Nat.zero_le _) dX0_loadOf_59
    · rw [if_neg c1] at h
      refine r_aload_n (pc := 12) C (i := 0) dX0_loadOf_12 rfl rfl ?_
      refine r_get (pc := 13) C gwX0 0 rfl rfl 9 (by decide) wm_1_115 rfl dX0_loadOf_13 ?_
      refine r_aload_n (pc := 16) C (i := 0) dX0_loadOf_16 rfl rfl ?_
      refine r_get (pc := 17) C gwX0 0 rfl rfl 11 (by decide) wm_1_121 rfl dX0_loadOf_17 ?_
      refine r_iload_n (pc := 20) C (i := 3) dX0_loadOf_20 rfl rfl ?_
      obtain ⟨q2, hq2, h⟩ := bnd h
      refine r_callVp_CI (Cn := RX5) (pc := 21) C [.int x3] (c_X5_at E l k (fun i => a (i + 16)) 60 (S 5) x3 hq2) [16, 17] (hp_X0_queueLength_0 E a S) (by decide) 0 rfl rfl rfl g_X0_122 hd_X5_at ⟨Nat.le_of_ble_eq_true rfl, Nat.le_of_ble_eq_true rfl⟩ ⟨Nat.zero_le _, Nat.zero_le _⟩ (Nat.le_of_ble_eq_true rfl) rfl dX0_loadOf_21 (fun r hr => ?_)
      have hr := hr.symm
      subst hr
      refine r_bipush (pc := 24) C (v := 6) dX0_loadOf_24 (by decide) ?_
      obtain ⟨q3, hq3, h⟩ := bnd h
      refine r_callVp_CI (Cn := RX6) (pc := 26) C [.int q2, .int (6 : Int32)] (c_X6_at E l k (fun i => a (i + 7)) 60 8 480 (S 4) q2 (6 : Int32) hq3) [7, 8] (hp_X0_addRequest_0 E a S) (by decide) 0 rfl rfl rfl g_X0_111 hd_X6_at ⟨Nat.le_of_ble_eq_true rfl, Nat.le_of_ble_eq_true rfl⟩ ⟨Nat.zero_le _, Nat.zero_le _⟩ (Nat.le_of_ble_eq_true rfl) rfl dX0_loadOf_26 (fun r hr => ?_)
      have hr := hr.symm
      subst hr
      refine r_iload_n (pc := 29) C (i := 1) dX0_loadOf_29 rfl rfl ?_
      refine r_icmp_ne (pc := 30) C (tgt := 52) dX0_loadOf_30 rfl (fun c4 => ?_) (fun c4 => ?_)
      · rw [if_neg c4] at h
        refine r_iinc (pc := 52) C (v := (x3 + 1)) dX0_loadOf_52 rfl rfl (by decide) rfl ?_
        refine r_goto (pc := 55) C (tgt := 4) dX0_loadOf_55 rfl ?_
        refine r_weak (lSub_s (lSub_s (lSub_s (lSub_s lSub_e)))) ?_
        exact ih x1 x2 (x3 + 1) q  h hq
      · rw [if_pos c4] at h
        refine r_iload_n (pc := 33) C (i := 2) dX0_loadOf_33 rfl rfl ?_
        refine r_aload_n (pc := 34) C (i := 0) dX0_loadOf_34 rfl rfl ?_
        refine r_get (pc := 35) C gwX0 0 rfl rfl 9 (by decide) wm_1_115 rfl dX0_loadOf_35 ?_
        refine r_aload_n (pc := 38) C (i := 0) dX0_loadOf_38 rfl rfl ?_
        refine r_get (pc := 39) C gwX0 0 rfl rfl 11 (by decide) wm_1_121 rfl dX0_loadOf_39 ?_
        refine r_iload_n (pc := 42) C (i := 3) dX0_loadOf_42 rfl rfl ?_
        obtain ⟨q5, hq5, h⟩ := bnd h
        refine r_callVp_CI (Cn := RX5) (pc := 43) C [.int x3] (c_X5_at E l k (fun i => a (i + 16)) 60 (S 5) x3 hq5) [16, 17] (hp_X0_queueLength_0 E a S) (by decide) 0 rfl rfl rfl g_X0_122 hd_X5_at ⟨Nat.le_of_ble_eq_true rfl, Nat.le_of_ble_eq_true rfl⟩ ⟨Nat.zero_le _, Nat.zero_le _⟩ (Nat.le_of_ble_eq_true rfl) rfl dX0_loadOf_43 (fun r hr => ?_)
        have hr := hr.symm
        subst hr
        refine r_iconst (pc := 46) C (v := 2) dX0_loadOf_46 (by decide) ?_
        obtain ⟨q6, hq6, h⟩ := bnd h
        refine r_callVp_CI (Cn := RX6) (pc := 47) C [.int q5, .int (2 : Int32)] (c_X6_at E l k (fun i => a (i + 7)) 60 8 480 (S 4) q5 (2 : Int32) hq6) [7, 8] (hp_X0_addRequest_0 E a S) (by decide) 0 rfl rfl rfl g_X0_111 hd_X6_at ⟨Nat.le_of_ble_eq_true rfl, Nat.le_of_ble_eq_true rfl⟩ ⟨Nat.zero_le _, Nat.zero_le _⟩ (Nat.le_of_ble_eq_true rfl) rfl dX0_loadOf_47 (fun r hr => ?_)
        have hr := hr.symm
        subst hr
        refine r_iadd (pc := 50) C dX0_loadOf_50 ?_
        obtain ⟨v7, hv7, h⟩ := lt_e h
        refine r_topi hv7 ?_
        refine r_istore_n (pc := 51) C (i := 2) dX0_loadOf_51 rfl (by decide) rfl ?_
        refine r_iinc (pc := 52) C (v := (x3 + 1)) dX0_loadOf_52 rfl rfl (by decide) rfl ?_
        refine r_goto (pc := 55) C (tgt := 4) dX0_loadOf_55 rfl ?_
        refine r_weak (lSub_s (lSub_s (lSub_s (lSub_s lSub_e)))) ?_
        exact ih x1 v7 (x3 + 1) q  h hq
def M_X0_loadOf_0 (k : Nat) (S : Nat → Nat → Int32) (p0 : Int32) : Option (Int32) := M_X0_loadOf_4 k S k p0 (0 : Int32) (0 : Int32)
set_option maxRecDepth 100000 in
set_option maxHeartbeats 4000000 in
theorem N_X0_loadOf_0 (C : CX E p l s m args meth c cX0_loadOf 4 RX0 (some .int) A) (a : Nat → Nat) (k : Nat) (S : Nat → Nat → Int32) {post : Int32 → va_W → Prop} :
    ∀ (p0 : Int32) (q : Int32), M_X0_loadOf_0 k S p0 = some q → post q (wFl E a S) →
      WW E p l e rm_X0_loadOf s m args below meth c A 0 0 (QI E below post args s rm_X0_loadOf A) (wFl E a S) 4 [some (.ref (a 0)), some (.int p0), none, none] 0 [] := by
  intro p0 q  h hq
  unfold M_X0_loadOf_0 at h
  refine r_iconst (pc := 0) C (v := 0) dX0_loadOf_0 (by decide) ?_
  refine r_istore_n (pc := 1) C (i := 2) dX0_loadOf_1 rfl (by decide) rfl ?_
  refine r_iconst (pc := 2) C (v := 0) dX0_loadOf_2 (by decide) ?_
  refine r_istore_n (pc := 3) C (i := 3) dX0_loadOf_3 rfl (by decide) rfl ?_
  refine r_weak (lSub_s (lSub_s (lSub_s (lSub_s lSub_e)))) ?_
  exact N_X0_loadOf_4 C a k S k p0 (0 : Int32) (0 : Int32) q  h hq
def M_X0_loadOf (k : Nat) (S : Nat → Nat → Int32) (p0 : Int32) : Option (Int32) := M_X0_loadOf_0 k S p0
set_option maxRecDepth 100000 in
set_option maxHeartbeats 4000000 in
theorem c_X0_loadOf (E : ENV) (l : Launch) (k : Nat) (a : Nat → Nat) (S : Nat → Nat → Int32) (p0 : Int32) {q : Int32} (hm : M_X0_loadOf k S p0 = some q) : CI E l yX0_loadOf cX0_loadOf 4 (some .int) rm_X0_loadOf [.ref (a 0), .int p0] (wFl E a S) (fun r w' => r = q ∧ w' = (wFl E a S)) :=
  CI.of 2 (by decide) (Nat.le_of_ble_eq_true rfl) (fun p e s m below meth c A C _ => r_weak (lSub_s (lSub_s (lSub_n (lSub_n lSub_e)))) (N_X0_loadOf_0 C a k S p0 q  hm ⟨rfl, rfl⟩))
-- ShardGuard$Fleet.waitingAt(II)I
theorem dX0_waitingAt_0 : decode cX0_waitingAt 0 = .ok (.iload_n 2, 1) := by decide +kernel
theorem dX0_waitingAt_1 : decode cX0_waitingAt 1 = .ok (.istore_n 3, 1) := by decide +kernel
theorem dX0_waitingAt_2 : decode cX0_waitingAt 2 = .ok (.iconst 0, 1) := by decide +kernel
theorem dX0_waitingAt_3 : decode cX0_waitingAt 3 = .ok (.istore 4, 2) := by decide +kernel
theorem dX0_waitingAt_5 : decode cX0_waitingAt 5 = .ok (.iload 4, 2) := by decide +kernel
theorem dX0_waitingAt_7 : decode cX0_waitingAt 7 = .ok (.aload_n 0, 1) := by decide +kernel
theorem dX0_waitingAt_8 : decode cX0_waitingAt 8 = .ok (.getfield 78, 3) := by decide +kernel
theorem dX0_waitingAt_11 : decode cX0_waitingAt 11 = .ok (.if_icmp .ge 49, 3) := by decide +kernel
theorem dX0_waitingAt_14 : decode cX0_waitingAt 14 = .ok (.iload_n 3, 1) := by decide +kernel
theorem dX0_waitingAt_15 : decode cX0_waitingAt 15 = .ok (.ifCond .lt 45, 3) := by decide +kernel
theorem dX0_waitingAt_18 : decode cX0_waitingAt 18 = .ok (.aload_n 0, 1) := by decide +kernel
theorem dX0_waitingAt_19 : decode cX0_waitingAt 19 = .ok (.getfield 42, 3) := by decide +kernel
theorem dX0_waitingAt_22 : decode cX0_waitingAt 22 = .ok (.iload 4, 2) := by decide +kernel
theorem dX0_waitingAt_24 : decode cX0_waitingAt 24 = .ok (.invokevirtual 122, 3) := by decide +kernel
theorem dX0_waitingAt_27 : decode cX0_waitingAt 27 = .ok (.istore 5, 2) := by decide +kernel
theorem dX0_waitingAt_29 : decode cX0_waitingAt 29 = .ok (.aload_n 0, 1) := by decide +kernel
theorem dX0_waitingAt_30 : decode cX0_waitingAt 30 = .ok (.getfield 32, 3) := by decide +kernel
theorem dX0_waitingAt_33 : decode cX0_waitingAt 33 = .ok (.iload 5, 2) := by decide +kernel
theorem dX0_waitingAt_35 : decode cX0_waitingAt 35 = .ok (.bipush 6, 2) := by decide +kernel
theorem dX0_waitingAt_37 : decode cX0_waitingAt 37 = .ok (.invokevirtual 111, 3) := by decide +kernel
theorem dX0_waitingAt_40 : decode cX0_waitingAt 40 = .ok (.iload_n 1, 1) := by decide +kernel
theorem dX0_waitingAt_41 : decode cX0_waitingAt 41 = .ok (.if_icmp .ne 13, 3) := by decide +kernel
theorem dX0_waitingAt_44 : decode cX0_waitingAt 44 = .ok (.iload_n 3, 1) := by decide +kernel
theorem dX0_waitingAt_45 : decode cX0_waitingAt 45 = .ok (.ifCond .ne 6, 3) := by decide +kernel
theorem dX0_waitingAt_48 : decode cX0_waitingAt 48 = .ok (.iload 5, 2) := by decide +kernel
theorem dX0_waitingAt_50 : decode cX0_waitingAt 50 = .ok (.ireturn, 1) := by decide +kernel
theorem dX0_waitingAt_51 : decode cX0_waitingAt 51 = .ok (.iinc 3 (-1), 3) := by decide +kernel
theorem dX0_waitingAt_54 : decode cX0_waitingAt 54 = .ok (.iinc 4 1, 3) := by decide +kernel
theorem dX0_waitingAt_57 : decode cX0_waitingAt 57 = .ok (.goto (-52), 3) := by decide +kernel
theorem dX0_waitingAt_60 : decode cX0_waitingAt 60 = .ok (.iconst (-1), 1) := by decide +kernel
theorem dX0_waitingAt_61 : decode cX0_waitingAt 61 = .ok (.ireturn, 1) := by decide +kernel
def rm_X0_waitingAt : Room := { frames := 1, cells := 0, slots := 0, locals := 24 }
def M_X0_waitingAt_5 (k : Nat) (S : Nat → Nat → Int32) : Nat → (Int32) → (Int32) → (Int32) → Option (Int32)
  | 0, _, _, _ => none
  | n + 1, x1, x3, x4 => if (S 0 6) ≤ x4 then (some (-1 : Int32)) else (if x3 < 0 then (some (-1 : Int32)) else ((M_X5_at k 60 (S 5) x4).bind fun q3 => (M_X6_at k 60 8 480 (S 4) q3 (6 : Int32)).bind fun q4 => if q4 = x1 then (if x3 = 0 then (some q3) else (M_X0_waitingAt_5 k S n x1 (x3 + (-1)) (x4 + 1))) else (M_X0_waitingAt_5 k S n x1 x3 (x4 + 1))))
theorem M_X0_waitingAt_5_s (k : Nat) (S : Nat → Nat → Int32) (n : Nat) (x1 : Int32) (x3 : Int32) (x4 : Int32) : M_X0_waitingAt_5 k S (n + 1) x1 x3 x4 = (if (S 0 6) ≤ x4 then (some (-1 : Int32)) else (if x3 < 0 then (some (-1 : Int32)) else ((M_X5_at k 60 (S 5) x4).bind fun q3 => (M_X6_at k 60 8 480 (S 4) q3 (6 : Int32)).bind fun q4 => if q4 = x1 then (if x3 = 0 then (some q3) else (M_X0_waitingAt_5 k S n x1 (x3 + (-1)) (x4 + 1))) else (M_X0_waitingAt_5 k S n x1 x3 (x4 + 1))))) := rfl
set_option maxRecDepth 100000 in
set_option maxHeartbeats 4000000 in
theorem N_X0_waitingAt_5 (C : CX E p l s m args meth c cX0_waitingAt 6 RX0 (some .int) A) (a : Nat → Nat) (k : Nat) (S : Nat → Nat → Int32) {post : Int32 → va_W → Prop} :
    ∀ (n : Nat) (x1 : Int32) (x3 : Int32) (x4 : Int32) (q : Int32), M_X0_waitingAt_5 k S n x1 x3 x4 = some q → post q (wFl E a S) →
      WW E p l e rm_X0_waitingAt s m args below meth c A 0 0 (QI E below post args s rm_X0_waitingAt A) (wFl E a S) 6 [some (.ref (a 0)), some (.int x1), none, some (.int x3), some (.int x4), none] 5 [] := by
  intro n
  induction n with
  | zero => intro x1 x3 x4 q  h _; cases h
  | succ n ih =>
    intro x1 x3 x4 q  h hq
    rw [M_X0_waitingAt_5_s] at h
    refine r_iload (pc := 5) C (i := 4) dX0_waitingAt_5 rfl ?_
    refine r_aload_n (pc := 7) C (i := 0) dX0_waitingAt_7 rfl rfl ?_
    refine r_get (pc := 8) C gwX0 0 rfl rfl 12 (by decide) wm_1_122 rfl dX0_waitingAt_8 ?_
    refine r_icmp_ge (pc := 11) C (tgt := 60) dX0_waitingAt_11 rfl (fun c1 => ?_) (fun c1 => ?_)
    · rw [if_pos c1] at h
      refine r_iconst (pc := 60) C (v := (-1)) dX0_waitingAt_60 (by decide) ?_
      have h := Option.some.inj h
      subst h
      exact r_ireti (pc := 61) C hq (Nat.zero_le _) (Nat.zero_le _) dX0_waitingAt_61
    · rw [if_neg c1] at h
      refine r_iload_n (pc := 14) C (i := 3) dX0_waitingAt_14 rfl rfl ?_
      refine r_if_lt (pc := 15) C (tgt := 60) dX0_waitingAt_15 rfl (fun c2 => ?_) (fun c2 => ?_)
      · rw [if_pos c2] at h
        refine r_iconst (pc := 60) C (v := (-1)) dX0_waitingAt_60 (by decide) ?_
        have h := Option.some.inj h
        subst h
        exact r_ireti (pc := 61) C hq (Nat.zero_le _) (Nat.zero_le _) dX0_waitingAt_61
      · rw [if_neg c2] at h
        refine r_aload_n (pc := 18) C (i := 0) dX0_waitingAt_18 rfl rfl ?_
        refine r_get (pc := 19) C gwX0 0 rfl rfl 11 (by decide) wm_1_121 rfl dX0_waitingAt_19 ?_
        refine r_iload (pc := 22) C (i := 4) dX0_waitingAt_22 rfl ?_
        obtain ⟨q3, hq3, h⟩ := bnd h
        refine r_callVp_CI (Cn := RX5) (pc := 24) C [.int x4] (c_X5_at E l k (fun i => a (i + 16)) 60 (S 5) x4 hq3) [16, 17] (hp_X0_queueLength_0 E a S) (by decide) 0 rfl rfl rfl g_X0_122 hd_X5_at ⟨Nat.le_of_ble_eq_true rfl, Nat.le_of_ble_eq_true rfl⟩ ⟨Nat.zero_le _, Nat.zero_le _⟩ (Nat.le_of_ble_eq_true rfl) rfl dX0_waitingAt_24 (fun r hr => ?_)
        have hr := hr.symm
        subst hr
        refine r_istore (pc := 27) C (i := 5) dX0_waitingAt_27 (by decide) rfl ?_
        refine r_aload_n (pc := 29) C (i := 0) dX0_waitingAt_29 rfl rfl ?_
        refine r_get (pc := 30) C gwX0 0 rfl rfl 9 (by decide) wm_1_115 rfl dX0_waitingAt_30 ?_
        refine r_iload (pc := 33) C (i := 5) dX0_waitingAt_33 rfl ?_
        refine r_bipush (pc := 35) C (v := 6) dX0_waitingAt_35 (by decide) ?_
        obtain ⟨q4, hq4, h⟩ := bnd h
        refine r_callVp_CI (Cn := RX6) (pc := 37) C [.int q3, .int (6 : Int32)] (c_X6_at E l k (fun i => a (i + 7)) 60 8 480 (S 4) q3 (6 : Int32) hq4) [7, 8] (hp_X0_addRequest_0 E a S) (by decide) 0 rfl rfl rfl g_X0_111 hd_X6_at ⟨Nat.le_of_ble_eq_true rfl, Nat.le_of_ble_eq_true rfl⟩ ⟨Nat.zero_le _, Nat.zero_le _⟩ (Nat.le_of_ble_eq_true rfl) rfl dX0_waitingAt_37 (fun r hr => ?_)
        have hr := hr.symm
        subst hr
        refine r_iload_n (pc := 40) C (i := 1) dX0_waitingAt_40 rfl rfl ?_
        refine r_icmp_ne (pc := 41) C (tgt := 54) dX0_waitingAt_41 rfl (fun c5 => ?_) (fun c5 => ?_)
        · rw [if_neg c5] at h
          refine r_iinc (pc := 54) C (v := (x4 + 1)) dX0_waitingAt_54 rfl rfl (by decide) rfl ?_
          refine r_goto (pc := 57) C (tgt := 5) dX0_waitingAt_57 rfl ?_
          refine r_weak (lSub_s (lSub_s (lSub_n (lSub_s (lSub_s (lSub_n lSub_e)))))) ?_
          exact ih x1 x3 (x4 + 1) q  h hq
        · rw [if_pos c5] at h
          refine r_iload_n (pc := 44) C (i := 3) dX0_waitingAt_44 rfl rfl ?_
          refine r_if_ne (pc := 45) C (tgt := 51) dX0_waitingAt_45 rfl (fun c6 => ?_) (fun c6 => ?_)
          · rw [if_neg c6] at h
            refine r_iinc (pc := 51) C (v := (x3 + (-1))) dX0_waitingAt_51 rfl rfl (by decide) rfl ?_
            refine r_iinc (pc := 54) C (v := (x4 + 1)) dX0_waitingAt_54 rfl rfl (by decide) rfl ?_
            refine r_goto (pc := 57) C (tgt := 5) dX0_waitingAt_57 rfl ?_
            refine r_weak (lSub_s (lSub_s (lSub_n (lSub_s (lSub_s (lSub_n lSub_e)))))) ?_
            exact ih x1 (x3 + (-1)) (x4 + 1) q  h hq
          · rw [if_pos c6] at h
            refine r_iload (pc := 48) C (i := 5) dX0_waitingAt_48 rfl ?_
            cases h
            exact r_ireti (pc := 50) C hq (Nat.zero_le _) (Nat.zero_le _) dX0_waitingAt_50
def M_X0_waitingAt_0 (k : Nat) (S : Nat → Nat → Int32) (p0 : Int32) (p1 : Int32) : Option (Int32) := M_X0_waitingAt_5 k S k p0 p1 (0 : Int32)
set_option maxRecDepth 100000 in
set_option maxHeartbeats 4000000 in
theorem N_X0_waitingAt_0 (C : CX E p l s m args meth c cX0_waitingAt 6 RX0 (some .int) A) (a : Nat → Nat) (k : Nat) (S : Nat → Nat → Int32) {post : Int32 → va_W → Prop} :
    ∀ (p0 : Int32) (p1 : Int32) (q : Int32), M_X0_waitingAt_0 k S p0 p1 = some q → post q (wFl E a S) →
      WW E p l e rm_X0_waitingAt s m args below meth c A 0 0 (QI E below post args s rm_X0_waitingAt A) (wFl E a S) 6 [some (.ref (a 0)), some (.int p0), some (.int p1), none, none, none] 0 [] := by
  intro p0 p1 q  h hq
  unfold M_X0_waitingAt_0 at h
  refine r_iload_n (pc := 0) C (i := 2) dX0_waitingAt_0 rfl rfl ?_
  refine r_istore_n (pc := 1) C (i := 3) dX0_waitingAt_1 rfl (by decide) rfl ?_
  refine r_iconst (pc := 2) C (v := 0) dX0_waitingAt_2 (by decide) ?_
  refine r_istore (pc := 3) C (i := 4) dX0_waitingAt_3 (by decide) rfl ?_
  refine r_weak (lSub_s (lSub_s (lSub_n (lSub_s (lSub_s (lSub_n lSub_e)))))) ?_
  exact N_X0_waitingAt_5 C a k S k p0 p1 (0 : Int32) q  h hq
def M_X0_waitingAt (k : Nat) (S : Nat → Nat → Int32) (p0 : Int32) (p1 : Int32) : Option (Int32) := M_X0_waitingAt_0 k S p0 p1
set_option maxRecDepth 100000 in
set_option maxHeartbeats 4000000 in
theorem c_X0_waitingAt (E : ENV) (l : Launch) (k : Nat) (a : Nat → Nat) (S : Nat → Nat → Int32) (p0 : Int32) (p1 : Int32) {q : Int32} (hm : M_X0_waitingAt k S p0 p1 = some q) : CI E l yX0_waitingAt cX0_waitingAt 6 (some .int) rm_X0_waitingAt [.ref (a 0), .int p0, .int p1] (wFl E a S) (fun r w' => r = q ∧ w' = (wFl E a S)) :=
  CI.of 3 (by decide) (Nat.le_of_ble_eq_true rfl) (fun p e s m below meth c A C _ => r_weak (lSub_s (lSub_s (lSub_s (lSub_n (lSub_n (lSub_n lSub_e)))))) (N_X0_waitingAt_0 C a k S p0 p1 q  hm ⟨rfl, rfl⟩))
-- ShardGuard$Fleet.placeOf(I)I
theorem dX0_placeOf_0 : decode cX0_placeOf 0 = .ok (.aload_n 0, 1) := by decide +kernel
theorem dX0_placeOf_1 : decode cX0_placeOf 1 = .ok (.getfield 32, 3) := by decide +kernel
theorem dX0_placeOf_4 : decode cX0_placeOf 4 = .ok (.iload_n 1, 1) := by decide +kernel
theorem dX0_placeOf_5 : decode cX0_placeOf 5 = .ok (.bipush 6, 2) := by decide +kernel
theorem dX0_placeOf_7 : decode cX0_placeOf 7 = .ok (.invokevirtual 111, 3) := by decide +kernel
theorem dX0_placeOf_10 : decode cX0_placeOf 10 = .ok (.istore_n 2, 1) := by decide +kernel
theorem dX0_placeOf_11 : decode cX0_placeOf 11 = .ok (.iconst 0, 1) := by decide +kernel
theorem dX0_placeOf_12 : decode cX0_placeOf 12 = .ok (.istore_n 3, 1) := by decide +kernel
theorem dX0_placeOf_13 : decode cX0_placeOf 13 = .ok (.iconst 0, 1) := by decide +kernel
theorem dX0_placeOf_14 : decode cX0_placeOf 14 = .ok (.istore 4, 2) := by decide +kernel
theorem dX0_placeOf_16 : decode cX0_placeOf 16 = .ok (.iload 4, 2) := by decide +kernel
theorem dX0_placeOf_18 : decode cX0_placeOf 18 = .ok (.aload_n 0, 1) := by decide +kernel
theorem dX0_placeOf_19 : decode cX0_placeOf 19 = .ok (.getfield 78, 3) := by decide +kernel
theorem dX0_placeOf_22 : decode cX0_placeOf 22 = .ok (.if_icmp .ge 49, 3) := by decide +kernel
theorem dX0_placeOf_25 : decode cX0_placeOf 25 = .ok (.aload_n 0, 1) := by decide +kernel
theorem dX0_placeOf_26 : decode cX0_placeOf 26 = .ok (.getfield 42, 3) := by decide +kernel
theorem dX0_placeOf_29 : decode cX0_placeOf 29 = .ok (.iload 4, 2) := by decide +kernel
theorem dX0_placeOf_31 : decode cX0_placeOf 31 = .ok (.invokevirtual 122, 3) := by decide +kernel
theorem dX0_placeOf_34 : decode cX0_placeOf 34 = .ok (.iload_n 1, 1) := by decide +kernel
theorem dX0_placeOf_35 : decode cX0_placeOf 35 = .ok (.if_icmp .ne 5, 3) := by decide +kernel
theorem dX0_placeOf_38 : decode cX0_placeOf 38 = .ok (.iload_n 3, 1) := by decide +kernel
theorem dX0_placeOf_39 : decode cX0_placeOf 39 = .ok (.ireturn, 1) := by decide +kernel
theorem dX0_placeOf_40 : decode cX0_placeOf 40 = .ok (.aload_n 0, 1) := by decide +kernel
theorem dX0_placeOf_41 : decode cX0_placeOf 41 = .ok (.getfield 32, 3) := by decide +kernel
theorem dX0_placeOf_44 : decode cX0_placeOf 44 = .ok (.aload_n 0, 1) := by decide +kernel
theorem dX0_placeOf_45 : decode cX0_placeOf 45 = .ok (.getfield 42, 3) := by decide +kernel
theorem dX0_placeOf_48 : decode cX0_placeOf 48 = .ok (.iload 4, 2) := by decide +kernel
theorem dX0_placeOf_50 : decode cX0_placeOf 50 = .ok (.invokevirtual 122, 3) := by decide +kernel
theorem dX0_placeOf_53 : decode cX0_placeOf 53 = .ok (.bipush 6, 2) := by decide +kernel
theorem dX0_placeOf_55 : decode cX0_placeOf 55 = .ok (.invokevirtual 111, 3) := by decide +kernel
theorem dX0_placeOf_58 : decode cX0_placeOf 58 = .ok (.iload_n 2, 1) := by decide +kernel
theorem dX0_placeOf_59 : decode cX0_placeOf 59 = .ok (.if_icmp .ne 6, 3) := by decide +kernel
theorem dX0_placeOf_62 : decode cX0_placeOf 62 = .ok (.iinc 3 1, 3) := by decide +kernel
theorem dX0_placeOf_65 : decode cX0_placeOf 65 = .ok (.iinc 4 1, 3) := by decide +kernel
theorem dX0_placeOf_68 : decode cX0_placeOf 68 = .ok (.goto (-52), 3) := by decide +kernel
theorem dX0_placeOf_71 : decode cX0_placeOf 71 = .ok (.iconst 0, 1) := by decide +kernel
theorem dX0_placeOf_72 : decode cX0_placeOf 72 = .ok (.ireturn, 1) := by decide +kernel
def rm_X0_placeOf : Room := { frames := 1, cells := 0, slots := 0, locals := 24 }
def M_X0_placeOf_16 (k : Nat) (S : Nat → Nat → Int32) : Nat → (Int32) → (Int32) → (Int32) → (Int32) → Option (Int32)
  | 0, _, _, _, _ => none
  | n + 1, x1, x2, x3, x4 => if (S 0 6) ≤ x4 then (some (0 : Int32)) else ((M_X5_at k 60 (S 5) x4).bind fun q2 => if q2 = x1 then (some x3) else ((M_X5_at k 60 (S 5) x4).bind fun q4 => (M_X6_at k 60 8 480 (S 4) q4 (6 : Int32)).bind fun q5 => if q5 = x2 then (M_X0_placeOf_16 k S n x1 x2 (x3 + 1) (x4 + 1)) else (M_X0_placeOf_16 k S n x1 x2 x3 (x4 + 1))))
theorem M_X0_placeOf_16_s (k : Nat) (S : Nat → Nat → Int32) (n : Nat) (x1 : Int32) (x2 : Int32) (x3 : Int32) (x4 : Int32) : M_X0_placeOf_16 k S (n + 1) x1 x2 x3 x4 = (if (S 0 6) ≤ x4 then (some (0 : Int32)) else ((M_X5_at k 60 (S 5) x4).bind fun q2 => if q2 = x1 then (some x3) else ((M_X5_at k 60 (S 5) x4).bind fun q4 => (M_X6_at k 60 8 480 (S 4) q4 (6 : Int32)).bind fun q5 => if q5 = x2 then (M_X0_placeOf_16 k S n x1 x2 (x3 + 1) (x4 + 1)) else (M_X0_placeOf_16 k S n x1 x2 x3 (x4 + 1))))) := rfl
set_option maxRecDepth 100000 in
set_option maxHeartbeats 4000000 in
theorem N_X0_placeOf_16 (C : CX E p l s m args meth c cX0_placeOf 5 RX0 (some .int) A) (a : Nat → Nat) (k : Nat) (S : Nat → Nat → Int32) {post : Int32 → va_W → Prop} :
    ∀ (n : Nat) (x1 : Int32) (x2 : Int32) (x3 : Int32) (x4 : Int32) (q : Int32), M_X0_placeOf_16 k S n x1 x2 x3 x4 = some q → post q (wFl E a S) →
      WW E p l e rm_X0_placeOf s m args below meth c A 0 0 (QI E below post args s rm_X0_placeOf A) (wFl E a S) 5 [some (.ref (a 0)), some (.int x1), some (.int x2), some (.int x3), some (.int x4)] 16 [] := by
  intro n
  induction n with
  | zero => intro x1 x2 x3 x4 q  h _; cases h
  | succ n ih =>
    intro x1 x2 x3 x4 q  h hq
    rw [M_X0_placeOf_16_s] at h
    refine r_iload (pc := 16) C (i := 4) dX0_placeOf_16 rfl ?_
    refine r_aload_n (pc := 18) C (i := 0) dX0_placeOf_18 rfl rfl ?_
    refine r_get (pc := 19) C gwX0 0 rfl rfl 12 (by decide) wm_1_122 rfl dX0_placeOf_19 ?_
    refine r_icmp_ge (pc := 22) C (tgt := 71) dX0_placeOf_22 rfl (fun c1 => ?_) (fun c1 => ?_)
    · rw [if_pos c1] at h
      refine r_iconst (pc := 71) C (v := 0) dX0_placeOf_71 (by decide) ?_
      cases h
      exact r_ireti (pc := 72) C hq (Nat.zero_le _) (Nat.zero_le _) dX0_placeOf_72
    · rw [if_neg c1] at h
      refine r_aload_n (pc := 25) C (i := 0) dX0_placeOf_25 rfl rfl ?_
      refine r_get (pc := 26) C gwX0 0 rfl rfl 11 (by decide) wm_1_121 rfl dX0_placeOf_26 ?_
      refine r_iload (pc := 29) C (i := 4) dX0_placeOf_29 rfl ?_
      obtain ⟨q2, hq2, h⟩ := bnd h
      refine r_callVp_CI (Cn := RX5) (pc := 31) C [.int x4] (c_X5_at E l k (fun i => a (i + 16)) 60 (S 5) x4 hq2) [16, 17] (hp_X0_queueLength_0 E a S) (by decide) 0 rfl rfl rfl g_X0_122 hd_X5_at ⟨Nat.le_of_ble_eq_true rfl, Nat.le_of_ble_eq_true rfl⟩ ⟨Nat.zero_le _, Nat.zero_le _⟩ (Nat.le_of_ble_eq_true rfl) rfl dX0_placeOf_31 (fun r hr => ?_)
      have hr := hr.symm
      subst hr
      refine r_iload_n (pc := 34) C (i := 1) dX0_placeOf_34 rfl rfl ?_
      refine r_icmp_ne (pc := 35) C (tgt := 40) dX0_placeOf_35 rfl (fun c3 => ?_) (fun c3 => ?_)
      · rw [if_neg c3] at h
        refine r_aload_n (pc := 40) C (i := 0) dX0_placeOf_40 rfl rfl ?_
        refine r_get (pc := 41) C gwX0 0 rfl rfl 9 (by decide) wm_1_115 rfl dX0_placeOf_41 ?_
        refine r_aload_n (pc := 44) C (i := 0) dX0_placeOf_44 rfl rfl ?_
        refine r_get (pc := 45) C gwX0 0 rfl rfl 11 (by decide) wm_1_121 rfl dX0_placeOf_45 ?_
        refine r_iload (pc := 48) C (i := 4) dX0_placeOf_48 rfl ?_
        obtain ⟨q4, hq4, h⟩ := bnd h
        refine r_callVp_CI (Cn := RX5) (pc := 50) C [.int x4] (c_X5_at E l k (fun i => a (i + 16)) 60 (S 5) x4 hq4) [16, 17] (hp_X0_queueLength_0 E a S) (by decide) 0 rfl rfl rfl g_X0_122 hd_X5_at ⟨Nat.le_of_ble_eq_true rfl, Nat.le_of_ble_eq_true rfl⟩ ⟨Nat.zero_le _, Nat.zero_le _⟩ (Nat.le_of_ble_eq_true rfl) rfl dX0_placeOf_50 (fun r hr => ?_)
        have hr := hr.symm
        subst hr
        refine r_bipush (pc := 53) C (v := 6) dX0_placeOf_53 (by decide) ?_
        obtain ⟨q5, hq5, h⟩ := bnd h
        refine r_callVp_CI (Cn := RX6) (pc := 55) C [.int q4, .int (6 : Int32)] (c_X6_at E l k (fun i => a (i + 7)) 60 8 480 (S 4) q4 (6 : Int32) hq5) [7, 8] (hp_X0_addRequest_0 E a S) (by decide) 0 rfl rfl rfl g_X0_111 hd_X6_at ⟨Nat.le_of_ble_eq_true rfl, Nat.le_of_ble_eq_true rfl⟩ ⟨Nat.zero_le _, Nat.zero_le _⟩ (Nat.le_of_ble_eq_true rfl) rfl dX0_placeOf_55 (fun r hr => ?_)
        have hr := hr.symm
        subst hr
        refine r_iload_n (pc := 58) C (i := 2) dX0_placeOf_58 rfl rfl ?_
        refine r_icmp_ne (pc := 59) C (tgt := 65) dX0_placeOf_59 rfl (fun c6 => ?_) (fun c6 => ?_)
        · rw [if_neg c6] at h
          refine r_iinc (pc := 65) C (v := (x4 + 1)) dX0_placeOf_65 rfl rfl (by decide) rfl ?_
          refine r_goto (pc := 68) C (tgt := 16) dX0_placeOf_68 rfl ?_
          refine r_weak (lSub_s (lSub_s (lSub_s (lSub_s (lSub_s lSub_e))))) ?_
          exact ih x1 x2 x3 (x4 + 1) q  h hq
        · rw [if_pos c6] at h
          refine r_iinc (pc := 62) C (v := (x3 + 1)) dX0_placeOf_62 rfl rfl (by decide) rfl ?_
          refine r_iinc (pc := 65) C (v := (x4 + 1)) dX0_placeOf_65 rfl rfl (by decide) rfl ?_
          refine r_goto (pc := 68) C (tgt := 16) dX0_placeOf_68 rfl ?_
          refine r_weak (lSub_s (lSub_s (lSub_s (lSub_s (lSub_s lSub_e))))) ?_
          exact ih x1 x2 (x3 + 1) (x4 + 1) q  h hq
      · rw [if_pos c3] at h
        refine r_iload_n (pc := 38) C (i := 3) dX0_placeOf_38 rfl rfl ?_
        cases h
        exact r_ireti (pc := 39) C hq (Nat.zero_le _) (Nat.zero_le _) dX0_placeOf_39
def M_X0_placeOf_0 (k : Nat) (S : Nat → Nat → Int32) (p0 : Int32) : Option (Int32) := (M_X6_at k 60 8 480 (S 4) p0 (6 : Int32)).bind fun q7 => M_X0_placeOf_16 k S k p0 q7 (0 : Int32) (0 : Int32)
set_option maxRecDepth 100000 in
set_option maxHeartbeats 4000000 in
theorem N_X0_placeOf_0 (C : CX E p l s m args meth c cX0_placeOf 5 RX0 (some .int) A) (a : Nat → Nat) (k : Nat) (S : Nat → Nat → Int32) {post : Int32 → va_W → Prop} :
    ∀ (p0 : Int32) (q : Int32), M_X0_placeOf_0 k S p0 = some q → post q (wFl E a S) →
      WW E p l e rm_X0_placeOf s m args below meth c A 0 0 (QI E below post args s rm_X0_placeOf A) (wFl E a S) 5 [some (.ref (a 0)), some (.int p0), none, none, none] 0 [] := by
  intro p0 q  h hq
  unfold M_X0_placeOf_0 at h
  refine r_aload_n (pc := 0) C (i := 0) dX0_placeOf_0 rfl rfl ?_
  refine r_get (pc := 1) C gwX0 0 rfl rfl 9 (by decide) wm_1_115 rfl dX0_placeOf_1 ?_
  refine r_iload_n (pc := 4) C (i := 1) dX0_placeOf_4 rfl rfl ?_
  refine r_bipush (pc := 5) C (v := 6) dX0_placeOf_5 (by decide) ?_
  obtain ⟨q7, hq7, h⟩ := bnd h
  refine r_callVp_CI (Cn := RX6) (pc := 7) C [.int p0, .int (6 : Int32)] (c_X6_at E l k (fun i => a (i + 7)) 60 8 480 (S 4) p0 (6 : Int32) hq7) [7, 8] (hp_X0_addRequest_0 E a S) (by decide) 0 rfl rfl rfl g_X0_111 hd_X6_at ⟨Nat.le_of_ble_eq_true rfl, Nat.le_of_ble_eq_true rfl⟩ ⟨Nat.zero_le _, Nat.zero_le _⟩ (Nat.le_of_ble_eq_true rfl) rfl dX0_placeOf_7 (fun r hr => ?_)
  have hr := hr.symm
  subst hr
  refine r_istore_n (pc := 10) C (i := 2) dX0_placeOf_10 rfl (by decide) rfl ?_
  refine r_iconst (pc := 11) C (v := 0) dX0_placeOf_11 (by decide) ?_
  refine r_istore_n (pc := 12) C (i := 3) dX0_placeOf_12 rfl (by decide) rfl ?_
  refine r_iconst (pc := 13) C (v := 0) dX0_placeOf_13 (by decide) ?_
  refine r_istore (pc := 14) C (i := 4) dX0_placeOf_14 (by decide) rfl ?_
  refine r_weak (lSub_s (lSub_s (lSub_s (lSub_s (lSub_s lSub_e))))) ?_
  exact N_X0_placeOf_16 C a k S k p0 q7 (0 : Int32) (0 : Int32) q  h hq
def M_X0_placeOf (k : Nat) (S : Nat → Nat → Int32) (p0 : Int32) : Option (Int32) := M_X0_placeOf_0 k S p0
set_option maxRecDepth 100000 in
set_option maxHeartbeats 4000000 in
theorem c_X0_placeOf (E : ENV) (l : Launch) (k : Nat) (a : Nat → Nat) (S : Nat → Nat → Int32) (p0 : Int32) {q : Int32} (hm : M_X0_placeOf k S p0 = some q) : CI E l yX0_placeOf cX0_placeOf 5 (some .int) rm_X0_placeOf [.ref (a 0), .int p0] (wFl E a S) (fun r w' => r = q ∧ w' = (wFl E a S)) :=
  CI.of 3 (by decide) (Nat.le_of_ble_eq_true rfl) (fun p e s m below meth c A C _ => r_weak (lSub_s (lSub_s (lSub_n (lSub_n (lSub_n lSub_e))))) (N_X0_placeOf_0 C a k S p0 q  hm ⟨rfl, rfl⟩))
theorem g_X0_65 : GoodIn GW (wsV RX0 65 RX5 yX5_put (wsG yX5_put cX5_put 3 none)) := gw_V wm_1_233 wm_1_234 wm_1_235 wm_1_3 wm_1_236
-- ShardGuard$Fleet.takeDown(I)V
set_option maxHeartbeats 8000000 in
theorem hp_X0_takeDown_0 (E : ENV) (a : Nat → Nat) (S : Nat → Nat → Int32) : ([3, 4] : List Nat).map (fun i => (wFl E a S)[i]?) = (wRow E (fun i => a (i + 3)) 12 (S 2)).map some := rfl
set_option maxHeartbeats 8000000 in
theorem pw_X0_takeDown_0 (E : ENV) (a : Nat → Nat) (S : Nat → Nat → Int32) (X0 : Nat → Int32) : putW (wFl E a S) [3, 4] (wRow E (fun i => a (i + 3)) 12 X0) = some (wFl E a (va_up S 2 X0)) := rfl
theorem dX0_takeDown_0 : decode cX0_takeDown 0 = .ok (.aload_n 0, 1) := by decide +kernel
theorem dX0_takeDown_1 : decode cX0_takeDown 1 = .ok (.dup, 1) := by decide +kernel
theorem dX0_takeDown_2 : decode cX0_takeDown 2 = .ok (.getfield 62, 3) := by decide +kernel
theorem dX0_takeDown_5 : decode cX0_takeDown 5 = .ok (.iconst 1, 1) := by decide +kernel
theorem dX0_takeDown_6 : decode cX0_takeDown 6 = .ok (.iload_n 1, 1) := by decide +kernel
theorem dX0_takeDown_7 : decode cX0_takeDown 7 = .ok (.ishl, 1) := by decide +kernel
theorem dX0_takeDown_8 : decode cX0_takeDown 8 = .ok (.iconst (-1), 1) := by decide +kernel
theorem dX0_takeDown_9 : decode cX0_takeDown 9 = .ok (.ixor, 1) := by decide +kernel
theorem dX0_takeDown_10 : decode cX0_takeDown 10 = .ok (.iand, 1) := by decide +kernel
theorem dX0_takeDown_11 : decode cX0_takeDown 11 = .ok (.putfield 62, 3) := by decide +kernel
theorem dX0_takeDown_14 : decode cX0_takeDown 14 = .ok (.aload_n 0, 1) := by decide +kernel
theorem dX0_takeDown_15 : decode cX0_takeDown 15 = .ok (.getfield 20, 3) := by decide +kernel
theorem dX0_takeDown_18 : decode cX0_takeDown 18 = .ok (.iload_n 1, 1) := by decide +kernel
theorem dX0_takeDown_19 : decode cX0_takeDown 19 = .ok (.aload_n 0, 1) := by decide +kernel
theorem dX0_takeDown_20 : decode cX0_takeDown 20 = .ok (.getfield 55, 3) := by decide +kernel
theorem dX0_takeDown_23 : decode cX0_takeDown 23 = .ok (.aload_n 0, 1) := by decide +kernel
theorem dX0_takeDown_24 : decode cX0_takeDown 24 = .ok (.getfield 14, 3) := by decide +kernel
theorem dX0_takeDown_27 : decode cX0_takeDown 27 = .ok (.iconst 0, 1) := by decide +kernel
theorem dX0_takeDown_28 : decode cX0_takeDown 28 = .ok (.invokevirtual 122, 3) := by decide +kernel
theorem dX0_takeDown_31 : decode cX0_takeDown 31 = .ok (.iadd, 1) := by decide +kernel
theorem dX0_takeDown_32 : decode cX0_takeDown 32 = .ok (.invokevirtual 65, 3) := by decide +kernel
theorem dX0_takeDown_35 : decode cX0_takeDown 35 = .ok (.return_, 1) := by decide +kernel
def rm_X0_takeDown : Room := { frames := 1, cells := 0, slots := 0, locals := 22 }
def M_X0_takeDown_0 (k : Nat) (p0 : Int32) (S : Nat → Nat → Int32) : Option ((Nat → Nat → Int32)) := lt (va_up S 0 (upd (S 0) 5 ((S 0 5) &&& (((1 : Int32) <<< (p0 &&& 31)) ^^^ (-1 : Int32))))) fun F1 => (M_X5_at k 5 (F1 1) (0 : Int32)).bind fun q2 => (M_X5_put k 12 (F1 2) p0 ((F1 0 4) + q2)).bind fun q3 => lt (va_up F1 2 q3) fun F4 => some F4
set_option maxRecDepth 100000 in
set_option maxHeartbeats 4000000 in
theorem N_X0_takeDown_0 (C : CX E p l s m args meth c cX0_takeDown 2 RX0 none A) (a : Nat → Nat) (k : Nat) {post : va_W → Prop} :
    ∀ (p0 : Int32) (S : Nat → Nat → Int32) (q : (Nat → Nat → Int32)), M_X0_takeDown_0 k p0 S = some q → post (wFl E a q) →
      WW E p l e rm_X0_takeDown s m args below meth c A 0 0 (QV E below post args s rm_X0_takeDown A) (wFl E a S) 2 [some (.ref (a 0)), some (.int p0)] 0 [] := by
  intro p0 S q  h hq
  unfold M_X0_takeDown_0 at h
  refine r_aload_n (pc := 0) C (i := 0) dX0_takeDown_0 rfl rfl ?_
  refine r_dup (pc := 1) C dX0_takeDown_1 rfl ?_
  refine r_get (pc := 2) C gwX0 0 rfl rfl 5 (by decide) wm_1_106 rfl dX0_takeDown_2 ?_
  refine r_iconst (pc := 5) C (v := 1) dX0_takeDown_5 (by decide) ?_
  refine r_iload_n (pc := 6) C (i := 1) dX0_takeDown_6 rfl rfl ?_
  refine r_ishl (pc := 7) C dX0_takeDown_7 ?_
  refine r_iconst (pc := 8) C (v := (-1)) dX0_takeDown_8 (by decide) ?_
  refine r_ixor (pc := 9) C dX0_takeDown_9 ?_
  refine r_iand (pc := 10) C dX0_takeDown_10 ?_
  obtain ⟨F1, hF1, h⟩ := lt_e h
  refine r_put (pc := 11) C gwX0 tyX0 tyX0_ok nmX0 0 rfl rfl 5 (by decide) wm_1_106 rfl rfl rfl rfl (Nat.le_of_ble_eq_true rfl) (w' := (wFl E a F1)) (by rw [hF1]; rfl) dX0_takeDown_11 ?_
  refine r_aload_n (pc := 14) C (i := 0) dX0_takeDown_14 rfl rfl ?_
  refine r_get (pc := 15) C gwX0 0 rfl rfl 7 (by decide) wm_1_111 rfl dX0_takeDown_15 ?_
  refine r_iload_n (pc := 18) C (i := 1) dX0_takeDown_18 rfl rfl ?_
  refine r_aload_n (pc := 19) C (i := 0) dX0_takeDown_19 rfl rfl ?_
  refine r_get (pc := 20) C gwX0 0 rfl rfl 4 (by decide) wm_1_104 rfl dX0_takeDown_20 ?_
  refine r_aload_n (pc := 23) C (i := 0) dX0_takeDown_23 rfl rfl ?_
  refine r_get (pc := 24) C gwX0 0 rfl rfl 6 (by decide) wm_1_108 rfl dX0_takeDown_24 ?_
  refine r_iconst (pc := 27) C (v := 0) dX0_takeDown_27 (by decide) ?_
  obtain ⟨q2, hq2, h⟩ := bnd h
  refine r_callVp_CI (Cn := RX5) (pc := 28) C [.int (0 : Int32)] (c_X5_at E l k (fun i => a (i + 1)) 5 (F1 1) (0 : Int32) hq2) [1, 2] (hp_X0_countedKills_0 E a F1) (by decide) 0 rfl rfl rfl g_X0_122 hd_X5_at ⟨Nat.le_of_ble_eq_true rfl, Nat.le_of_ble_eq_true rfl⟩ ⟨Nat.zero_le _, Nat.zero_le _⟩ (Nat.le_of_ble_eq_true rfl) rfl dX0_takeDown_28 (fun r hr => ?_)
  have hr := hr.symm
  subst hr
  refine r_iadd (pc := 31) C dX0_takeDown_31 ?_
  obtain ⟨q3, hq3, h⟩ := bnd h
  obtain ⟨F4, hF4, h⟩ := lt_e h
  refine r_callV_CV (Cn := RX5) (pc := 32) C [.int p0, .int ((F1 0 4) + q2)] (c_X5_put E l k (fun i => a (i + 3)) 12 (F1 2) p0 ((F1 0 4) + q2) hq3) [3, 4] (hp_X0_takeDown_0 E a F1) (by decide) 0 rfl rfl rfl g_X0_65 hd_X5_put ⟨Nat.le_of_ble_eq_true rfl, Nat.le_of_ble_eq_true rfl⟩ ⟨Nat.zero_le _, Nat.zero_le _⟩ (Nat.le_of_ble_eq_true rfl) rfl dX0_takeDown_32 (fun w1 hw1 => ?_)
  subst hw1
  refine ⟨(wFl E a F4), by rw [hF4]; exact (pw_X0_takeDown_0 E a F1 q3), ?_⟩
  cases h
  exact r_vret (pc := 35) C hq (Nat.zero_le _) (Nat.zero_le _) dX0_takeDown_35
def M_X0_takeDown (k : Nat) (S : Nat → Nat → Int32) (p0 : Int32) : Option ((Nat → Nat → Int32)) := M_X0_takeDown_0 k p0 S
set_option maxRecDepth 100000 in
set_option maxHeartbeats 4000000 in
theorem c_X0_takeDown (E : ENV) (l : Launch) (k : Nat) (a : Nat → Nat) (S : Nat → Nat → Int32) (p0 : Int32) {q : (Nat → Nat → Int32)} (hm : M_X0_takeDown k S p0 = some q) : CV E l yX0_takeDown cX0_takeDown 2 none rm_X0_takeDown [.ref (a 0), .int p0] (wFl E a S) (fun w' => w' = (wFl E a q)) :=
  CV.of 0 (by decide) (Nat.le_of_ble_eq_true rfl) (fun p e s m below meth c A C _ => r_weak (lSub_s (lSub_s lSub_e)) (N_X0_takeDown_0 C a k p0 S q  hm rfl))
-- ShardGuard$Fleet.endQuarantines()V
theorem dX0_endQuarantines_0 : decode cX0_endQuarantines 0 = .ok (.iconst 0, 1) := by decide +kernel
theorem dX0_endQuarantines_1 : decode cX0_endQuarantines 1 = .ok (.istore_n 1, 1) := by decide +kernel
theorem dX0_endQuarantines_2 : decode cX0_endQuarantines 2 = .ok (.iload_n 1, 1) := by decide +kernel
theorem dX0_endQuarantines_3 : decode cX0_endQuarantines 3 = .ok (.aload_n 0, 1) := by decide +kernel
theorem dX0_endQuarantines_4 : decode cX0_endQuarantines 4 = .ok (.getfield 52, 3) := by decide +kernel
theorem dX0_endQuarantines_7 : decode cX0_endQuarantines 7 = .ok (.if_icmp .ge 35, 3) := by decide +kernel
theorem dX0_endQuarantines_10 : decode cX0_endQuarantines 10 = .ok (.aload_n 0, 1) := by decide +kernel
theorem dX0_endQuarantines_11 : decode cX0_endQuarantines 11 = .ok (.getfield 28, 3) := by decide +kernel
theorem dX0_endQuarantines_14 : decode cX0_endQuarantines 14 = .ok (.iload_n 1, 1) := by decide +kernel
theorem dX0_endQuarantines_15 : decode cX0_endQuarantines 15 = .ok (.iconst 1, 1) := by decide +kernel
theorem dX0_endQuarantines_16 : decode cX0_endQuarantines 16 = .ok (.invokevirtual 111, 3) := by decide +kernel
theorem dX0_endQuarantines_19 : decode cX0_endQuarantines 19 = .ok (.aload_n 0, 1) := by decide +kernel
theorem dX0_endQuarantines_20 : decode cX0_endQuarantines 20 = .ok (.getfield 55, 3) := by decide +kernel
theorem dX0_endQuarantines_23 : decode cX0_endQuarantines 23 = .ok (.if_icmp .ne 13, 3) := by decide +kernel
theorem dX0_endQuarantines_26 : decode cX0_endQuarantines 26 = .ok (.aload_n 0, 1) := by decide +kernel
theorem dX0_endQuarantines_27 : decode cX0_endQuarantines 27 = .ok (.getfield 28, 3) := by decide +kernel
theorem dX0_endQuarantines_30 : decode cX0_endQuarantines 30 = .ok (.iload_n 1, 1) := by decide +kernel
theorem dX0_endQuarantines_31 : decode cX0_endQuarantines 31 = .ok (.iconst 1, 1) := by decide +kernel
theorem dX0_endQuarantines_32 : decode cX0_endQuarantines 32 = .ok (.iconst (-1), 1) := by decide +kernel
theorem dX0_endQuarantines_33 : decode cX0_endQuarantines 33 = .ok (.invokevirtual 84, 3) := by decide +kernel
theorem dX0_endQuarantines_36 : decode cX0_endQuarantines 36 = .ok (.iinc 1 1, 3) := by decide +kernel
theorem dX0_endQuarantines_39 : decode cX0_endQuarantines 39 = .ok (.goto (-37), 3) := by decide +kernel
theorem dX0_endQuarantines_42 : decode cX0_endQuarantines 42 = .ok (.return_, 1) := by decide +kernel
def rm_X0_endQuarantines : Room := { frames := 1, cells := 0, slots := 0, locals := 25 }
def M_X0_endQuarantines_2 (k : Nat) : Nat → (Int32) → (Nat → Nat → Int32) → Option ((Nat → Nat → Int32))
  | 0, _, _ => none
  | n + 1, x1, S => if (S 0 2) ≤ x1 then (some S) else ((M_X6_at k 12 3 36 (S 3) x1 (1 : Int32)).bind fun q2 => if q2 = (S 0 4) then ((M_X6_put k 12 3 36 (S 3) x1 (1 : Int32) (-1 : Int32)).bind fun q4 => lt (va_up S 3 q4) fun F5 => M_X0_endQuarantines_2 k n (x1 + 1) F5) else (M_X0_endQuarantines_2 k n (x1 + 1) S))
theorem M_X0_endQuarantines_2_s (k : Nat) (n : Nat) (x1 : Int32) (S : Nat → Nat → Int32) : M_X0_endQuarantines_2 k (n + 1) x1 S = (if (S 0 2) ≤ x1 then (some S) else ((M_X6_at k 12 3 36 (S 3) x1 (1 : Int32)).bind fun q2 => if q2 = (S 0 4) then ((M_X6_put k 12 3 36 (S 3) x1 (1 : Int32) (-1 : Int32)).bind fun q4 => lt (va_up S 3 q4) fun F5 => M_X0_endQuarantines_2 k n (x1 + 1) F5) else (M_X0_endQuarantines_2 k n (x1 + 1) S))) := rfl
set_option maxRecDepth 100000 in
set_option maxHeartbeats 4000000 in
theorem N_X0_endQuarantines_2 (C : CX E p l s m args meth c cX0_endQuarantines 2 RX0 none A) (a : Nat → Nat) (k : Nat) {post : va_W → Prop} :
    ∀ (n : Nat) (x1 : Int32) (S : Nat → Nat → Int32) (q : (Nat → Nat → Int32)), M_X0_endQuarantines_2 k n x1 S = some q → post (wFl E a q) →
      WW E p l e rm_X0_endQuarantines s m args below meth c A 0 0 (QV E below post args s rm_X0_endQuarantines A) (wFl E a S) 2 [some (.ref (a 0)), some (.int x1)] 2 [] := by
  intro n
  induction n with
  | zero => intro x1 S q  h _; cases h
  | succ n ih =>
    intro x1 S q  h hq
    rw [M_X0_endQuarantines_2_s] at h
    refine r_iload_n (pc := 2) C (i := 1) dX0_endQuarantines_2 rfl rfl ?_
    refine r_aload_n (pc := 3) C (i := 0) dX0_endQuarantines_3 rfl rfl ?_
    refine r_get (pc := 4) C gwX0 0 rfl rfl 2 (by decide) wm_1_98 rfl dX0_endQuarantines_4 ?_
    refine r_icmp_ge (pc := 7) C (tgt := 42) dX0_endQuarantines_7 rfl (fun c1 => ?_) (fun c1 => ?_)
    · rw [if_pos c1] at h
      cases h
      exact r_vret (pc := 42) C hq (Nat.zero_le _) (Nat.zero_le _) dX0_endQuarantines_42
    · rw [if_neg c1] at h
      refine r_aload_n (pc := 10) C (i := 0) dX0_endQuarantines_10 rfl rfl ?_
      refine r_get (pc := 11) C gwX0 0 rfl rfl 8 (by decide) wm_1_113 rfl dX0_endQuarantines_11 ?_
      refine r_iload_n (pc := 14) C (i := 1) dX0_endQuarantines_14 rfl rfl ?_
      refine r_iconst (pc := 15) C (v := 1) dX0_endQuarantines_15 (by decide) ?_
      obtain ⟨q2, hq2, h⟩ := bnd h
      refine r_callVp_CI (Cn := RX6) (pc := 16) C [.int x1, .int (1 : Int32)] (c_X6_at E l k (fun i => a (i + 5)) 12 3 36 (S 3) x1 (1 : Int32) hq2) [5, 6] (hp_X0_forgetRequests_0 E a S) (by decide) 0 rfl rfl rfl g_X0_111 hd_X6_at ⟨Nat.le_of_ble_eq_true rfl, Nat.le_of_ble_eq_true rfl⟩ ⟨Nat.zero_le _, Nat.zero_le _⟩ (Nat.le_of_ble_eq_true rfl) rfl dX0_endQuarantines_16 (fun r hr => ?_)
      have hr := hr.symm
      subst hr
      refine r_aload_n (pc := 19) C (i := 0) dX0_endQuarantines_19 rfl rfl ?_
      refine r_get (pc := 20) C gwX0 0 rfl rfl 4 (by decide) wm_1_104 rfl dX0_endQuarantines_20 ?_
      refine r_icmp_ne (pc := 23) C (tgt := 36) dX0_endQuarantines_23 rfl (fun c3 => ?_) (fun c3 => ?_)
      · rw [if_neg c3] at h
        refine r_iinc (pc := 36) C (v := (x1 + 1)) dX0_endQuarantines_36 rfl rfl (by decide) rfl ?_
        refine r_goto (pc := 39) C (tgt := 2) dX0_endQuarantines_39 rfl ?_
        refine r_weak (lSub_s (lSub_s lSub_e)) ?_
        exact ih (x1 + 1) S q  h hq
      · rw [if_pos c3] at h
        refine r_aload_n (pc := 26) C (i := 0) dX0_endQuarantines_26 rfl rfl ?_
        refine r_get (pc := 27) C gwX0 0 rfl rfl 8 (by decide) wm_1_113 rfl dX0_endQuarantines_27 ?_
        refine r_iload_n (pc := 30) C (i := 1) dX0_endQuarantines_30 rfl rfl ?_
        refine r_iconst (pc := 31) C (v := 1) dX0_endQuarantines_31 (by decide) ?_
        refine r_iconst (pc := 32) C (v := (-1)) dX0_endQuarantines_32 (by decide) ?_
        obtain ⟨q4, hq4, h⟩ := bnd h
        obtain ⟨F5, hF5, h⟩ := lt_e h
        refine r_callV_CV (Cn := RX6) (pc := 33) C [.int x1, .int (1 : Int32), .int (-1 : Int32)] (c_X6_put E l k (fun i => a (i + 5)) 12 3 36 (S 3) x1 (1 : Int32) (-1 : Int32) hq4) [5, 6] (hp_X0_forgetRequests_0 E a S) (by decide) 0 rfl rfl rfl g_X0_84 hd_X6_put ⟨Nat.le_of_ble_eq_true rfl, Nat.le_of_ble_eq_true rfl⟩ ⟨Nat.zero_le _, Nat.zero_le _⟩ (Nat.le_of_ble_eq_true rfl) rfl dX0_endQuarantines_33 (fun w1 hw1 => ?_)
        subst hw1
        refine ⟨(wFl E a F5), by rw [hF5]; exact (pw_X0_forgetRequests_0 E a S q4), ?_⟩
        refine r_iinc (pc := 36) C (v := (x1 + 1)) dX0_endQuarantines_36 rfl rfl (by decide) rfl ?_
        refine r_goto (pc := 39) C (tgt := 2) dX0_endQuarantines_39 rfl ?_
        refine r_weak (lSub_s (lSub_s lSub_e)) ?_
        exact ih (x1 + 1) F5 q  h hq
def M_X0_endQuarantines_0 (k : Nat) (S : Nat → Nat → Int32) : Option ((Nat → Nat → Int32)) := M_X0_endQuarantines_2 k k (0 : Int32) S
set_option maxRecDepth 100000 in
set_option maxHeartbeats 4000000 in
theorem N_X0_endQuarantines_0 (C : CX E p l s m args meth c cX0_endQuarantines 2 RX0 none A) (a : Nat → Nat) (k : Nat) {post : va_W → Prop} :
    ∀ (S : Nat → Nat → Int32) (q : (Nat → Nat → Int32)), M_X0_endQuarantines_0 k S = some q → post (wFl E a q) →
      WW E p l e rm_X0_endQuarantines s m args below meth c A 0 0 (QV E below post args s rm_X0_endQuarantines A) (wFl E a S) 2 [some (.ref (a 0)), none] 0 [] := by
  intro S q  h hq
  unfold M_X0_endQuarantines_0 at h
  refine r_iconst (pc := 0) C (v := 0) dX0_endQuarantines_0 (by decide) ?_
  refine r_istore_n (pc := 1) C (i := 1) dX0_endQuarantines_1 rfl (by decide) rfl ?_
  refine r_weak (lSub_s (lSub_s lSub_e)) ?_
  exact N_X0_endQuarantines_2 C a k k (0 : Int32) S q  h hq
def M_X0_endQuarantines (k : Nat) (S : Nat → Nat → Int32) : Option ((Nat → Nat → Int32)) := M_X0_endQuarantines_0 k S
set_option maxRecDepth 100000 in
set_option maxHeartbeats 4000000 in
theorem c_X0_endQuarantines (E : ENV) (l : Launch) (k : Nat) (a : Nat → Nat) (S : Nat → Nat → Int32) {q : (Nat → Nat → Int32)} (hm : M_X0_endQuarantines k S = some q) : CV E l yX0_endQuarantines cX0_endQuarantines 2 none rm_X0_endQuarantines [.ref (a 0)] (wFl E a S) (fun w' => w' = (wFl E a q)) :=
  CV.of 1 (by decide) (Nat.le_of_ble_eq_true rfl) (fun p e s m below meth c A C _ => r_weak (lSub_s (lSub_n lSub_e)) (N_X0_endQuarantines_0 C a k S q  hm rfl))
-- ShardGuard$Fleet.end(II)V
set_option maxHeartbeats 8000000 in
theorem pw_X0_addRequest_0 (E : ENV) (a : Nat → Nat) (S : Nat → Nat → Int32) (X0 : Nat → Int32) : putW (wFl E a S) [7, 8] (wTab E (fun i => a (i + 7)) 60 8 480 X0) = some (wFl E a (va_up S 4 X0)) := rfl
theorem dX0_end_0 : decode cX0_end 0 = .ok (.aload_n 0, 1) := by decide +kernel
theorem dX0_end_1 : decode cX0_end 1 = .ok (.getfield 32, 3) := by decide +kernel
theorem dX0_end_4 : decode cX0_end 4 = .ok (.iload_n 1, 1) := by decide +kernel
theorem dX0_end_5 : decode cX0_end 5 = .ok (.iconst 4, 1) := by decide +kernel
theorem dX0_end_6 : decode cX0_end 6 = .ok (.iload_n 2, 1) := by decide +kernel
theorem dX0_end_7 : decode cX0_end 7 = .ok (.invokevirtual 84, 3) := by decide +kernel
theorem dX0_end_10 : decode cX0_end 10 = .ok (.aload_n 0, 1) := by decide +kernel
theorem dX0_end_11 : decode cX0_end 11 = .ok (.getfield 32, 3) := by decide +kernel
theorem dX0_end_14 : decode cX0_end 14 = .ok (.iload_n 1, 1) := by decide +kernel
theorem dX0_end_15 : decode cX0_end 15 = .ok (.bipush 6, 2) := by decide +kernel
theorem dX0_end_17 : decode cX0_end 17 = .ok (.iconst (-1), 1) := by decide +kernel
theorem dX0_end_18 : decode cX0_end 18 = .ok (.invokevirtual 84, 3) := by decide +kernel
theorem dX0_end_21 : decode cX0_end 21 = .ok (.aload_n 0, 1) := by decide +kernel
theorem dX0_end_22 : decode cX0_end 22 = .ok (.getfield 32, 3) := by decide +kernel
theorem dX0_end_25 : decode cX0_end 25 = .ok (.iload_n 1, 1) := by decide +kernel
theorem dX0_end_26 : decode cX0_end 26 = .ok (.bipush 7, 2) := by decide +kernel
theorem dX0_end_28 : decode cX0_end 28 = .ok (.aload_n 0, 1) := by decide +kernel
theorem dX0_end_29 : decode cX0_end 29 = .ok (.getfield 55, 3) := by decide +kernel
theorem dX0_end_32 : decode cX0_end 32 = .ok (.invokevirtual 84, 3) := by decide +kernel
theorem dX0_end_35 : decode cX0_end 35 = .ok (.return_, 1) := by decide +kernel
def rm_X0_end : Room := { frames := 1, cells := 0, slots := 0, locals := 25 }
def M_X0_end_0 (k : Nat) (p0 : Int32) (p1 : Int32) (S : Nat → Nat → Int32) : Option ((Nat → Nat → Int32)) := (M_X6_put k 60 8 480 (S 4) p0 (4 : Int32) p1).bind fun q1 => lt (va_up S 4 q1) fun F2 => (M_X6_put k 60 8 480 (F2 4) p0 (6 : Int32) (-1 : Int32)).bind fun q3 => lt (va_up F2 4 q3) fun F4 => (M_X6_put k 60 8 480 (F4 4) p0 (7 : Int32) (F4 0 4)).bind fun q5 => lt (va_up F4 4 q5) fun F6 => some F6
set_option maxRecDepth 100000 in
set_option maxHeartbeats 4000000 in
theorem N_X0_end_0 (C : CX E p l s m args meth c cX0_end 3 RX0 none A) (a : Nat → Nat) (k : Nat) {post : va_W → Prop} :
    ∀ (p0 : Int32) (p1 : Int32) (S : Nat → Nat → Int32) (q : (Nat → Nat → Int32)), M_X0_end_0 k p0 p1 S = some q → post (wFl E a q) →
      WW E p l e rm_X0_end s m args below meth c A 0 0 (QV E below post args s rm_X0_end A) (wFl E a S) 3 [some (.ref (a 0)), some (.int p0), some (.int p1)] 0 [] := by
  intro p0 p1 S q  h hq
  unfold M_X0_end_0 at h
  refine r_aload_n (pc := 0) C (i := 0) dX0_end_0 rfl rfl ?_
  refine r_get (pc := 1) C gwX0 0 rfl rfl 9 (by decide) wm_1_115 rfl dX0_end_1 ?_
  refine r_iload_n (pc := 4) C (i := 1) dX0_end_4 rfl rfl ?_
  refine r_iconst (pc := 5) C (v := 4) dX0_end_5 (by decide) ?_
  refine r_iload_n (pc := 6) C (i := 2) dX0_end_6 rfl rfl ?_
  obtain ⟨q1, hq1, h⟩ := bnd h
  obtain ⟨F2, hF2, h⟩ := lt_e h
  refine r_callV_CV (Cn := RX6) (pc := 7) C [.int p0, .int (4 : Int32), .int p1] (c_X6_put E l k (fun i => a (i + 7)) 60 8 480 (S 4) p0 (4 : Int32) p1 hq1) [7, 8] (hp_X0_addRequest_0 E a S) (by decide) 0 rfl rfl rfl g_X0_84 hd_X6_put ⟨Nat.le_of_ble_eq_true rfl, Nat.le_of_ble_eq_true rfl⟩ ⟨Nat.zero_le _, Nat.zero_le _⟩ (Nat.le_of_ble_eq_true rfl) rfl dX0_end_7 (fun w1 hw1 => ?_)
  subst hw1
  refine ⟨(wFl E a F2), by rw [hF2]; exact (pw_X0_addRequest_0 E a S q1), ?_⟩
  refine r_aload_n (pc := 10) C (i := 0) dX0_end_10 rfl rfl ?_
  refine r_get (pc := 11) C gwX0 0 rfl rfl 9 (by decide) wm_1_115 rfl dX0_end_11 ?_
  refine r_iload_n (pc := 14) C (i := 1) dX0_end_14 rfl rfl ?_
  refine r_bipush (pc := 15) C (v := 6) dX0_end_15 (by decide) ?_
  refine r_iconst (pc := 17) C (v := (-1)) dX0_end_17 (by decide) ?_
  obtain ⟨q3, hq3, h⟩ := bnd h
  obtain ⟨F4, hF4, h⟩ := lt_e h
  refine r_callV_CV (Cn := RX6) (pc := 18) C [.int p0, .int (6 : Int32), .int (-1 : Int32)] (c_X6_put E l k (fun i => a (i + 7)) 60 8 480 (F2 4) p0 (6 : Int32) (-1 : Int32) hq3) [7, 8] (hp_X0_addRequest_0 E a F2) (by decide) 0 rfl rfl rfl g_X0_84 hd_X6_put ⟨Nat.le_of_ble_eq_true rfl, Nat.le_of_ble_eq_true rfl⟩ ⟨Nat.zero_le _, Nat.zero_le _⟩ (Nat.le_of_ble_eq_true rfl) rfl dX0_end_18 (fun w1 hw1 => ?_)
  subst hw1
  refine ⟨(wFl E a F4), by rw [hF4]; exact (pw_X0_addRequest_0 E a F2 q3), ?_⟩
  refine r_aload_n (pc := 21) C (i := 0) dX0_end_21 rfl rfl ?_
  refine r_get (pc := 22) C gwX0 0 rfl rfl 9 (by decide) wm_1_115 rfl dX0_end_22 ?_
  refine r_iload_n (pc := 25) C (i := 1) dX0_end_25 rfl rfl ?_
  refine r_bipush (pc := 26) C (v := 7) dX0_end_26 (by decide) ?_
  refine r_aload_n (pc := 28) C (i := 0) dX0_end_28 rfl rfl ?_
  refine r_get (pc := 29) C gwX0 0 rfl rfl 4 (by decide) wm_1_104 rfl dX0_end_29 ?_
  obtain ⟨q5, hq5, h⟩ := bnd h
  obtain ⟨F6, hF6, h⟩ := lt_e h
  refine r_callV_CV (Cn := RX6) (pc := 32) C [.int p0, .int (7 : Int32), .int (F4 0 4)] (c_X6_put E l k (fun i => a (i + 7)) 60 8 480 (F4 4) p0 (7 : Int32) (F4 0 4) hq5) [7, 8] (hp_X0_addRequest_0 E a F4) (by decide) 0 rfl rfl rfl g_X0_84 hd_X6_put ⟨Nat.le_of_ble_eq_true rfl, Nat.le_of_ble_eq_true rfl⟩ ⟨Nat.zero_le _, Nat.zero_le _⟩ (Nat.le_of_ble_eq_true rfl) rfl dX0_end_32 (fun w1 hw1 => ?_)
  subst hw1
  refine ⟨(wFl E a F6), by rw [hF6]; exact (pw_X0_addRequest_0 E a F4 q5), ?_⟩
  cases h
  exact r_vret (pc := 35) C hq (Nat.zero_le _) (Nat.zero_le _) dX0_end_35
def M_X0_end (k : Nat) (S : Nat → Nat → Int32) (p0 : Int32) (p1 : Int32) : Option ((Nat → Nat → Int32)) := M_X0_end_0 k p0 p1 S
set_option maxRecDepth 100000 in
set_option maxHeartbeats 4000000 in
theorem c_X0_end (E : ENV) (l : Launch) (k : Nat) (a : Nat → Nat) (S : Nat → Nat → Int32) (p0 : Int32) (p1 : Int32) {q : (Nat → Nat → Int32)} (hm : M_X0_end k S p0 p1 = some q) : CV E l yX0_end cX0_end 3 none rm_X0_end [.ref (a 0), .int p0, .int p1] (wFl E a S) (fun w' => w' = (wFl E a q)) :=
  CV.of 0 (by decide) (Nat.le_of_ble_eq_true rfl) (fun p e s m below meth c A C _ => r_weak (lSub_s (lSub_s (lSub_s lSub_e))) (N_X0_end_0 C a k p0 p1 S q  hm rfl))
end WALKS
