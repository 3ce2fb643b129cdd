section WALKS
variable {E : ENV} {p : Program} {l : Launch} {e : Env} {s : State} {m : MethodId} {args : Array Value} {below : List Frame} {meth : Method} {c : Code} {A : Nat → Prop}
theorem g_X9_185 : GoodIn GW (wsV RX9 185 RX6 yX6_at (wsG yX6_at cX6_at 5 (some .int))) := gw_V wm_4_37 wm_2_59 wm_2_60 wm_1_4 wm_2_61
-- ShardGuard.request(II)I
set_option maxHeartbeats 8000000 in
theorem hp_X9_request_0 (E : ENV) (a : Nat → Nat) (S : VV × VV × VV × VV × VV × Int32) : ([8, 9] : List Nat).map (fun i => (wSg E a S)[i]?) = (wTab E (fun i => a (i + 8)) 60 8 480 ((S.1) 4)).map some := rfl
theorem dX9_request_0 : decode cX9_request 0 = .ok (.iload_n 1, 1) := by decide +kernel
theorem dX9_request_1 : decode cX9_request 1 = .ok (.ifCond .lt 14, 3) := by decide +kernel
theorem dX9_request_4 : decode cX9_request 4 = .ok (.iload_n 1, 1) := by decide +kernel
theorem dX9_request_5 : decode cX9_request 5 = .ok (.aload_n 0, 1) := by decide +kernel
theorem dX9_request_6 : decode cX9_request 6 = .ok (.getfield 12, 3) := by decide +kernel
theorem dX9_request_9 : decode cX9_request 9 = .ok (.getfield 100, 3) := by decide +kernel
theorem dX9_request_12 : decode cX9_request 12 = .ok (.if_icmp .lt 13, 3) := by decide +kernel
theorem dX9_request_15 : decode cX9_request 15 = .ok (.new 134, 3) := by decide +kernel
theorem dX9_request_18 : decode cX9_request 18 = .ok (.dup, 1) := by decide +kernel
theorem dX9_request_19 : decode cX9_request 19 = .ok (.ldc 206, 2) := by decide +kernel
theorem dX9_request_21 : decode cX9_request 21 = .ok (.invokespecial 138, 3) := by decide +kernel
theorem dX9_request_24 : decode cX9_request 24 = .ok (.athrow, 1) := by decide +kernel
theorem dX9_request_25 : decode cX9_request 25 = .ok (.iload_n 2, 1) := by decide +kernel
theorem dX9_request_26 : decode cX9_request 26 = .ok (.ifCond .lt 9, 3) := by decide +kernel
theorem dX9_request_29 : decode cX9_request 29 = .ok (.iload_n 2, 1) := by decide +kernel
theorem dX9_request_30 : decode cX9_request 30 = .ok (.bipush 8, 2) := by decide +kernel
theorem dX9_request_32 : decode cX9_request 32 = .ok (.if_icmp .lt 13, 3) := by decide +kernel
theorem dX9_request_35 : decode cX9_request 35 = .ok (.new 134, 3) := by decide +kernel
theorem dX9_request_38 : decode cX9_request 38 = .ok (.dup, 1) := by decide +kernel
theorem dX9_request_39 : decode cX9_request 39 = .ok (.ldc 208, 2) := by decide +kernel
theorem dX9_request_41 : decode cX9_request 41 = .ok (.invokespecial 138, 3) := by decide +kernel
theorem dX9_request_44 : decode cX9_request 44 = .ok (.athrow, 1) := by decide +kernel
theorem dX9_request_45 : decode cX9_request 45 = .ok (.aload_n 0, 1) := by decide +kernel
theorem dX9_request_46 : decode cX9_request 46 = .ok (.getfield 12, 3) := by decide +kernel
theorem dX9_request_49 : decode cX9_request 49 = .ok (.getfield 210, 3) := by decide +kernel
theorem dX9_request_52 : decode cX9_request 52 = .ok (.iload_n 1, 1) := by decide +kernel
theorem dX9_request_53 : decode cX9_request 53 = .ok (.iload_n 2, 1) := by decide +kernel
theorem dX9_request_54 : decode cX9_request 54 = .ok (.invokevirtual 185, 3) := by decide +kernel
theorem dX9_request_57 : decode cX9_request 57 = .ok (.ireturn, 1) := by decide +kernel
def rm_X9_request : Room := { frames := 6, cells := 1, slots := 6, locals := 100 }
def M_X9_request_0 (k : Nat) (S : VV × VV × VV × VV × VV × Int32) (p0 : Int32) (p1 : Int32) : Option (Int32 × Int32) := if p0 < 0 then (some ((1 : Int32), (0 : Int32))) else (if p0 < ((S.1) 0 3) then (if p1 < 0 then (some ((1 : Int32), (0 : Int32))) else (if p1 < (8 : Int32) then ((M_X6_at k 60 8 480 ((S.1) 4) p0 p1).bind fun q5 => some ((0 : Int32), q5)) else (some ((1 : Int32), (0 : Int32))))) else (some ((1 : Int32), (0 : Int32))))
set_option maxRecDepth 100000 in
set_option maxHeartbeats 4000000 in
theorem N_X9_request_0 (C : CX E p l s m args meth c cX9_request 3 RX9 (some .int) A) (a : Nat → Nat) (k : Nat) (S : VV × VV × VV × VV × VV × Int32) {post : Int32 → va_W → Prop} {px : Int32 → va_W → Prop} (hlt : l.stackTraces = false) (hno : ∀ x ∈ c.exceptionTable.toList, False) (hdc : DC s) :
    ∀ (p0 : Int32) (p1 : Int32) (q : Int32 × Int32), M_X9_request_0 k S p0 p1 = some q → TI post px q.1 q.2 (wSg E a S) →
      WW E p l e rm_X9_request s m args below meth c A 0 0 (QXI E below post px args s rm_X9_request A) (wSg E a S) 3 [some (.ref (a 0)), some (.int p0), some (.int p1)] 0 [] := by
  intro p0 p1 q  h hq
  unfold M_X9_request_0 at h
  refine r_iload_n (pc := 0) C (i := 1) dX9_request_0 rfl rfl ?_
  refine r_if_lt (pc := 1) C (tgt := 15) dX9_request_1 rfl (fun c1 => ?_) (fun c1 => ?_)
  · rw [if_pos c1] at h
    cases h
    exact r_throwN (pc := 15) C hlt hno hdc 18 rfl wm_3_210 wm_1_23 dX9_request_15 dX9_request_18 dX9_request_19 dX9_request_21 dX9_request_24 (Nat.le_of_ble_eq_true rfl) (Nat.le_of_ble_eq_true rfl) (Nat.le_of_ble_eq_true rfl) (Nat.le_of_ble_eq_true rfl) (Nat.le_of_ble_eq_true rfl) (TI_x (by decide) hq)
  · rw [if_neg c1] at h
    refine r_iload_n (pc := 4) C (i := 1) dX9_request_4 rfl rfl ?_
    refine r_aload_n (pc := 5) C (i := 0) dX9_request_5 rfl rfl ?_
    refine r_get (pc := 6) C gwX9 0 rfl rfl 0 (by decide) wm_2_15 rfl dX9_request_6 ?_
    refine r_get (pc := 9) C gwX0 1 rfl rfl 3 (by decide) wm_1_103 rfl dX9_request_9 ?_
    refine r_icmp_lt (pc := 12) C (tgt := 25) dX9_request_12 rfl (fun c2 => ?_) (fun c2 => ?_)
    · rw [if_pos c2] at h
      refine r_iload_n (pc := 25) C (i := 2) dX9_request_25 rfl rfl ?_
      refine r_if_lt (pc := 26) C (tgt := 35) dX9_request_26 rfl (fun c3 => ?_) (fun c3 => ?_)
      · rw [if_pos c3] at h
        cases h
        exact r_throwN (pc := 35) C hlt hno hdc 19 rfl wm_3_210 wm_1_23 dX9_request_35 dX9_request_38 dX9_request_39 dX9_request_41 dX9_request_44 (Nat.le_of_ble_eq_true rfl) (Nat.le_of_ble_eq_true rfl) (Nat.le_of_ble_eq_true rfl) (Nat.le_of_ble_eq_true rfl) (Nat.le_of_ble_eq_true rfl) (TI_x (by decide) hq)
      · rw [if_neg c3] at h
        refine r_iload_n (pc := 29) C (i := 2) dX9_request_29 rfl rfl ?_
        refine r_bipush (pc := 30) C (v := 8) dX9_request_30 (by decide) ?_
        refine r_icmp_lt (pc := 32) C (tgt := 45) dX9_request_32 rfl (fun c4 => ?_) (fun c4 => ?_)
        · rw [if_pos c4] at h
          refine r_aload_n (pc := 45) C (i := 0) dX9_request_45 rfl rfl ?_
          refine r_get (pc := 46) C gwX9 0 rfl rfl 0 (by decide) wm_2_15 rfl dX9_request_46 ?_
          refine r_get (pc := 49) C gwX0 1 rfl rfl 9 (by decide) wm_1_118 rfl dX9_request_49 ?_
          refine r_iload_n (pc := 52) C (i := 1) dX9_request_52 rfl rfl ?_
          refine r_iload_n (pc := 53) C (i := 2) dX9_request_53 rfl rfl ?_
          obtain ⟨q5, hq5, h⟩ := bnd h
          refine r_callVp_CI (Cn := RX6) (pc := 54) C [.int p0, .int p1] (c_X6_at E l k (fun i => a (i + 8)) 60 8 480 ((S.1) 4) p0 p1 hq5) [8, 9] (hp_X9_request_0 E a S) (by decide) 0 rfl rfl rfl g_X9_185 hd_X6_at ⟨Nat.le_of_ble_eq_true rfl, Nat.le_of_ble_eq_true rfl⟩ ⟨Nat.zero_le _, Nat.zero_le _⟩ (Nat.le_of_ble_eq_true rfl) rfl dX9_request_54 (fun r hr => ?_)
          have hr := hr.symm
          subst hr
          cases h
          exact r_xI (r_ireti (pc := 57) C (TI_0 hq) (Nat.zero_le _) (Nat.zero_le _) dX9_request_57)
        · rw [if_neg c4] at h
          cases h
          exact r_throwN (pc := 35) C hlt hno hdc 19 rfl wm_3_210 wm_1_23 dX9_request_35 dX9_request_38 dX9_request_39 dX9_request_41 dX9_request_44 (Nat.le_of_ble_eq_true rfl) (Nat.le_of_ble_eq_true rfl) (Nat.le_of_ble_eq_true rfl) (Nat.le_of_ble_eq_true rfl) (Nat.le_of_ble_eq_true rfl) (TI_x (by decide) hq)
    · rw [if_neg c2] at h
      cases h
      exact r_throwN (pc := 15) C hlt hno hdc 18 rfl wm_3_210 wm_1_23 dX9_request_15 dX9_request_18 dX9_request_19 dX9_request_21 dX9_request_24 (Nat.le_of_ble_eq_true rfl) (Nat.le_of_ble_eq_true rfl) (Nat.le_of_ble_eq_true rfl) (Nat.le_of_ble_eq_true rfl) (Nat.le_of_ble_eq_true rfl) (TI_x (by decide) hq)
def M_X9_request (k : Nat) (S : VV × VV × VV × VV × VV × Int32) (p0 : Int32) (p1 : Int32) : Option (Int32 × Int32) := M_X9_request_0 k S p0 p1
set_option maxRecDepth 100000 in
set_option maxHeartbeats 4000000 in
theorem c_X9_request (E : ENV) (l : Launch) (k : Nat) (a : Nat → Nat) (S : VV × VV × VV × VV × VV × Int32) (p0 : Int32) (p1 : Int32) (hlt : l.stackTraces = false) {q : Int32 × Int32} (hm : M_X9_request k S p0 p1 = some q) : XI E l yX9_request cX9_request 3 (some .int) rm_X9_request [.ref (a 0), .int p0, .int p1] (wSg E a S) (fun r w' => q.1 = 0 ∧ r = q.2 ∧ w' = (wSg E a S)) (fun cd w' => cd = q.1 ∧ ¬ q.1 = 0 ∧ w' = (wSg E a S)) :=
  XI.of 0 (by decide) (Nat.le_of_ble_eq_true rfl) (fun p e s m below meth c A C hno hdc => r_weak (lSub_s (lSub_s (lSub_s lSub_e))) (N_X9_request_0 C a k S hlt hno hdc p0 p1 q  hm (TI_of rfl)))
theorem g_X9_213 : GoodIn GW (wsV RX9 213 RX0 yX0_waitingAt (wsG yX0_waitingAt cX0_waitingAt 6 (some .int))) := gw_V wm_4_77 wm_4_78 wm_4_79 wm_1_2 wm_4_80
-- ShardGuard.parked(I)I
theorem dX9_parked_0 : decode cX9_parked 0 = .ok (.aload_n 0, 1) := by decide +kernel
theorem dX9_parked_1 : decode cX9_parked 1 = .ok (.getfield 12, 3) := by decide +kernel
theorem dX9_parked_4 : decode cX9_parked 4 = .ok (.iconst (-1), 1) := by decide +kernel
theorem dX9_parked_5 : decode cX9_parked 5 = .ok (.iload_n 1, 1) := by decide +kernel
theorem dX9_parked_6 : decode cX9_parked 6 = .ok (.invokevirtual 213, 3) := by decide +kernel
theorem dX9_parked_9 : decode cX9_parked 9 = .ok (.istore_n 2, 1) := by decide +kernel
theorem dX9_parked_10 : decode cX9_parked 10 = .ok (.iload_n 2, 1) := by decide +kernel
theorem dX9_parked_11 : decode cX9_parked 11 = .ok (.iconst (-1), 1) := by decide +kernel
theorem dX9_parked_12 : decode cX9_parked 12 = .ok (.if_icmp .ne 13, 3) := by decide +kernel
theorem dX9_parked_15 : decode cX9_parked 15 = .ok (.new 134, 3) := by decide +kernel
theorem dX9_parked_18 : decode cX9_parked 18 = .ok (.dup, 1) := by decide +kernel
theorem dX9_parked_19 : decode cX9_parked 19 = .ok (.ldc 218, 2) := by decide +kernel
theorem dX9_parked_21 : decode cX9_parked 21 = .ok (.invokespecial 138, 3) := by decide +kernel
theorem dX9_parked_24 : decode cX9_parked 24 = .ok (.athrow, 1) := by decide +kernel
theorem dX9_parked_25 : decode cX9_parked 25 = .ok (.iload_n 2, 1) := by decide +kernel
theorem dX9_parked_26 : decode cX9_parked 26 = .ok (.ireturn, 1) := by decide +kernel
def rm_X9_parked : Room := { frames := 6, cells := 1, slots := 6, locals := 100 }
def M_X9_parked_0 (k : Nat) (S : VV × VV × VV × VV × VV × Int32) (p0 : Int32) : Option (Int32 × Int32) := (M_X0_waitingAt k (S.1) (-1 : Int32) p0).bind fun q1 => if q1 = (-1 : Int32) then (some ((1 : Int32), (0 : Int32))) else (some ((0 : Int32), q1))
set_option maxRecDepth 100000 in
set_option maxHeartbeats 4000000 in
theorem N_X9_parked_0 (C : CX E p l s m args meth c cX9_parked 3 RX9 (some .int) A) (a : Nat → Nat) (k : Nat) (S : VV × VV × VV × VV × VV × Int32) {post : Int32 → va_W → Prop} {px : Int32 → va_W → Prop} (hlt : l.stackTraces = false) (hno : ∀ x ∈ c.exceptionTable.toList, False) (hdc : DC s) :
    ∀ (p0 : Int32) (q : Int32 × Int32), M_X9_parked_0 k S p0 = some q → TI post px q.1 q.2 (wSg E a S) →
      WW E p l e rm_X9_parked s m args below meth c A 0 0 (QXI E below post px args s rm_X9_parked A) (wSg E a S) 3 [some (.ref (a 0)), some (.int p0), none] 0 [] := by
  intro p0 q  h hq
  unfold M_X9_parked_0 at h
  refine r_aload_n (pc := 0) C (i := 0) dX9_parked_0 rfl rfl ?_
  refine r_get (pc := 1) C gwX9 0 rfl rfl 0 (by decide) wm_2_15 rfl dX9_parked_1 ?_
  refine r_iconst (pc := 4) C (v := (-1)) dX9_parked_4 (by decide) ?_
  refine r_iload_n (pc := 5) C (i := 1) dX9_parked_5 rfl rfl ?_
  obtain ⟨q1, hq1, h⟩ := bnd h
  refine r_callVp_CI (Cn := RX0) (pc := 6) C [.int (-1 : Int32), .int p0] (c_X0_waitingAt E l k (fun i => a (i + 1)) (S.1) (-1 : Int32) p0 hq1) [1, 2, 3, 4, 5, 6, 7, 8, 9, 10, 11, 12, 13, 14, 15, 16, 17, 18] (hp_X9_size_0 E a S) (by decide) 0 rfl rfl rfl g_X9_213 hd_X0_waitingAt ⟨Nat.le_of_ble_eq_true rfl, Nat.le_of_ble_eq_true rfl⟩ ⟨Nat.zero_le _, Nat.zero_le _⟩ (Nat.le_of_ble_eq_true rfl) rfl dX9_parked_6 (fun r hr => ?_)
  have hr := hr.symm
  subst hr
  refine r_istore_n (pc := 9) C (i := 2) dX9_parked_9 rfl (by decide) rfl ?_
  refine r_iload_n (pc := 10) C (i := 2) dX9_parked_10 rfl rfl ?_
  refine r_iconst (pc := 11) C (v := (-1)) dX9_parked_11 (by decide) ?_
  refine r_icmp_ne (pc := 12) C (tgt := 25) dX9_parked_12 rfl (fun c2 => ?_) (fun c2 => ?_)
  · rw [if_neg c2] at h
    refine r_iload_n (pc := 25) C (i := 2) dX9_parked_25 rfl rfl ?_
    cases h
    exact r_xI (r_ireti (pc := 26) C (TI_0 hq) (Nat.zero_le _) (Nat.zero_le _) dX9_parked_26)
  · rw [if_pos c2] at h
    cases h
    exact r_throwN (pc := 15) C hlt hno hdc 21 rfl wm_3_210 wm_1_23 dX9_parked_15 dX9_parked_18 dX9_parked_19 dX9_parked_21 dX9_parked_24 (Nat.le_of_ble_eq_true rfl) (Nat.le_of_ble_eq_true rfl) (Nat.le_of_ble_eq_true rfl) (Nat.le_of_ble_eq_true rfl) (Nat.le_of_ble_eq_true rfl) (TI_x (by decide) hq)
def M_X9_parked (k : Nat) (S : VV × VV × VV × VV × VV × Int32) (p0 : Int32) : Option (Int32 × Int32) := M_X9_parked_0 k S p0
set_option maxRecDepth 100000 in
set_option maxHeartbeats 4000000 in
theorem c_X9_parked (E : ENV) (l : Launch) (k : Nat) (a : Nat → Nat) (S : VV × VV × VV × VV × VV × Int32) (p0 : Int32) (hlt : l.stackTraces = false) {q : Int32 × Int32} (hm : M_X9_parked k S p0 = some q) : XI E l yX9_parked cX9_parked 3 (some .int) rm_X9_parked [.ref (a 0), .int p0] (wSg E a S) (fun r w' => q.1 = 0 ∧ r = q.2 ∧ w' = (wSg E a S)) (fun cd w' => cd = q.1 ∧ ¬ q.1 = 0 ∧ w' = (wSg E a S)) :=
  XI.of 1 (by decide) (Nat.le_of_ble_eq_true rfl) (fun p e s m below meth c A C hno hdc => r_weak (lSub_s (lSub_s (lSub_n lSub_e))) (N_X9_parked_0 C a k S hlt hno hdc p0 q  hm (TI_of rfl)))
theorem hd_X3_pairsThatKilled : yX3_pairsThatKilled.cls = RX3 ∧ yX3_pairsThatKilled.cls ≠ "java/lang/invoke/MethodHandle" ∧ yX3_pairsThatKilled.cls ≠ "java/lang/invoke/VarHandle" ∧ (parseMethodDescriptor yX3_pairsThatKilled.desc).map (fun d => d.parameters.length) = some 0 := by decide +kernel
theorem g_X9_223 : GoodIn GW (wsV RX9 223 RX3 yX3_pairsThatKilled (wsG yX3_pairsThatKilled cX3_pairsThatKilled 4 (some .int))) := gw_V wm_2_54 wm_2_55 wm_2_56 wm_1_5 wm_2_57
-- ShardGuard.killingPairs()I
set_option maxHeartbeats 8000000 in
theorem hp_X9_killingPairs_0 (E : ENV) (a : Nat → Nat) (S : VV × VV × VV × VV × VV × Int32) : ([10, 11, 12, 13, 14, 15, 16] : List Nat).map (fun i => (wSg E a S)[i]?) = (wKl E (fun i => a (i + 10)) (klF (S.1))).map some := rfl
theorem dX9_killingPairs_0 : decode cX9_killingPairs 0 = .ok (.aload_n 0, 1) := by decide +kernel
theorem dX9_killingPairs_1 : decode cX9_killingPairs 1 = .ok (.getfield 12, 3) := by decide +kernel
theorem dX9_killingPairs_4 : decode cX9_killingPairs 4 = .ok (.getfield 118, 3) := by decide +kernel
theorem dX9_killingPairs_7 : decode cX9_killingPairs 7 = .ok (.invokevirtual 223, 3) := by decide +kernel
theorem dX9_killingPairs_10 : decode cX9_killingPairs 10 = .ok (.ireturn, 1) := by decide +kernel
def rm_X9_killingPairs : Room := { frames := 2, cells := 0, slots := 0, locals := 47 }
def M_X9_killingPairs_0 (k : Nat) (S : VV × VV × VV × VV × VV × Int32) : Option (Int32) := (M_X3_pairsThatKilled k (klF (S.1))).bind fun q1 => some q1
set_option maxRecDepth 100000 in
set_option maxHeartbeats 4000000 in
theorem N_X9_killingPairs_0 (C : CX E p l s m args meth c cX9_killingPairs 1 RX9 (some .int) A) (a : Nat → Nat) (k : Nat) (S : VV × VV × VV × VV × VV × Int32) {post : Int32 → va_W → Prop} :
    ∀ (q : Int32), M_X9_killingPairs_0 k S = some q → post q (wSg E a S) →
      WW E p l e rm_X9_killingPairs s m args below meth c A 0 0 (QI E below post args s rm_X9_killingPairs A) (wSg E a S) 1 [some (.ref (a 0))] 0 [] := by
  intro  q  h hq
  unfold M_X9_killingPairs_0 at h
  refine r_aload_n (pc := 0) C (i := 0) dX9_killingPairs_0 rfl rfl ?_
  refine r_get (pc := 1) C gwX9 0 rfl rfl 0 (by decide) wm_2_15 rfl dX9_killingPairs_1 ?_
  refine r_get (pc := 4) C gwX0 1 rfl rfl 10 (by decide) wm_1_120 rfl dX9_killingPairs_4 ?_
  obtain ⟨q1, hq1, h⟩ := bnd h
  refine r_callVp_CI (Cn := RX3) (pc := 7) C [] (c_X3_pairsThatKilled E l k (fun i => a (i + 10)) (klF (S.1)) hq1) [10, 11, 12, 13, 14, 15, 16] (hp_X9_killingPairs_0 E a S) (by decide) 0 rfl rfl rfl g_X9_223 hd_X3_pairsThatKilled ⟨Nat.le_of_ble_eq_true rfl, Nat.le_of_ble_eq_true rfl⟩ ⟨Nat.zero_le _, Nat.zero_le _⟩ (Nat.le_of_ble_eq_true rfl) rfl dX9_killingPairs_7 (fun r hr => ?_)
  have hr := hr.symm
  subst hr
  cases h
  exact r_ireti (pc := 10) C hq (Nat.zero_le _) (Nat.zero_le _) dX9_killingPairs_10
def M_X9_killingPairs (k : Nat) (S : VV × VV × VV × VV × VV × Int32) : Option (Int32) := M_X9_killingPairs_0 k S
set_option maxRecDepth 100000 in
set_option maxHeartbeats 4000000 in
theorem c_X9_killingPairs (E : ENV) (l : Launch) (k : Nat) (a : Nat → Nat) (S : VV × VV × VV × VV × VV × Int32) {q : Int32} (hm : M_X9_killingPairs k S = some q) : CI E l yX9_killingPairs cX9_killingPairs 1 (some .int) rm_X9_killingPairs [.ref (a 0)] (wSg E a S) (fun r w' => r = q ∧ w' = (wSg E a S)) :=
  CI.of 0 (by decide) (Nat.le_of_ble_eq_true rfl) (fun p e s m below meth c A C _ => r_weak (lSub_s lSub_e) (N_X9_killingPairs_0 C a k S q  hm ⟨rfl, rfl⟩))
theorem hd_X0_greatestShared : yX0_greatestShared.cls = RX0 ∧ yX0_greatestShared.cls ≠ "java/lang/invoke/MethodHandle" ∧ yX0_greatestShared.cls ≠ "java/lang/invoke/VarHandle" ∧ (parseMethodDescriptor yX0_greatestShared.desc).map (fun d => d.parameters.length) = some 0 := by decide +kernel
theorem g_X9_229 : GoodIn GW (wsV RX9 229 RX0 yX0_greatestShared (wsG yX0_greatestShared cX0_greatestShared 4 (some .int))) := gw_V wm_2_66 wm_2_67 wm_2_68 wm_1_2 wm_2_69
-- ShardGuard.greatestOverlap()I
theorem dX9_greatestOverlap_0 : decode cX9_greatestOverlap 0 = .ok (.aload_n 0, 1) := by decide +kernel
theorem dX9_greatestOverlap_1 : decode cX9_greatestOverlap 1 = .ok (.getfield 12, 3) := by decide +kernel
theorem dX9_greatestOverlap_4 : decode cX9_greatestOverlap 4 = .ok (.invokevirtual 229, 3) := by decide +kernel
theorem dX9_greatestOverlap_7 : decode cX9_greatestOverlap 7 = .ok (.ireturn, 1) := by decide +kernel
def rm_X9_greatestOverlap : Room := { frames := 4, cells := 0, slots := 0, locals := 90 }
def M_X9_greatestOverlap_0 (k : Nat) (S : VV × VV × VV × VV × VV × Int32) : Option (Int32) := (M_X0_greatestShared k (S.1)).bind fun q1 => some q1
set_option maxRecDepth 100000 in
set_option maxHeartbeats 4000000 in
theorem N_X9_greatestOverlap_0 (C : CX E p l s m args meth c cX9_greatestOverlap 1 RX9 (some .int) A) (a : Nat → Nat) (k : Nat) (S : VV × VV × VV × VV × VV × Int32) {post : Int32 → va_W → Prop} :
    ∀ (q : Int32), M_X9_greatestOverlap_0 k S = some q → post q (wSg E a S) →
      WW E p l e rm_X9_greatestOverlap s m args below meth c A 0 0 (QI E below post args s rm_X9_greatestOverlap A) (wSg E a S) 1 [some (.ref (a 0))] 0 [] := by
  intro  q  h hq
  unfold M_X9_greatestOverlap_0 at h
  refine r_aload_n (pc := 0) C (i := 0) dX9_greatestOverlap_0 rfl rfl ?_
  refine r_get (pc := 1) C gwX9 0 rfl rfl 0 (by decide) wm_2_15 rfl dX9_greatestOverlap_1 ?_
  obtain ⟨q1, hq1, h⟩ := bnd h
  refine r_callVp_CI (Cn := RX0) (pc := 4) C [] (c_X0_greatestShared E l k (fun i => a (i + 1)) (S.1) hq1) [1, 2, 3, 4, 5, 6, 7, 8, 9, 10, 11, 12, 13, 14, 15, 16, 17, 18] (hp_X9_size_0 E a S) (by decide) 0 rfl rfl rfl g_X9_229 hd_X0_greatestShared ⟨Nat.le_of_ble_eq_true rfl, Nat.le_of_ble_eq_true rfl⟩ ⟨Nat.zero_le _, Nat.zero_le _⟩ (Nat.le_of_ble_eq_true rfl) rfl dX9_greatestOverlap_4 (fun r hr => ?_)
  have hr := hr.symm
  subst hr
  cases h
  exact r_ireti (pc := 7) C hq (Nat.zero_le _) (Nat.zero_le _) dX9_greatestOverlap_7
def M_X9_greatestOverlap (k : Nat) (S : VV × VV × VV × VV × VV × Int32) : Option (Int32) := M_X9_greatestOverlap_0 k S
set_option maxRecDepth 100000 in
set_option maxHeartbeats 4000000 in
theorem c_X9_greatestOverlap (E : ENV) (l : Launch) (k : Nat) (a : Nat → Nat) (S : VV × VV × VV × VV × VV × Int32) {q : Int32} (hm : M_X9_greatestOverlap k S = some q) : CI E l yX9_greatestOverlap cX9_greatestOverlap 1 (some .int) rm_X9_greatestOverlap [.ref (a 0)] (wSg E a S) (fun r w' => r = q ∧ w' = (wSg E a S)) :=
  CI.of 0 (by decide) (Nat.le_of_ble_eq_true rfl) (fun p e s m below meth c A C _ => r_weak (lSub_s lSub_e) (N_X9_greatestOverlap_0 C a k S q  hm ⟨rfl, rfl⟩))
theorem hd_X0_drawShards : yX0_drawShards.cls = RX0 ∧ yX0_drawShards.cls ≠ "java/lang/invoke/MethodHandle" ∧ yX0_drawShards.cls ≠ "java/lang/invoke/VarHandle" ∧ (parseMethodDescriptor yX0_drawShards.desc).map (fun d => d.parameters.length) = some 1 := by decide +kernel
theorem g_X9_238 : GoodIn GW (wsV RX9 238 RX0 yX0_drawShards (wsG yX0_drawShards cX0_drawShards 6 none)) := gw_V wm_2_118 wm_2_119 wm_2_120 wm_1_2 wm_2_121
-- ShardGuard.bestSeed()I
set_option maxHeartbeats 8000000 in
theorem hp_X9_bestSeed_0 (E : ENV) (a : Nat → Nat) (S : VV × VV × VV × VV × VV × Int32) : ([19, 20, 21, 22, 23, 24, 25, 26, 27, 28, 29, 30, 31, 32, 33, 34, 35, 36] : List Nat).map (fun i => (wSg E a S)[i]?) = (wFl E (fun i => a (i + 19)) (S.2.1)).map some := (seg_mapL ([(a 0, .inr (7, [.ref (a 1), .ref (a 19), .ref (a 37), .int ((S.2.2.2.2.2)), .ref (a 61), .ref (a 55), .ref (a 58)]))] ++ (wFl E (fun i => a (i + 1)) (S.1))) (wFl E (fun i => a (i + 19)) (S.2.1)) (wFl E (fun i => a (i + 37)) (S.2.2.1) ++ (wTk E (fun i => a (i + 55)) (S.2.2.2.1) ++ (wTx E (fun i => a (i + 58)) (S.2.2.2.2.1)))) rfl 18 rfl [19, 20, 21, 22, 23, 24, 25, 26, 27, 28, 29, 30, 31, 32, 33, 34, 35, 36] rfl)
set_option maxHeartbeats 8000000 in
theorem pw_X9_bestSeed_0 (E : ENV) (a : Nat → Nat) (S : VV × VV × VV × VV × VV × Int32) (X0 : Nat → Nat → Int32) : putW (wSg E a S) [19, 20, 21, 22, 23, 24, 25, 26, 27, 28, 29, 30, 31, 32, 33, 34, 35, 36] (wFl E (fun i => a (i + 19)) X0) = some (wSg E a (S.1, X0, S.2.2)) := seg_put1 ([(a 0, .inr (7, [.ref (a 1), .ref (a 19), .ref (a 37), .int ((S.2.2.2.2.2)), .ref (a 61), .ref (a 55), .ref (a 58)]))] ++ (wFl E (fun i => a (i + 1)) (S.1))) (wFl E (fun i => a (i + 19)) (S.2.1)) (wFl E (fun i => a (i + 19)) X0) (wFl E (fun i => a (i + 37)) (S.2.2.1) ++ (wTk E (fun i => a (i + 55)) (S.2.2.2.1) ++ (wTx E (fun i => a (i + 58)) (S.2.2.2.2.1)))) rfl rfl 18 rfl rfl [19, 20, 21, 22, 23, 24, 25, 26, 27, 28, 29, 30, 31, 32, 33, 34, 35, 36] rfl
set_option maxHeartbeats 8000000 in
theorem hp_X9_bestSeed_1 (E : ENV) (a : Nat → Nat) (S : VV × VV × VV × VV × VV × Int32) : ([19, 20, 21, 22, 23, 24, 25, 26, 27, 28, 29, 30, 31, 32, 33, 34, 35, 36, 1, 2, 3, 4, 5, 6, 7, 8, 9, 10, 11, 12, 13, 14, 15, 16, 17, 18] : List Nat).map (fun i => (wSg E a S)[i]?) = (wFl E (fun i => a (i + 19)) (S.2.1) ++ wFl E (fun i => a (i + 1)) (S.1)).map some := (seg_map2 (seg_mapL ([(a 0, .inr (7, [.ref (a 1), .ref (a 19), .ref (a 37), .int ((S.2.2.2.2.2)), .ref (a 61), .ref (a 55), .ref (a 58)]))] ++ (wFl E (fun i => a (i + 1)) (S.1))) (wFl E (fun i => a (i + 19)) (S.2.1)) (wFl E (fun i => a (i + 37)) (S.2.2.1) ++ (wTk E (fun i => a (i + 55)) (S.2.2.2.1) ++ (wTx E (fun i => a (i + 58)) (S.2.2.2.2.1)))) rfl 18 rfl [19, 20, 21, 22, 23, 24, 25, 26, 27, 28, 29, 30, 31, 32, 33, 34, 35, 36] rfl) (seg_mapL ([(a 0, .inr (7, [.ref (a 1), .ref (a 19), .ref (a 37), .int ((S.2.2.2.2.2)), .ref (a 61), .ref (a 55), .ref (a 58)]))]) (wFl E (fun i => a (i + 1)) (S.1)) (wFl E (fun i => a (i + 19)) (S.2.1) ++ (wFl E (fun i => a (i + 37)) (S.2.2.1) ++ (wTk E (fun i => a (i + 55)) (S.2.2.2.1) ++ (wTx E (fun i => a (i + 58)) (S.2.2.2.2.1))))) rfl 18 rfl [1, 2, 3, 4, 5, 6, 7, 8, 9, 10, 11, 12, 13, 14, 15, 16, 17, 18] rfl))
set_option maxHeartbeats 8000000 in
theorem pw_X9_bestSeed_1 (E : ENV) (a : Nat → Nat) (S : VV × VV × VV × VV × VV × Int32) (X0 : Nat → Nat → Int32) : putW (wSg E a S) [19, 20, 21, 22, 23, 24, 25, 26, 27, 28, 29, 30, 31, 32, 33, 34, 35, 36, 1, 2, 3, 4, 5, 6, 7, 8, 9, 10, 11, 12, 13, 14, 15, 16, 17, 18] (wFl E (fun i => a (i + 19)) X0 ++ wFl E (fun i => a (i + 1)) (S.1)) = some (wSg E a (S.1, X0, S.2.2)) := seg_put2 ([(a 0, .inr (7, [.ref (a 1), .ref (a 19), .ref (a 37), .int ((S.2.2.2.2.2)), .ref (a 61), .ref (a 55), .ref (a 58)]))] ++ (wFl E (fun i => a (i + 1)) (S.1))) (wFl E (fun i => a (i + 19)) (S.2.1)) (wFl E (fun i => a (i + 19)) X0) (wFl E (fun i => a (i + 37)) (S.2.2.1) ++ (wTk E (fun i => a (i + 55)) (S.2.2.2.1) ++ (wTx E (fun i => a (i + 58)) (S.2.2.2.2.1)))) rfl 18 rfl rfl [19, 20, 21, 22, 23, 24, 25, 26, 27, 28, 29, 30, 31, 32, 33, 34, 35, 36] rfl (seg_put1 (([(a 0, .inr (7, [.ref (a 1), .ref (a 19), .ref (a 37), .int ((S.2.2.2.2.2)), .ref (a 61), .ref (a 55), .ref (a 58)]))])) (wFl E (fun i => a (i + 1)) (S.1)) (wFl E (fun i => a (i + 1)) (S.1)) ((wFl E (fun i => a (i + 19)) X0) ++ (wFl E (fun i => a (i + 37)) (S.2.2.1) ++ (wTk E (fun i => a (i + 55)) (S.2.2.2.1) ++ (wTx E (fun i => a (i + 58)) (S.2.2.2.2.1))))) rfl rfl 18 rfl rfl [1, 2, 3, 4, 5, 6, 7, 8, 9, 10, 11, 12, 13, 14, 15, 16, 17, 18] rfl)
theorem dX9_bestSeed_0 : decode cX9_bestSeed 0 = .ok (.aload_n 0, 1) := by decide +kernel
theorem dX9_bestSeed_1 : decode cX9_bestSeed 1 = .ok (.getfield 16, 3) := by decide +kernel
theorem dX9_bestSeed_4 : decode cX9_bestSeed 4 = .ok (.aload_n 0, 1) := by decide +kernel
theorem dX9_bestSeed_5 : decode cX9_bestSeed 5 = .ok (.getfield 12, 3) := by decide +kernel
theorem dX9_bestSeed_8 : decode cX9_bestSeed 8 = .ok (.invokevirtual 81, 3) := by decide +kernel
theorem dX9_bestSeed_11 : decode cX9_bestSeed 11 = .ok (.iconst 0, 1) := by decide +kernel
theorem dX9_bestSeed_12 : decode cX9_bestSeed 12 = .ok (.istore_n 1, 1) := by decide +kernel
theorem dX9_bestSeed_13 : decode cX9_bestSeed 13 = .ok (.bipush 12, 2) := by decide +kernel
theorem dX9_bestSeed_15 : decode cX9_bestSeed 15 = .ok (.istore_n 2, 1) := by decide +kernel
theorem dX9_bestSeed_16 : decode cX9_bestSeed 16 = .ok (.iconst 0, 1) := by decide +kernel
theorem dX9_bestSeed_17 : decode cX9_bestSeed 17 = .ok (.istore_n 3, 1) := by decide +kernel
theorem dX9_bestSeed_18 : decode cX9_bestSeed 18 = .ok (.iload_n 3, 1) := by decide +kernel
theorem dX9_bestSeed_19 : decode cX9_bestSeed 19 = .ok (.bipush 100, 2) := by decide +kernel
theorem dX9_bestSeed_21 : decode cX9_bestSeed 21 = .ok (.if_icmp .ge 37, 3) := by decide +kernel
theorem dX9_bestSeed_24 : decode cX9_bestSeed 24 = .ok (.aload_n 0, 1) := by decide +kernel
theorem dX9_bestSeed_25 : decode cX9_bestSeed 25 = .ok (.getfield 16, 3) := by decide +kernel
theorem dX9_bestSeed_28 : decode cX9_bestSeed 28 = .ok (.iload_n 3, 1) := by decide +kernel
theorem dX9_bestSeed_29 : decode cX9_bestSeed 29 = .ok (.invokevirtual 238, 3) := by decide +kernel
theorem dX9_bestSeed_32 : decode cX9_bestSeed 32 = .ok (.aload_n 0, 1) := by decide +kernel
theorem dX9_bestSeed_33 : decode cX9_bestSeed 33 = .ok (.getfield 16, 3) := by decide +kernel
theorem dX9_bestSeed_36 : decode cX9_bestSeed 36 = .ok (.invokevirtual 229, 3) := by decide +kernel
theorem dX9_bestSeed_39 : decode cX9_bestSeed 39 = .ok (.istore 4, 2) := by decide +kernel
theorem dX9_bestSeed_41 : decode cX9_bestSeed 41 = .ok (.iload 4, 2) := by decide +kernel
theorem dX9_bestSeed_43 : decode cX9_bestSeed 43 = .ok (.iload_n 2, 1) := by decide +kernel
theorem dX9_bestSeed_44 : decode cX9_bestSeed 44 = .ok (.if_icmp .ge 8, 3) := by decide +kernel
theorem dX9_bestSeed_47 : decode cX9_bestSeed 47 = .ok (.iload 4, 2) := by decide +kernel
theorem dX9_bestSeed_49 : decode cX9_bestSeed 49 = .ok (.istore_n 2, 1) := by decide +kernel
theorem dX9_bestSeed_50 : decode cX9_bestSeed 50 = .ok (.iload_n 3, 1) := by decide +kernel
theorem dX9_bestSeed_51 : decode cX9_bestSeed 51 = .ok (.istore_n 1, 1) := by decide +kernel
theorem dX9_bestSeed_52 : decode cX9_bestSeed 52 = .ok (.iinc 3 1, 3) := by decide +kernel
theorem dX9_bestSeed_55 : decode cX9_bestSeed 55 = .ok (.goto (-37), 3) := by decide +kernel
theorem dX9_bestSeed_58 : decode cX9_bestSeed 58 = .ok (.iload_n 1, 1) := by decide +kernel
theorem dX9_bestSeed_59 : decode cX9_bestSeed 59 = .ok (.ireturn, 1) := by decide +kernel
def rm_X9_bestSeed : Room := { frames := 4, cells := 0, slots := 0, locals := 143 }
def M_X9_bestSeed_18 (k : Nat) : Nat → (Int32) → (Int32) → (Int32) → (VV × VV × VV × VV × VV × Int32) → Option (Int32 × (VV × VV × VV × VV × VV × Int32))
  | 0, _, _, _, _ => none
  | n + 1, x1, x2, x3, S => if (100 : Int32) ≤ x3 then (some (x1, S)) else ((M_X0_drawShards k (S.2.1) x3).bind fun q2 => lt ((S.1, q2, S.2.2)) fun F3 => (M_X0_greatestShared k (F3.2.1)).bind fun q4 => if x2 ≤ q4 then (M_X9_bestSeed_18 k n x1 x2 (x3 + 1) F3) else (M_X9_bestSeed_18 k n x3 q4 (x3 + 1) F3))
theorem M_X9_bestSeed_18_s (k : Nat) (n : Nat) (x1 : Int32) (x2 : Int32) (x3 : Int32) (S : VV × VV × VV × VV × VV × Int32) : M_X9_bestSeed_18 k (n + 1) x1 x2 x3 S = (if (100 : Int32) ≤ x3 then (some (x1, S)) else ((M_X0_drawShards k (S.2.1) x3).bind fun q2 => lt ((S.1, q2, S.2.2)) fun F3 => (M_X0_greatestShared k (F3.2.1)).bind fun q4 => if x2 ≤ q4 then (M_X9_bestSeed_18 k n x1 x2 (x3 + 1) F3) else (M_X9_bestSeed_18 k n x3 q4 (x3 + 1) F3))) := rfl
set_option maxRecDepth 100000 in
set_option maxHeartbeats 4000000 in
theorem N_X9_bestSeed_18 (C : CX E p l s m args meth c cX9_bestSeed 5 RX9 (some .int) A) (a : Nat → Nat) (k : Nat) {post : Int32 → va_W → Prop} :
    ∀ (n : Nat) (x1 : Int32) (x2 : Int32) (x3 : Int32) (S : VV × VV × VV × VV × VV × Int32) (q : Int32 × (VV × VV × VV × VV × VV × Int32)), M_X9_bestSeed_18 k n x1 x2 x3 S = some q → post q.1 (wSg E a q.2) →
      WW E p l e rm_X9_bestSeed s m args below meth c A 0 0 (QI E below post args s rm_X9_bestSeed A) (wSg E a S) 5 [some (.ref (a 0)), some (.int x1), some (.int x2), some (.int x3), none] 18 [] := by
  intro n
  induction n with
  | zero => intro x1 x2 x3 S q  h _; cases h
  | succ n ih =>
    intro x1 x2 x3 S q  h hq
    rw [M_X9_bestSeed_18_s] at h
    refine r_iload_n (pc := 18) C (i := 3) dX9_bestSeed_18 rfl rfl ?_
    refine r_bipush (pc := 19) C (v := 100) dX9_bestSeed_19 (by decide) ?_
    refine r_icmp_ge (pc := 21) C (tgt := 58) dX9_bestSeed_21 rfl (fun c1 => ?_) (fun c1 => ?_)
    · rw [if_pos c1] at h
      refine r_iload_n (pc := 58) C (i := 1) dX9_bestSeed_58 rfl rfl ?_
      cases h
      exact r_ireti (pc := 59) C hq (Nat.zero_le _) (Nat.zero_le _) dX9_bestSeed_59
    · rw [if_neg c1] at h
      refine r_aload_n (pc := 24) C (i := 0) dX9_bestSeed_24 rfl rfl ?_
      refine r_get (pc := 25) C gwX9 0 rfl rfl 1 (by decide) wm_2_16 rfl dX9_bestSeed_25 ?_
      refine r_iload_n (pc := 28) C (i := 3) dX9_bestSeed_28 rfl rfl ?_
      obtain ⟨q2, hq2, h⟩ := bnd h
      obtain ⟨F3, hF3, h⟩ := lt_e h
      refine r_callV_CV (Cn := RX0) (pc := 29) C [.int x3] (c_X0_drawShards E l k (fun i => a (i + 19)) (S.2.1) x3 hq2) [19, 20, 21, 22, 23, 24, 25, 26, 27, 28, 29, 30, 31, 32, 33, 34, 35, 36] (hp_X9_bestSeed_0 E a S) (by decide) 0 rfl rfl rfl g_X9_238 hd_X0_drawShards ⟨Nat.le_of_ble_eq_true rfl, Nat.le_of_ble_eq_true rfl⟩ ⟨Nat.zero_le _, Nat.zero_le _⟩ (Nat.le_of_ble_eq_true rfl) rfl dX9_bestSeed_29 (fun w1 hw1 => ?_)
      subst hw1
      refine ⟨(wSg E a F3), by rw [hF3]; exact (pw_X9_bestSeed_0 E a S q2), ?_⟩
      refine r_aload_n (pc := 32) C (i := 0) dX9_bestSeed_32 rfl rfl ?_
      refine r_get (pc := 33) C gwX9 0 rfl rfl 1 (by decide) wm_2_16 rfl dX9_bestSeed_33 ?_
      obtain ⟨q4, hq4, h⟩ := bnd h
      refine r_callVp_CI (Cn := RX0) (pc := 36) C [] (c_X0_greatestShared E l k (fun i => a (i + 19)) (F3.2.1) hq4) [19, 20, 21, 22, 23, 24, 25, 26, 27, 28, 29, 30, 31, 32, 33, 34, 35, 36] (hp_X9_bestSeed_0 E a F3) (by decide) 0 rfl rfl rfl g_X9_229 hd_X0_greatestShared ⟨Nat.le_of_ble_eq_true rfl, Nat.le_of_ble_eq_true rfl⟩ ⟨Nat.zero_le _, Nat.zero_le _⟩ (Nat.le_of_ble_eq_true rfl) rfl dX9_bestSeed_36 (fun r hr => ?_)
      have hr := hr.symm
      subst hr
      refine r_istore (pc := 39) C (i := 4) dX9_bestSeed_39 (by decide) rfl ?_
      refine r_iload (pc := 41) C (i := 4) dX9_bestSeed_41 rfl ?_
      refine r_iload_n (pc := 43) C (i := 2) dX9_bestSeed_43 rfl rfl ?_
      refine r_icmp_ge (pc := 44) C (tgt := 52) dX9_bestSeed_44 rfl (fun c5 => ?_) (fun c5 => ?_)
      · rw [if_pos c5] at h
        refine r_iinc (pc := 52) C (v := (x3 + 1)) dX9_bestSeed_52 rfl rfl (by decide) rfl ?_
        refine r_goto (pc := 55) C (tgt := 18) dX9_bestSeed_55 rfl ?_
        refine r_weak (lSub_s (lSub_s (lSub_s (lSub_s (lSub_n lSub_e))))) ?_
        exact ih x1 x2 (x3 + 1) F3 q  h hq
      · rw [if_neg c5] at h
        refine r_iload (pc := 47) C (i := 4) dX9_bestSeed_47 rfl ?_
        refine r_istore_n (pc := 49) C (i := 2) dX9_bestSeed_49 rfl (by decide) rfl ?_
        refine r_iload_n (pc := 50) C (i := 3) dX9_bestSeed_50 rfl rfl ?_
        refine r_istore_n (pc := 51) C (i := 1) dX9_bestSeed_51 rfl (by decide) rfl ?_
        refine r_iinc (pc := 52) C (v := (x3 + 1)) dX9_bestSeed_52 rfl rfl (by decide) rfl ?_
        refine r_goto (pc := 55) C (tgt := 18) dX9_bestSeed_55 rfl ?_
        refine r_weak (lSub_s (lSub_s (lSub_s (lSub_s (lSub_n lSub_e))))) ?_
        exact ih x3 q4 (x3 + 1) F3 q  h hq
def M_X9_bestSeed_0 (k : Nat) (S : VV × VV × VV × VV × VV × Int32) : Option (Int32 × (VV × VV × VV × VV × VV × Int32)) := (M_X0_copyFrom k (S.2.1) (S.1)).bind fun q6 => lt ((S.1, q6, S.2.2)) fun F7 => M_X9_bestSeed_18 k k (0 : Int32) (12 : Int32) (0 : Int32) F7
set_option maxRecDepth 100000 in
set_option maxHeartbeats 4000000 in
theorem N_X9_bestSeed_0 (C : CX E p l s m args meth c cX9_bestSeed 5 RX9 (some .int) A) (a : Nat → Nat) (k : Nat) {post : Int32 → va_W → Prop} :
    ∀ (S : VV × VV × VV × VV × VV × Int32) (q : Int32 × (VV × VV × VV × VV × VV × Int32)), M_X9_bestSeed_0 k S = some q → post q.1 (wSg E a q.2) →
      WW E p l e rm_X9_bestSeed s m args below meth c A 0 0 (QI E below post args s rm_X9_bestSeed A) (wSg E a S) 5 [some (.ref (a 0)), none, none, none, none] 0 [] := by
  intro S q  h hq
  unfold M_X9_bestSeed_0 at h
  refine r_aload_n (pc := 0) C (i := 0) dX9_bestSeed_0 rfl rfl ?_
  refine r_get (pc := 1) C gwX9 0 rfl rfl 1 (by decide) wm_2_16 rfl dX9_bestSeed_1 ?_
  refine r_aload_n (pc := 4) C (i := 0) dX9_bestSeed_4 rfl rfl ?_
  refine r_get (pc := 5) C gwX9 0 rfl rfl 0 (by decide) wm_2_15 rfl dX9_bestSeed_5 ?_
  obtain ⟨q6, hq6, h⟩ := bnd h
  obtain ⟨F7, hF7, h⟩ := lt_e h
  refine r_callV_CV (Cn := RX0) (pc := 8) C [.ref (a 1)] (c_X0_copyFrom E l k (fun i => a (i + 19)) (fun i => a (i + 1)) (S.2.1) (S.1) hq6) [19, 20, 21, 22, 23, 24, 25, 26, 27, 28, 29, 30, 31, 32, 33, 34, 35, 36, 1, 2, 3, 4, 5, 6, 7, 8, 9, 10, 11, 12, 13, 14, 15, 16, 17, 18] (hp_X9_bestSeed_1 E a S) (by decide) 0 rfl rfl rfl g_X9_81 hd_X0_copyFrom ⟨Nat.le_of_ble_eq_true rfl, Nat.le_of_ble_eq_true rfl⟩ ⟨Nat.zero_le _, Nat.zero_le _⟩ (Nat.le_of_ble_eq_true rfl) rfl dX9_bestSeed_8 (fun w1 hw1 => ?_)
  subst hw1
  refine ⟨(wSg E a F7), by rw [hF7]; exact (pw_X9_bestSeed_1 E a S q6), ?_⟩
  refine r_iconst (pc := 11) C (v := 0) dX9_bestSeed_11 (by decide) ?_
  refine r_istore_n (pc := 12) C (i := 1) dX9_bestSeed_12 rfl (by decide) rfl ?_
  refine r_bipush (pc := 13) C (v := 12) dX9_bestSeed_13 (by decide) ?_
  refine r_istore_n (pc := 15) C (i := 2) dX9_bestSeed_15 rfl (by decide) rfl ?_
  refine r_iconst (pc := 16) C (v := 0) dX9_bestSeed_16 (by decide) ?_
  refine r_istore_n (pc := 17) C (i := 3) dX9_bestSeed_17 rfl (by decide) rfl ?_
  refine r_weak (lSub_s (lSub_s (lSub_s (lSub_s (lSub_n lSub_e))))) ?_
  exact N_X9_bestSeed_18 C a k k (0 : Int32) (12 : Int32) (0 : Int32) F7 q  h hq
def M_X9_bestSeed (k : Nat) (S : VV × VV × VV × VV × VV × Int32) : Option (Int32 × (VV × VV × VV × VV × VV × Int32)) := M_X9_bestSeed_0 k S
set_option maxRecDepth 100000 in
set_option maxHeartbeats 4000000 in
theorem c_X9_bestSeed (E : ENV) (l : Launch) (k : Nat) (a : Nat → Nat) (S : VV × VV × VV × VV × VV × Int32) {q : Int32 × (VV × VV × VV × VV × VV × Int32)} (hm : M_X9_bestSeed k S = some q) : CI E l yX9_bestSeed cX9_bestSeed 5 (some .int) rm_X9_bestSeed [.ref (a 0)] (wSg E a S) (fun r w' => r = q.1 ∧ w' = (wSg E a q.2)) :=
  CI.of 4 (by decide) (Nat.le_of_ble_eq_true rfl) (fun p e s m below meth c A C _ => r_weak (lSub_s (lSub_n (lSub_n (lSub_n (lSub_n lSub_e))))) (N_X9_bestSeed_0 C a k S q  hm ⟨rfl, rfl⟩))
theorem hd_X0_done : yX0_done.cls = RX0 ∧ yX0_done.cls ≠ "java/lang/invoke/MethodHandle" ∧ yX0_done.cls ≠ "java/lang/invoke/VarHandle" ∧ (parseMethodDescriptor yX0_done.desc).map (fun d => d.parameters.length) = some 0 := by decide +kernel
theorem g_X9_249 : GoodIn GW (wsV RX9 249 RX0 yX0_done (wsG yX0_done cX0_done 3 (some .int))) := gw_V wm_2_141 wm_2_142 wm_2_143 wm_1_2 wm_2_144
theorem hd_X0_tick : yX0_tick.cls = RX0 ∧ yX0_tick.cls ≠ "java/lang/invoke/MethodHandle" ∧ yX0_tick.cls ≠ "java/lang/invoke/VarHandle" ∧ (parseMethodDescriptor yX0_tick.desc).map (fun d => d.parameters.length) = some 0 := by decide +kernel
theorem g_X9_244 : GoodIn GW (wsV RX9 244 RX0 yX0_tick (wsG yX0_tick cX0_tick 3 none)) := gw_V wm_4_150 wm_4_151 wm_4_152 wm_1_2 wm_4_153
-- ShardGuard.doneBehind(I)I
theorem dX9_doneBehind_0 : decode cX9_doneBehind 0 = .ok (.iload_n 1, 1) := by decide +kernel
theorem dX9_doneBehind_1 : decode cX9_doneBehind 1 = .ok (.ifCond .lt 10, 3) := by decide +kernel
theorem dX9_doneBehind_4 : decode cX9_doneBehind 4 = .ok (.iload_n 1, 1) := by decide +kernel
theorem dX9_doneBehind_5 : decode cX9_doneBehind 5 = .ok (.sipush 200, 3) := by decide +kernel
theorem dX9_doneBehind_8 : decode cX9_doneBehind 8 = .ok (.if_icmp .le 13, 3) := by decide +kernel
theorem dX9_doneBehind_11 : decode cX9_doneBehind 11 = .ok (.new 59, 3) := by decide +kernel
theorem dX9_doneBehind_14 : decode cX9_doneBehind 14 = .ok (.dup, 1) := by decide +kernel
theorem dX9_doneBehind_15 : decode cX9_doneBehind 15 = .ok (.ldc 247, 2) := by decide +kernel
theorem dX9_doneBehind_17 : decode cX9_doneBehind 17 = .ok (.invokespecial 63, 3) := by decide +kernel
theorem dX9_doneBehind_20 : decode cX9_doneBehind 20 = .ok (.athrow, 1) := by decide +kernel
theorem dX9_doneBehind_21 : decode cX9_doneBehind 21 = .ok (.aload_n 0, 1) := by decide +kernel
theorem dX9_doneBehind_22 : decode cX9_doneBehind 22 = .ok (.getfield 16, 3) := by decide +kernel
theorem dX9_doneBehind_25 : decode cX9_doneBehind 25 = .ok (.aload_n 0, 1) := by decide +kernel
theorem dX9_doneBehind_26 : decode cX9_doneBehind 26 = .ok (.getfield 12, 3) := by decide +kernel
theorem dX9_doneBehind_29 : decode cX9_doneBehind 29 = .ok (.invokevirtual 81, 3) := by decide +kernel
theorem dX9_doneBehind_32 : decode cX9_doneBehind 32 = .ok (.iconst 0, 1) := by decide +kernel
theorem dX9_doneBehind_33 : decode cX9_doneBehind 33 = .ok (.istore_n 2, 1) := by decide +kernel
theorem dX9_doneBehind_34 : decode cX9_doneBehind 34 = .ok (.iload_n 2, 1) := by decide +kernel
theorem dX9_doneBehind_35 : decode cX9_doneBehind 35 = .ok (.iload_n 1, 1) := by decide +kernel
theorem dX9_doneBehind_36 : decode cX9_doneBehind 36 = .ok (.if_icmp .ge 16, 3) := by decide +kernel
theorem dX9_doneBehind_39 : decode cX9_doneBehind 39 = .ok (.aload_n 0, 1) := by decide +kernel
theorem dX9_doneBehind_40 : decode cX9_doneBehind 40 = .ok (.getfield 16, 3) := by decide +kernel
theorem dX9_doneBehind_43 : decode cX9_doneBehind 43 = .ok (.invokevirtual 244, 3) := by decide +kernel
theorem dX9_doneBehind_46 : decode cX9_doneBehind 46 = .ok (.iinc 2 1, 3) := by decide +kernel
theorem dX9_doneBehind_49 : decode cX9_doneBehind 49 = .ok (.goto (-15), 3) := by decide +kernel
theorem dX9_doneBehind_52 : decode cX9_doneBehind 52 = .ok (.aload_n 0, 1) := by decide +kernel
theorem dX9_doneBehind_53 : decode cX9_doneBehind 53 = .ok (.getfield 16, 3) := by decide +kernel
theorem dX9_doneBehind_56 : decode cX9_doneBehind 56 = .ok (.invokevirtual 249, 3) := by decide +kernel
theorem dX9_doneBehind_59 : decode cX9_doneBehind 59 = .ok (.ireturn, 1) := by decide +kernel
def rm_X9_doneBehind : Room := { frames := 6, cells := 1, slots := 6, locals := 189 }
def M_X9_doneBehind_34 (k : Nat) : Nat → (Int32) → (Int32) → (VV × VV × VV × VV × VV × Int32) → Option (Int32 × Int32 × (VV × VV × VV × VV × VV × Int32))
  | 0, _, _, _ => none
  | n + 1, x1, x2, S => if x1 ≤ x2 then ((M_X0_done k (S.2.1)).bind fun q2 => some ((0 : Int32), q2, S)) else ((M_X0_tick k (S.2.1)).bind fun q3 => lt ((S.1, q3, S.2.2)) fun F4 => M_X9_doneBehind_34 k n x1 (x2 + 1) F4)
theorem M_X9_doneBehind_34_s (k : Nat) (n : Nat) (x1 : Int32) (x2 : Int32) (S : VV × VV × VV × VV × VV × Int32) : M_X9_doneBehind_34 k (n + 1) x1 x2 S = (if x1 ≤ x2 then ((M_X0_done k (S.2.1)).bind fun q2 => some ((0 : Int32), q2, S)) else ((M_X0_tick k (S.2.1)).bind fun q3 => lt ((S.1, q3, S.2.2)) fun F4 => M_X9_doneBehind_34 k n x1 (x2 + 1) F4)) := rfl
set_option maxRecDepth 100000 in
set_option maxHeartbeats 4000000 in
theorem N_X9_doneBehind_34 (C : CX E p l s m args meth c cX9_doneBehind 3 RX9 (some .int) A) (a : Nat → Nat) (k : Nat) {post : Int32 → va_W → Prop} {px : Int32 → va_W → Prop} (hlt : l.stackTraces = false) (hno : ∀ x ∈ c.exceptionTable.toList, False) (hdc : DC s) :
    ∀ (n : Nat) (x1 : Int32) (x2 : Int32) (S : VV × VV × VV × VV × VV × Int32) (q : Int32 × Int32 × (VV × VV × VV × VV × VV × Int32)), M_X9_doneBehind_34 k n x1 x2 S = some q → TI post px q.1 q.2.1 (wSg E a q.2.2) →
      WW E p l e rm_X9_doneBehind s m args below meth c A 0 0 (QXI E below post px args s rm_X9_doneBehind A) (wSg E a S) 3 [some (.ref (a 0)), some (.int x1), some (.int x2)] 34 [] := by
  intro n
  induction n with
  | zero => intro x1 x2 S q  h _; cases h
  | succ n ih =>
    intro x1 x2 S q  h hq
    rw [M_X9_doneBehind_34_s] at h
    refine r_iload_n (pc := 34) C (i := 2) dX9_doneBehind_34 rfl rfl ?_
    refine r_iload_n (pc := 35) C (i := 1) dX9_doneBehind_35 rfl rfl ?_
    refine r_icmp_ge (pc := 36) C (tgt := 52) dX9_doneBehind_36 rfl (fun c1 => ?_) (fun c1 => ?_)
    · rw [if_pos c1] at h
      refine r_aload_n (pc := 52) C (i := 0) dX9_doneBehind_52 rfl rfl ?_
      refine r_get (pc := 53) C gwX9 0 rfl rfl 1 (by decide) wm_2_16 rfl dX9_doneBehind_53 ?_
      obtain ⟨q2, hq2, h⟩ := bnd h
      refine r_callVp_CI (Cn := RX0) (pc := 56) C [] (c_X0_done E l k (fun i => a (i + 19)) (S.2.1) hq2) [19, 20, 21, 22, 23, 24, 25, 26, 27, 28, 29, 30, 31, 32, 33, 34, 35, 36] (hp_X9_bestSeed_0 E a S) (by decide) 0 rfl rfl rfl g_X9_249 hd_X0_done ⟨Nat.le_of_ble_eq_true rfl, Nat.le_of_ble_eq_true rfl⟩ ⟨Nat.zero_le _, Nat.zero_le _⟩ (Nat.le_of_ble_eq_true rfl) rfl dX9_doneBehind_56 (fun r hr => ?_)
      have hr := hr.symm
      subst hr
      cases h
      exact r_xI (r_ireti (pc := 59) C (TI_0 hq) (Nat.zero_le _) (Nat.zero_le _) dX9_doneBehind_59)
    · rw [if_neg c1] at h
      refine r_aload_n (pc := 39) C (i := 0) dX9_doneBehind_39 rfl rfl ?_
      refine r_get (pc := 40) C gwX9 0 rfl rfl 1 (by decide) wm_2_16 rfl dX9_doneBehind_40 ?_
      obtain ⟨q3, hq3, h⟩ := bnd h
      obtain ⟨F4, hF4, h⟩ := lt_e h
      refine r_callV_CV (Cn := RX0) (pc := 43) C [] (c_X0_tick E l k (fun i => a (i + 19)) (S.2.1) hq3) [19, 20, 21, 22, 23, 24, 25, 26, 27, 28, 29, 30, 31, 32, 33, 34, 35, 36] (hp_X9_bestSeed_0 E a S) (by decide) 0 rfl rfl rfl g_X9_244 hd_X0_tick ⟨Nat.le_of_ble_eq_true rfl, Nat.le_of_ble_eq_true rfl⟩ ⟨Nat.zero_le _, Nat.zero_le _⟩ (Nat.le_of_ble_eq_true rfl) rfl dX9_doneBehind_43 (fun w1 hw1 => ?_)
      subst hw1
      refine ⟨(wSg E a F4), by rw [hF4]; exact (pw_X9_bestSeed_0 E a S q3), ?_⟩
      refine r_iinc (pc := 46) C (v := (x2 + 1)) dX9_doneBehind_46 rfl rfl (by decide) rfl ?_
      refine r_goto (pc := 49) C (tgt := 34) dX9_doneBehind_49 rfl ?_
      refine r_weak (lSub_s (lSub_s (lSub_s lSub_e))) ?_
      exact ih x1 (x2 + 1) F4 q  h hq
def M_X9_doneBehind_0 (k : Nat) (p0 : Int32) (S : VV × VV × VV × VV × VV × Int32) : Option (Int32 × Int32 × (VV × VV × VV × VV × VV × Int32)) := if p0 < 0 then (some ((2 : Int32), (0 : Int32), S)) else (if p0 ≤ (200 : Int32) then ((M_X0_copyFrom k (S.2.1) (S.1)).bind fun q7 => lt ((S.1, q7, S.2.2)) fun F8 => M_X9_doneBehind_34 k k p0 (0 : Int32) F8) else (some ((2 : Int32), (0 : Int32), S)))
set_option maxRecDepth 100000 in
set_option maxHeartbeats 4000000 in
theorem N_X9_doneBehind_0 (C : CX E p l s m args meth c cX9_doneBehind 3 RX9 (some .int) A) (a : Nat → Nat) (k : Nat) {post : Int32 → va_W → Prop} {px : Int32 → va_W → Prop} (hlt : l.stackTraces = false) (hno : ∀ x ∈ c.exceptionTable.toList, False) (hdc : DC s) :
    ∀ (p0 : Int32) (S : VV × VV × VV × VV × VV × Int32) (q : Int32 × Int32 × (VV × VV × VV × VV × VV × Int32)), M_X9_doneBehind_0 k p0 S = some q → TI post px q.1 q.2.1 (wSg E a q.2.2) →
      WW E p l e rm_X9_doneBehind s m args below meth c A 0 0 (QXI E below post px args s rm_X9_doneBehind A) (wSg E a S) 3 [some (.ref (a 0)), some (.int p0), none] 0 [] := by
  intro p0 S q  h hq
  unfold M_X9_doneBehind_0 at h
  refine r_iload_n (pc := 0) C (i := 1) dX9_doneBehind_0 rfl rfl ?_
  refine r_if_lt (pc := 1) C (tgt := 11) dX9_doneBehind_1 rfl (fun c5 => ?_) (fun c5 => ?_)
  · rw [if_pos c5] at h
    cases h
    exact r_throwA (pc := 11) C hlt hno hdc 23 rfl wm_2_186 wm_1_13 dX9_doneBehind_11 dX9_doneBehind_14 dX9_doneBehind_15 dX9_doneBehind_17 dX9_doneBehind_20 (Nat.le_of_ble_eq_true rfl) (Nat.le_of_ble_eq_true rfl) (Nat.le_of_ble_eq_true rfl) (Nat.le_of_ble_eq_true rfl) (Nat.le_of_ble_eq_true rfl) (TI_x (by decide) hq)
  · rw [if_neg c5] at h
    refine r_iload_n (pc := 4) C (i := 1) dX9_doneBehind_4 rfl rfl ?_
    refine r_sipush (pc := 5) C (v := 200) dX9_doneBehind_5 (by decide) ?_
    refine r_icmp_le (pc := 8) C (tgt := 21) dX9_doneBehind_8 rfl (fun c6 => ?_) (fun c6 => ?_)
    · rw [if_pos c6] at h
      refine r_aload_n (pc := 21) C (i := 0) dX9_doneBehind_21 rfl rfl ?_
      refine r_get (pc := 22) C gwX9 0 rfl rfl 1 (by decide) wm_2_16 rfl dX9_doneBehind_22 ?_
      refine r_aload_n (pc := 25) C (i := 0) dX9_doneBehind_25 rfl rfl ?_
      refine r_get (pc := 26) C gwX9 0 rfl rfl 0 (by decide) wm_2_15 rfl dX9_doneBehind_26 ?_
      obtain ⟨q7, hq7, h⟩ := bnd h
      obtain ⟨F8, hF8, h⟩ := lt_e h
      refine r_callV_CV (Cn := RX0) (pc := 29) C [.ref (a 1)] (c_X0_copyFrom E l k (fun i => a (i + 19)) (fun i => a (i + 1)) (S.2.1) (S.1) hq7) [19, 20, 21, 22, 23, 24, 25, 26, 27, 28, 29, 30, 31, 32, 33, 34, 35, 36, 1, 2, 3, 4, 5, 6, 7, 8, 9, 10, 11, 12, 13, 14, 15, 16, 17, 18] (hp_X9_bestSeed_1 E a S) (by decide) 0 rfl rfl rfl g_X9_81 hd_X0_copyFrom ⟨Nat.le_of_ble_eq_true rfl, Nat.le_of_ble_eq_true rfl⟩ ⟨Nat.zero_le _, Nat.zero_le _⟩ (Nat.le_of_ble_eq_true rfl) rfl dX9_doneBehind_29 (fun w1 hw1 => ?_)
      subst hw1
      refine ⟨(wSg E a F8), by rw [hF8]; exact (pw_X9_bestSeed_1 E a S q7), ?_⟩
      refine r_iconst (pc := 32) C (v := 0) dX9_doneBehind_32 (by decide) ?_
      refine r_istore_n (pc := 33) C (i := 2) dX9_doneBehind_33 rfl (by decide) rfl ?_
      refine r_weak (lSub_s (lSub_s (lSub_s lSub_e))) ?_
      exact N_X9_doneBehind_34 C a k hlt hno hdc k p0 (0 : Int32) F8 q  h hq
    · rw [if_neg c6] at h
      cases h
      exact r_throwA (pc := 11) C hlt hno hdc 23 rfl wm_2_186 wm_1_13 dX9_doneBehind_11 dX9_doneBehind_14 dX9_doneBehind_15 dX9_doneBehind_17 dX9_doneBehind_20 (Nat.le_of_ble_eq_true rfl) (Nat.le_of_ble_eq_true rfl) (Nat.le_of_ble_eq_true rfl) (Nat.le_of_ble_eq_true rfl) (Nat.le_of_ble_eq_true rfl) (TI_x (by decide) hq)
def M_X9_doneBehind (k : Nat) (S : VV × VV × VV × VV × VV × Int32) (p0 : Int32) : Option (Int32 × Int32 × (VV × VV × VV × VV × VV × Int32)) := M_X9_doneBehind_0 k p0 S
set_option maxRecDepth 100000 in
set_option maxHeartbeats 4000000 in
theorem c_X9_doneBehind (E : ENV) (l : Launch) (k : Nat) (a : Nat → Nat) (S : VV × VV × VV × VV × VV × Int32) (p0 : Int32) (hlt : l.stackTraces = false) {q : Int32 × Int32 × (VV × VV × VV × VV × VV × Int32)} (hm : M_X9_doneBehind k S p0 = some q) : XI E l yX9_doneBehind cX9_doneBehind 3 (some .int) rm_X9_doneBehind [.ref (a 0), .int p0] (wSg E a S) (fun r w' => q.1 = 0 ∧ r = q.2.1 ∧ w' = (wSg E a q.2.2)) (fun cd w' => cd = q.1 ∧ ¬ q.1 = 0 ∧ w' = (wSg E a q.2.2)) :=
  XI.of 1 (by decide) (Nat.le_of_ble_eq_true rfl) (fun p e s m below meth c A C hno hdc => r_weak (lSub_s (lSub_s (lSub_n lSub_e))) (N_X9_doneBehind_0 C a k hlt hno hdc p0 S q  hm (TI_of rfl)))
end WALKS
