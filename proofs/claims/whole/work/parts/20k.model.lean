section WALKS
variable {E : ENV} {p : Program} {l : Launch} {e : Env} {s : State} {m : MethodId} {args : Array Value} {below : List Frame} {meth : Method} {c : Code} {A : Nat → Prop}
theorem hd_X10_isRequest : yX10_isRequest.cls = RX10 ∧ yX10_isRequest.cls ≠ "java/lang/invoke/MethodHandle" ∧ yX10_isRequest.cls ≠ "java/lang/invoke/VarHandle" ∧ (parseMethodDescriptor yX10_isRequest.desc).map (fun d => d.parameters.length) = some 1 := by decide +kernel
theorem g_X10_285 : GoodIn GW (wsV RX10 285 RX10 yX10_isRequest (wsG yX10_isRequest cX10_isRequest 2 (some .boolean))) := gw_V wm_6_182 wm_6_184 wm_0_45 wm_1_9 wm_6_185
-- ShardGuardModel.request(II)I
theorem dX10_request_0 : decode cX10_request 0 = .ok (.aload_n 0, 1) := by decide +kernel
theorem dX10_request_1 : decode cX10_request 1 = .ok (.iconst 0, 1) := by decide +kernel
theorem dX10_request_2 : decode cX10_request 2 = .ok (.putfield 93, 3) := by decide +kernel
theorem dX10_request_5 : decode cX10_request 5 = .ok (.aload_n 0, 1) := by decide +kernel
theorem dX10_request_6 : decode cX10_request 6 = .ok (.iload_n 1, 1) := by decide +kernel
theorem dX10_request_7 : decode cX10_request 7 = .ok (.invokevirtual 285, 3) := by decide +kernel
theorem dX10_request_10 : decode cX10_request 10 = .ok (.ifCond .eq 22, 3) := by decide +kernel
theorem dX10_request_13 : decode cX10_request 13 = .ok (.iload_n 2, 1) := by decide +kernel
theorem dX10_request_14 : decode cX10_request 14 = .ok (.iconst 0, 1) := by decide +kernel
theorem dX10_request_15 : decode cX10_request 15 = .ok (.bipush 7, 2) := by decide +kernel
theorem dX10_request_17 : decode cX10_request 17 = .ok (.invokestatic 110, 3) := by decide +kernel
theorem dX10_request_20 : decode cX10_request 20 = .ok (.ifCond .eq 12, 3) := by decide +kernel
theorem dX10_request_23 : decode cX10_request 23 = .ok (.aload_n 0, 1) := by decide +kernel
theorem dX10_request_24 : decode cX10_request 24 = .ok (.iload_n 1, 1) := by decide +kernel
theorem dX10_request_25 : decode cX10_request 25 = .ok (.iload_n 2, 1) := by decide +kernel
theorem dX10_request_26 : decode cX10_request 26 = .ok (.invokevirtual 123, 3) := by decide +kernel
theorem dX10_request_29 : decode cX10_request 29 = .ok (.goto 8, 3) := by decide +kernel
theorem dX10_request_32 : decode cX10_request 32 = .ok (.aload_n 0, 1) := by decide +kernel
theorem dX10_request_33 : decode cX10_request 33 = .ok (.iconst 1, 1) := by decide +kernel
theorem dX10_request_34 : decode cX10_request 34 = .ok (.invokevirtual 267, 3) := by decide +kernel
theorem dX10_request_37 : decode cX10_request 37 = .ok (.ireturn, 1) := by decide +kernel
def rm_X10_request : Room := { frames := 2, cells := 0, slots := 0, locals := 43 }
def M_X10_request_0 (k : Nat) (p0 : Int32) (p1 : Int32) (S : Nat → Nat → Int32) : Option (Int32 × (Nat → Nat → Int32)) := lt (va_up S 0 (upd (S 0) 1 (0 : Int32))) fun F1 => (M_X10_isRequest k F1 p0).bind fun q2 => if q2 = 0 then ((M_X10_raise k F1 (1 : Int32)).bind fun q4 => some (q4.1, q4.2)) else ((M_X10_inRange k p1 (0 : Int32) (7 : Int32)).bind fun q5 => if q5 = 0 then ((M_X10_raise k F1 (1 : Int32)).bind fun q7 => some (q7.1, q7.2)) else ((M_X10_of k F1 p0 p1).bind fun q8 => some (q8, F1)))
set_option maxRecDepth 100000 in
set_option maxHeartbeats 4000000 in
theorem N_X10_request_0 (C : CX E p l s m args meth c cX10_request 3 RX10 (some .int) A) (a : Nat → Nat) (k : Nat) {post : Int32 → va_W → Prop} :
    ∀ (p0 : Int32) (p1 : Int32) (S : Nat → Nat → Int32) (q : Int32 × (Nat → Nat → Int32)), M_X10_request_0 k p0 p1 S = some q → post q.1 (wMd E a q.2) →
      WW E p l e rm_X10_request s m args below meth c A 0 0 (QI E below post args s rm_X10_request A) (wMd E a S) 3 [some (.ref (a 0)), some (.int p0), some (.int p1)] 0 [] := by
  intro p0 p1 S q  h hq
  unfold M_X10_request_0 at h
  refine r_aload_n (pc := 0) C (i := 0) dX10_request_0 rfl rfl ?_
  refine r_iconst (pc := 1) C (v := 0) dX10_request_1 (by decide) ?_
  obtain ⟨F1, hF1, h⟩ := lt_e h
  refine r_put (pc := 2) C gwX10 tyX10 tyX10_ok nmX10 0 rfl rfl 6 (by decide) wm_5_209 rfl rfl rfl rfl (Nat.le_of_ble_eq_true rfl) (w' := (wMd E a F1)) (by rw [hF1]; rfl) dX10_request_2 ?_
  refine r_aload_n (pc := 5) C (i := 0) dX10_request_5 rfl rfl ?_
  refine r_iload_n (pc := 6) C (i := 1) dX10_request_6 rfl rfl ?_
  obtain ⟨q2, hq2, h⟩ := bnd h
  refine r_callVp_CI (Cn := RX10) (pc := 7) C [.int p0] (c_X10_isRequest E l k a F1 p0 hq2) [0, 1, 2, 3, 4, 5, 6, 7, 8, 9, 10, 11, 12] rfl (by decide) 0 rfl rfl rfl g_X10_285 hd_X10_isRequest ⟨Nat.le_of_ble_eq_true rfl, Nat.le_of_ble_eq_true rfl⟩ ⟨Nat.zero_le _, Nat.zero_le _⟩ (Nat.le_of_ble_eq_true rfl) rfl dX10_request_7 (fun r hr => ?_)
  have hr := hr.symm
  subst hr
  refine r_if_eq (pc := 10) C (tgt := 32) dX10_request_10 rfl (fun c3 => ?_) (fun c3 => ?_)
  · rw [if_pos c3] at h
    refine r_aload_n (pc := 32) C (i := 0) dX10_request_32 rfl rfl ?_
    refine r_iconst (pc := 33) C (v := 1) dX10_request_33 (by decide) ?_
    obtain ⟨q4, hq4, h⟩ := bnd h
    refine r_callV_CI (Cn := RX10) (pc := 34) C [.int (1 : Int32)] (c_X10_raise E l k a F1 (1 : Int32) hq4) [0, 1, 2, 3, 4, 5, 6, 7, 8, 9, 10, 11, 12] rfl (by decide) 0 rfl rfl rfl g_X10_267 hd_X10_raise ⟨Nat.le_of_ble_eq_true rfl, Nat.le_of_ble_eq_true rfl⟩ ⟨Nat.zero_le _, Nat.zero_le _⟩ (Nat.le_of_ble_eq_true rfl) rfl dX10_request_34 (fun r w1 hw1 => ?_)
    obtain ⟨hr1, hw1⟩ := hw1
    subst hr1 hw1
    refine ⟨(wMd E a q4.2), by rfl, ?_⟩
    cases h
    exact r_ireti (pc := 37) C hq (Nat.zero_le _) (Nat.zero_le _) dX10_request_37
  · rw [if_neg c3] at h
    refine r_iload_n (pc := 13) C (i := 2) dX10_request_13 rfl rfl ?_
    refine r_iconst (pc := 14) C (v := 0) dX10_request_14 (by decide) ?_
    refine r_bipush (pc := 15) C (v := 7) dX10_request_15 (by decide) ?_
    obtain ⟨q5, hq5, h⟩ := bnd h
    refine r_callSp_CI (pc := 17) C [.int p1, .int (0 : Int32), .int (7 : Int32)] (c_X10_inRange E l k p1 (0 : Int32) (7 : Int32) hq5) [] rfl (by decide) g_X10_110 hd_X10_inRange.2 ⟨Nat.le_of_ble_eq_true rfl, Nat.le_of_ble_eq_true rfl⟩ ⟨Nat.zero_le _, Nat.zero_le _⟩ (Nat.le_of_ble_eq_true rfl) rfl dX10_request_17 (fun r hr => ?_)
    have hr := hr.symm
    subst hr
    refine r_if_eq (pc := 20) C (tgt := 32) dX10_request_20 rfl (fun c6 => ?_) (fun c6 => ?_)
    · rw [if_pos c6] at h
      refine r_aload_n (pc := 32) C (i := 0) dX10_request_32 rfl rfl ?_
      refine r_iconst (pc := 33) C (v := 1) dX10_request_33 (by decide) ?_
      obtain ⟨q7, hq7, h⟩ := bnd h
      refine r_callV_CI (Cn := RX10) (pc := 34) C [.int (1 : Int32)] (c_X10_raise E l k a F1 (1 : Int32) hq7) [0, 1, 2, 3, 4, 5, 6, 7, 8, 9, 10, 11, 12] rfl (by decide) 0 rfl rfl rfl g_X10_267 hd_X10_raise ⟨Nat.le_of_ble_eq_true rfl, Nat.le_of_ble_eq_true rfl⟩ ⟨Nat.zero_le _, Nat.zero_le _⟩ (Nat.le_of_ble_eq_true rfl) rfl dX10_request_34 (fun r w1 hw1 => ?_)
      obtain ⟨hr1, hw1⟩ := hw1
      subst hr1 hw1
      refine ⟨(wMd E a q7.2), by rfl, ?_⟩
      cases h
      exact r_ireti (pc := 37) C hq (Nat.zero_le _) (Nat.zero_le _) dX10_request_37
    · rw [if_neg c6] at h
      refine r_aload_n (pc := 23) C (i := 0) dX10_request_23 rfl rfl ?_
      refine r_iload_n (pc := 24) C (i := 1) dX10_request_24 rfl rfl ?_
      refine r_iload_n (pc := 25) C (i := 2) dX10_request_25 rfl rfl ?_
      obtain ⟨q8, hq8, h⟩ := bnd h
      refine r_callVp_CI (Cn := RX10) (pc := 26) C [.int p0, .int p1] (c_X10_of E l k a F1 p0 p1 hq8) [0, 1, 2, 3, 4, 5, 6, 7, 8, 9, 10, 11, 12] rfl (by decide) 0 rfl rfl rfl g_X10_123 hd_X10_of ⟨Nat.le_of_ble_eq_true rfl, Nat.le_of_ble_eq_true rfl⟩ ⟨Nat.zero_le _, Nat.zero_le _⟩ (Nat.le_of_ble_eq_true rfl) rfl dX10_request_26 (fun r hr => ?_)
      have hr := hr.symm
      subst hr
      refine r_goto (pc := 29) C (tgt := 37) dX10_request_29 rfl ?_
      cases h
      exact r_ireti (pc := 37) C hq (Nat.zero_le _) (Nat.zero_le _) dX10_request_37
def M_X10_request (k : Nat) (S : Nat → Nat → Int32) (p0 : Int32) (p1 : Int32) : Option (Int32 × (Nat → Nat → Int32)) := M_X10_request_0 k p0 p1 S
set_option maxRecDepth 100000 in
set_option maxHeartbeats 4000000 in
theorem c_X10_request (E : ENV) (l : Launch) (k : Nat) (a : Nat → Nat) (S : Nat → Nat → Int32) (p0 : Int32) (p1 : Int32) {q : Int32 × (Nat → Nat → Int32)} (hm : M_X10_request k S p0 p1 = some q) : CI E l yX10_request cX10_request 3 (some .int) rm_X10_request [.ref (a 0), .int p0, .int p1] (wMd E a S) (fun r w' => r = q.1 ∧ w' = (wMd E a q.2)) :=
  CI.of 0 (by decide) (Nat.le_of_ble_eq_true rfl) (fun p e s m below meth c A C _ => r_weak (lSub_s (lSub_s (lSub_s lSub_e))) (N_X10_request_0 C a k p0 p1 S q  hm ⟨rfl, rfl⟩))
theorem hd_X10_inPlace : yX10_inPlace.cls = RX10 ∧ yX10_inPlace.cls ≠ "java/lang/invoke/MethodHandle" ∧ yX10_inPlace.cls ≠ "java/lang/invoke/VarHandle" ∧ (parseMethodDescriptor yX10_inPlace.desc).map (fun d => d.parameters.length) = some 3 := by decide +kernel
theorem g_X10_288 : GoodIn GW (wsV RX10 288 RX10 yX10_inPlace (wsG yX10_inPlace cX10_inPlace 5 (some .int))) := gw_V wm_6_190 wm_6_192 wm_0_46 wm_1_9 wm_6_193
-- ShardGuardModel.queued(II)I
theorem dX10_queued_0 : decode cX10_queued 0 = .ok (.aload_n 0, 1) := by decide +kernel
theorem dX10_queued_1 : decode cX10_queued 1 = .ok (.iconst 0, 1) := by decide +kernel
theorem dX10_queued_2 : decode cX10_queued 2 = .ok (.putfield 93, 3) := by decide +kernel
theorem dX10_queued_5 : decode cX10_queued 5 = .ok (.aload_n 0, 1) := by decide +kernel
theorem dX10_queued_6 : decode cX10_queued 6 = .ok (.iload_n 1, 1) := by decide +kernel
theorem dX10_queued_7 : decode cX10_queued 7 = .ok (.invokevirtual 270, 3) := by decide +kernel
theorem dX10_queued_10 : decode cX10_queued 10 = .ok (.ifCond .eq 13, 3) := by decide +kernel
theorem dX10_queued_13 : decode cX10_queued 13 = .ok (.aload_n 0, 1) := by decide +kernel
theorem dX10_queued_14 : decode cX10_queued 14 = .ok (.iconst 0, 1) := by decide +kernel
theorem dX10_queued_15 : decode cX10_queued 15 = .ok (.iload_n 1, 1) := by decide +kernel
theorem dX10_queued_16 : decode cX10_queued 16 = .ok (.iload_n 2, 1) := by decide +kernel
theorem dX10_queued_17 : decode cX10_queued 17 = .ok (.invokevirtual 288, 3) := by decide +kernel
theorem dX10_queued_20 : decode cX10_queued 20 = .ok (.goto 4, 3) := by decide +kernel
theorem dX10_queued_23 : decode cX10_queued 23 = .ok (.iconst (-1), 1) := by decide +kernel
theorem dX10_queued_24 : decode cX10_queued 24 = .ok (.istore_n 3, 1) := by decide +kernel
theorem dX10_queued_25 : decode cX10_queued 25 = .ok (.iload_n 3, 1) := by decide +kernel
theorem dX10_queued_26 : decode cX10_queued 26 = .ok (.iconst (-1), 1) := by decide +kernel
theorem dX10_queued_27 : decode cX10_queued 27 = .ok (.if_icmp .ne 11, 3) := by decide +kernel
theorem dX10_queued_30 : decode cX10_queued 30 = .ok (.aload_n 0, 1) := by decide +kernel
theorem dX10_queued_31 : decode cX10_queued 31 = .ok (.iconst 1, 1) := by decide +kernel
theorem dX10_queued_32 : decode cX10_queued 32 = .ok (.invokevirtual 267, 3) := by decide +kernel
theorem dX10_queued_35 : decode cX10_queued 35 = .ok (.goto 4, 3) := by decide +kernel
theorem dX10_queued_38 : decode cX10_queued 38 = .ok (.iload_n 3, 1) := by decide +kernel
theorem dX10_queued_39 : decode cX10_queued 39 = .ok (.ireturn, 1) := by decide +kernel
def rm_X10_queued : Room := { frames := 5, cells := 0, slots := 0, locals := 114 }
def M_X10_queued_24 (k : Nat) (y0 : Int32) (S : Nat → Nat → Int32) : Option (Int32 × (Nat → Nat → Int32)) := if y0 = (-1 : Int32) then ((M_X10_raise k S (1 : Int32)).bind fun q2 => some (q2.1, q2.2)) else (some (y0, S))
set_option maxRecDepth 100000 in
set_option maxHeartbeats 4000000 in
theorem N_X10_queued_24 (C : CX E p l s m args meth c cX10_queued 4 RX10 (some .int) A) (a : Nat → Nat) (k : Nat) {post : Int32 → va_W → Prop} :
    ∀ (y0 : Int32) (S : Nat → Nat → Int32) (q : Int32 × (Nat → Nat → Int32)), M_X10_queued_24 k y0 S = some q → post q.1 (wMd E a q.2) →
      WW E p l e rm_X10_queued s m args below meth c A 0 0 (QI E below post args s rm_X10_queued A) (wMd E a S) 4 [some (.ref (a 0)), none, none, none] 24 [.int y0] := by
  intro y0 S q  h hq
  unfold M_X10_queued_24 at h
  refine r_istore_n (pc := 24) C (i := 3) dX10_queued_24 rfl (by decide) rfl ?_
  refine r_iload_n (pc := 25) C (i := 3) dX10_queued_25 rfl rfl ?_
  refine r_iconst (pc := 26) C (v := (-1)) dX10_queued_26 (by decide) ?_
  refine r_icmp_ne (pc := 27) C (tgt := 38) dX10_queued_27 rfl (fun c1 => ?_) (fun c1 => ?_)
  · rw [if_neg c1] at h
    refine r_iload_n (pc := 38) C (i := 3) dX10_queued_38 rfl rfl ?_
    cases h
    exact r_ireti (pc := 39) C hq (Nat.zero_le _) (Nat.zero_le _) dX10_queued_39
  · rw [if_pos c1] at h
    refine r_aload_n (pc := 30) C (i := 0) dX10_queued_30 rfl rfl ?_
    refine r_iconst (pc := 31) C (v := 1) dX10_queued_31 (by decide) ?_
    obtain ⟨q2, hq2, h⟩ := bnd h
    refine r_callV_CI (Cn := RX10) (pc := 32) C [.int (1 : Int32)] (c_X10_raise E l k a S (1 : Int32) hq2) [0, 1, 2, 3, 4, 5, 6, 7, 8, 9, 10, 11, 12] rfl (by decide) 0 rfl rfl rfl g_X10_267 hd_X10_raise ⟨Nat.le_of_ble_eq_true rfl, Nat.le_of_ble_eq_true rfl⟩ ⟨Nat.zero_le _, Nat.zero_le _⟩ (Nat.le_of_ble_eq_true rfl) rfl dX10_queued_32 (fun r w1 hw1 => ?_)
    obtain ⟨hr1, hw1⟩ := hw1
    subst hr1 hw1
    refine ⟨(wMd E a q2.2), by rfl, ?_⟩
    refine r_goto (pc := 35) C (tgt := 39) dX10_queued_35 rfl ?_
    cases h
    exact r_ireti (pc := 39) C hq (Nat.zero_le _) (Nat.zero_le _) dX10_queued_39
def M_X10_queued_0 (k : Nat) (p0 : Int32) (p1 : Int32) (S : Nat → Nat → Int32) : Option (Int32 × (Nat → Nat → Int32)) := lt (va_up S 0 (upd (S 0) 1 (0 : Int32))) fun F3 => (M_X10_isWorker k F3 p0).bind fun q4 => if q4 = 0 then (M_X10_queued_24 k (-1 : Int32) F3) else ((M_X10_inPlace k F3 (0 : Int32) p0 p1).bind fun q6 => M_X10_queued_24 k q6 F3)
set_option maxRecDepth 100000 in
set_option maxHeartbeats 4000000 in
theorem N_X10_queued_0 (C : CX E p l s m args meth c cX10_queued 4 RX10 (some .int) A) (a : Nat → Nat) (k : Nat) {post : Int32 → va_W → Prop} :
    ∀ (p0 : Int32) (p1 : Int32) (S : Nat → Nat → Int32) (q : Int32 × (Nat → Nat → Int32)), M_X10_queued_0 k p0 p1 S = some q → post q.1 (wMd E a q.2) →
      WW E p l e rm_X10_queued s m args below meth c A 0 0 (QI E below post args s rm_X10_queued A) (wMd E a S) 4 [some (.ref (a 0)), some (.int p0), some (.int p1), none] 0 [] := by
  intro p0 p1 S q  h hq
  unfold M_X10_queued_0 at h
  refine r_aload_n (pc := 0) C (i := 0) dX10_queued_0 rfl rfl ?_
  refine r_iconst (pc := 1) C (v := 0) dX10_queued_1 (by decide) ?_
  obtain ⟨F3, hF3, h⟩ := lt_e h
  refine r_put (pc := 2) C gwX10 tyX10 tyX10_ok nmX10 0 rfl rfl 6 (by decide) wm_5_209 rfl rfl rfl rfl (Nat.le_of_ble_eq_true rfl) (w' := (wMd E a F3)) (by rw [hF3]; rfl) dX10_queued_2 ?_
  refine r_aload_n (pc := 5) C (i := 0) dX10_queued_5 rfl rfl ?_
  refine r_iload_n (pc := 6) C (i := 1) dX10_queued_6 rfl rfl ?_
  obtain ⟨q4, hq4, h⟩ := bnd h
  refine r_callVp_CI (Cn := RX10) (pc := 7) C [.int p0] (c_X10_isWorker E l k a F3 p0 hq4) [0, 1, 2, 3, 4, 5, 6, 7, 8, 9, 10, 11, 12] rfl (by decide) 0 rfl rfl rfl g_X10_270 hd_X10_isWorker ⟨Nat.le_of_ble_eq_true rfl, Nat.le_of_ble_eq_true rfl⟩ ⟨Nat.zero_le _, Nat.zero_le _⟩ (Nat.le_of_ble_eq_true rfl) rfl dX10_queued_7 (fun r hr => ?_)
  have hr := hr.symm
  subst hr
  refine r_if_eq (pc := 10) C (tgt := 23) dX10_queued_10 rfl (fun c5 => ?_) (fun c5 => ?_)
  · rw [if_pos c5] at h
    refine r_iconst (pc := 23) C (v := (-1)) dX10_queued_23 (by decide) ?_
    refine r_weak (lSub_s (lSub_n (lSub_n (lSub_n lSub_e)))) ?_
    exact N_X10_queued_24 C a k (-1 : Int32) F3 q  h hq
  · rw [if_neg c5] at h
    refine r_aload_n (pc := 13) C (i := 0) dX10_queued_13 rfl rfl ?_
    refine r_iconst (pc := 14) C (v := 0) dX10_queued_14 (by decide) ?_
    refine r_iload_n (pc := 15) C (i := 1) dX10_queued_15 rfl rfl ?_
    refine r_iload_n (pc := 16) C (i := 2) dX10_queued_16 rfl rfl ?_
    obtain ⟨q6, hq6, h⟩ := bnd h
    refine r_callVp_CI (Cn := RX10) (pc := 17) C [.int (0 : Int32), .int p0, .int p1] (c_X10_inPlace E l k a F3 (0 : Int32) p0 p1 hq6) [0, 1, 2, 3, 4, 5, 6, 7, 8, 9, 10, 11, 12] rfl (by decide) 0 rfl rfl rfl g_X10_288 hd_X10_inPlace ⟨Nat.le_of_ble_eq_true rfl, Nat.le_of_ble_eq_true rfl⟩ ⟨Nat.zero_le _, Nat.zero_le _⟩ (Nat.le_of_ble_eq_true rfl) rfl dX10_queued_17 (fun r hr => ?_)
    have hr := hr.symm
    subst hr
    refine r_goto (pc := 20) C (tgt := 24) dX10_queued_20 rfl ?_
    refine r_weak (lSub_s (lSub_n (lSub_n (lSub_n lSub_e)))) ?_
    exact N_X10_queued_24 C a k q6 F3 q  h hq
def M_X10_queued (k : Nat) (S : Nat → Nat → Int32) (p0 : Int32) (p1 : Int32) : Option (Int32 × (Nat → Nat → Int32)) := M_X10_queued_0 k p0 p1 S
set_option maxRecDepth 100000 in
set_option maxHeartbeats 4000000 in
theorem c_X10_queued (E : ENV) (l : Launch) (k : Nat) (a : Nat → Nat) (S : Nat → Nat → Int32) (p0 : Int32) (p1 : Int32) {q : Int32 × (Nat → Nat → Int32)} (hm : M_X10_queued k S p0 p1 = some q) : CI E l yX10_queued cX10_queued 4 (some .int) rm_X10_queued [.ref (a 0), .int p0, .int p1] (wMd E a S) (fun r w' => r = q.1 ∧ w' = (wMd E a q.2)) :=
  CI.of 1 (by decide) (Nat.le_of_ble_eq_true rfl) (fun p e s m below meth c A C _ => r_weak (lSub_s (lSub_s (lSub_s (lSub_n lSub_e)))) (N_X10_queued_0 C a k p0 p1 S q  hm ⟨rfl, rfl⟩))
-- ShardGuardModel.parked(I)I
theorem dX10_parked_0 : decode cX10_parked 0 = .ok (.aload_n 0, 1) := by decide +kernel
theorem dX10_parked_1 : decode cX10_parked 1 = .ok (.iconst 0, 1) := by decide +kernel
theorem dX10_parked_2 : decode cX10_parked 2 = .ok (.putfield 93, 3) := by decide +kernel
theorem dX10_parked_5 : decode cX10_parked 5 = .ok (.aload_n 0, 1) := by decide +kernel
theorem dX10_parked_6 : decode cX10_parked 6 = .ok (.iconst 1, 1) := by decide +kernel
theorem dX10_parked_7 : decode cX10_parked 7 = .ok (.iconst (-1), 1) := by decide +kernel
theorem dX10_parked_8 : decode cX10_parked 8 = .ok (.iload_n 1, 1) := by decide +kernel
theorem dX10_parked_9 : decode cX10_parked 9 = .ok (.invokevirtual 288, 3) := by decide +kernel
theorem dX10_parked_12 : decode cX10_parked 12 = .ok (.istore_n 2, 1) := by decide +kernel
theorem dX10_parked_13 : decode cX10_parked 13 = .ok (.iload_n 2, 1) := by decide +kernel
theorem dX10_parked_14 : decode cX10_parked 14 = .ok (.iconst (-1), 1) := by decide +kernel
theorem dX10_parked_15 : decode cX10_parked 15 = .ok (.if_icmp .ne 11, 3) := by decide +kernel
theorem dX10_parked_18 : decode cX10_parked 18 = .ok (.aload_n 0, 1) := by decide +kernel
theorem dX10_parked_19 : decode cX10_parked 19 = .ok (.iconst 1, 1) := by decide +kernel
theorem dX10_parked_20 : decode cX10_parked 20 = .ok (.invokevirtual 267, 3) := by decide +kernel
theorem dX10_parked_23 : decode cX10_parked 23 = .ok (.goto 4, 3) := by decide +kernel
theorem dX10_parked_26 : decode cX10_parked 26 = .ok (.iload_n 2, 1) := by decide +kernel
theorem dX10_parked_27 : decode cX10_parked 27 = .ok (.ireturn, 1) := by decide +kernel
def rm_X10_parked : Room := { frames := 5, cells := 0, slots := 0, locals := 114 }
def M_X10_parked_0 (k : Nat) (p0 : Int32) (S : Nat → Nat → Int32) : Option (Int32 × (Nat → Nat → Int32)) := lt (va_up S 0 (upd (S 0) 1 (0 : Int32))) fun F1 => (M_X10_inPlace k F1 (1 : Int32) (-1 : Int32) p0).bind fun q2 => if q2 = (-1 : Int32) then ((M_X10_raise k F1 (1 : Int32)).bind fun q4 => some (q4.1, q4.2)) else (some (q2, F1))
set_option maxRecDepth 100000 in
set_option maxHeartbeats 4000000 in
theorem N_X10_parked_0 (C : CX E p l s m args meth c cX10_parked 3 RX10 (some .int) A) (a : Nat → Nat) (k : Nat) {post : Int32 → va_W → Prop} :
    ∀ (p0 : Int32) (S : Nat → Nat → Int32) (q : Int32 × (Nat → Nat → Int32)), M_X10_parked_0 k p0 S = some q → post q.1 (wMd E a q.2) →
      WW E p l e rm_X10_parked s m args below meth c A 0 0 (QI E below post args s rm_X10_parked A) (wMd E a S) 3 [some (.ref (a 0)), some (.int p0), none] 0 [] := by
  intro p0 S q  h hq
  unfold M_X10_parked_0 at h
  refine r_aload_n (pc := 0) C (i := 0) dX10_parked_0 rfl rfl ?_
  refine r_iconst (pc := 1) C (v := 0) dX10_parked_1 (by decide) ?_
  obtain ⟨F1, hF1, h⟩ := lt_e h
  refine r_put (pc := 2) C gwX10 tyX10 tyX10_ok nmX10 0 rfl rfl 6 (by decide) wm_5_209 rfl rfl rfl rfl (Nat.le_of_ble_eq_true rfl) (w' := (wMd E a F1)) (by rw [hF1]; rfl) dX10_parked_2 ?_
  refine r_aload_n (pc := 5) C (i := 0) dX10_parked_5 rfl rfl ?_
  refine r_iconst (pc := 6) C (v := 1) dX10_parked_6 (by decide) ?_
  refine r_iconst (pc := 7) C (v := (-1)) dX10_parked_7 (by decide) ?_
  refine r_iload_n (pc := 8) C (i := 1) dX10_parked_8 rfl rfl ?_
  obtain ⟨q2, hq2, h⟩ := bnd h
  refine r_callVp_CI (Cn := RX10) (pc := 9) C [.int (1 : Int32), .int (-1 : Int32), .int p0] (c_X10_inPlace E l k a F1 (1 : Int32) (-1 : Int32) p0 hq2) [0, 1, 2, 3, 4, 5, 6, 7, 8, 9, 10, 11, 12] rfl (by decide) 0 rfl rfl rfl g_X10_288 hd_X10_inPlace ⟨Nat.le_of_ble_eq_true rfl, Nat.le_of_ble_eq_true rfl⟩ ⟨Nat.zero_le _, Nat.zero_le _⟩ (Nat.le_of_ble_eq_true rfl) rfl dX10_parked_9 (fun r hr => ?_)
  have hr := hr.symm
  subst hr
  refine r_istore_n (pc := 12) C (i := 2) dX10_parked_12 rfl (by decide) rfl ?_
  refine r_iload_n (pc := 13) C (i := 2) dX10_parked_13 rfl rfl ?_
  refine r_iconst (pc := 14) C (v := (-1)) dX10_parked_14 (by decide) ?_
  refine r_icmp_ne (pc := 15) C (tgt := 26) dX10_parked_15 rfl (fun c3 => ?_) (fun c3 => ?_)
  · rw [if_neg c3] at h
    refine r_iload_n (pc := 26) C (i := 2) dX10_parked_26 rfl rfl ?_
    cases h
    exact r_ireti (pc := 27) C hq (Nat.zero_le _) (Nat.zero_le _) dX10_parked_27
  · rw [if_pos c3] at h
    refine r_aload_n (pc := 18) C (i := 0) dX10_parked_18 rfl rfl ?_
    refine r_iconst (pc := 19) C (v := 1) dX10_parked_19 (by decide) ?_
    obtain ⟨q4, hq4, h⟩ := bnd h
    refine r_callV_CI (Cn := RX10) (pc := 20) C [.int (1 : Int32)] (c_X10_raise E l k a F1 (1 : Int32) hq4) [0, 1, 2, 3, 4, 5, 6, 7, 8, 9, 10, 11, 12] rfl (by decide) 0 rfl rfl rfl g_X10_267 hd_X10_raise ⟨Nat.le_of_ble_eq_true rfl, Nat.le_of_ble_eq_true rfl⟩ ⟨Nat.zero_le _, Nat.zero_le _⟩ (Nat.le_of_ble_eq_true rfl) rfl dX10_parked_20 (fun r w1 hw1 => ?_)
    obtain ⟨hr1, hw1⟩ := hw1
    subst hr1 hw1
    refine ⟨(wMd E a q4.2), by rfl, ?_⟩
    refine r_goto (pc := 23) C (tgt := 27) dX10_parked_23 rfl ?_
    cases h
    exact r_ireti (pc := 27) C hq (Nat.zero_le _) (Nat.zero_le _) dX10_parked_27
def M_X10_parked (k : Nat) (S : Nat → Nat → Int32) (p0 : Int32) : Option (Int32 × (Nat → Nat → Int32)) := M_X10_parked_0 k p0 S
set_option maxRecDepth 100000 in
set_option maxHeartbeats 4000000 in
theorem c_X10_parked (E : ENV) (l : Launch) (k : Nat) (a : Nat → Nat) (S : Nat → Nat → Int32) (p0 : Int32) {q : Int32 × (Nat → Nat → Int32)} (hm : M_X10_parked k S p0 = some q) : CI E l yX10_parked cX10_parked 3 (some .int) rm_X10_parked [.ref (a 0), .int p0] (wMd E a S) (fun r w' => r = q.1 ∧ w' = (wMd E a q.2)) :=
  CI.of 1 (by decide) (Nat.le_of_ble_eq_true rfl) (fun p e s m below meth c A C _ => r_weak (lSub_s (lSub_s (lSub_n lSub_e))) (N_X10_parked_0 C a k p0 S q  hm ⟨rfl, rfl⟩))
-- ShardGuardModel.killsOf(II)I
theorem dX10_killsOf_0 : decode cX10_killsOf 0 = .ok (.aload_n 0, 1) := by decide +kernel
theorem dX10_killsOf_1 : decode cX10_killsOf 1 = .ok (.iconst 0, 1) := by decide +kernel
theorem dX10_killsOf_2 : decode cX10_killsOf 2 = .ok (.putfield 93, 3) := by decide +kernel
theorem dX10_killsOf_5 : decode cX10_killsOf 5 = .ok (.aload_n 0, 1) := by decide +kernel
theorem dX10_killsOf_6 : decode cX10_killsOf 6 = .ok (.iload_n 1, 1) := by decide +kernel
theorem dX10_killsOf_7 : decode cX10_killsOf 7 = .ok (.invokevirtual 279, 3) := by decide +kernel
theorem dX10_killsOf_10 : decode cX10_killsOf 10 = .ok (.ifCond .eq 20, 3) := by decide +kernel
theorem dX10_killsOf_13 : decode cX10_killsOf 13 = .ok (.aload_n 0, 1) := by decide +kernel
theorem dX10_killsOf_14 : decode cX10_killsOf 14 = .ok (.iload_n 2, 1) := by decide +kernel
theorem dX10_killsOf_15 : decode cX10_killsOf 15 = .ok (.invokevirtual 270, 3) := by decide +kernel
theorem dX10_killsOf_18 : decode cX10_killsOf 18 = .ok (.ifCond .eq 12, 3) := by decide +kernel
theorem dX10_killsOf_21 : decode cX10_killsOf 21 = .ok (.aload_n 0, 1) := by decide +kernel
theorem dX10_killsOf_22 : decode cX10_killsOf 22 = .ok (.iload_n 1, 1) := by decide +kernel
theorem dX10_killsOf_23 : decode cX10_killsOf 23 = .ok (.iload_n 2, 1) := by decide +kernel
theorem dX10_killsOf_24 : decode cX10_killsOf 24 = .ok (.invokevirtual 273, 3) := by decide +kernel
theorem dX10_killsOf_27 : decode cX10_killsOf 27 = .ok (.goto 8, 3) := by decide +kernel
theorem dX10_killsOf_30 : decode cX10_killsOf 30 = .ok (.aload_n 0, 1) := by decide +kernel
theorem dX10_killsOf_31 : decode cX10_killsOf 31 = .ok (.iconst 1, 1) := by decide +kernel
theorem dX10_killsOf_32 : decode cX10_killsOf 32 = .ok (.invokevirtual 267, 3) := by decide +kernel
theorem dX10_killsOf_35 : decode cX10_killsOf 35 = .ok (.ireturn, 1) := by decide +kernel
def rm_X10_killsOf : Room := { frames := 2, cells := 0, slots := 0, locals := 47 }
def M_X10_killsOf_0 (k : Nat) (p0 : Int32) (p1 : Int32) (S : Nat → Nat → Int32) : Option (Int32 × (Nat → Nat → Int32)) := lt (va_up S 0 (upd (S 0) 1 (0 : Int32))) fun F1 => (M_X10_isTenant k F1 p0).bind fun q2 => if q2 = 0 then ((M_X10_raise k F1 (1 : Int32)).bind fun q4 => some (q4.1, q4.2)) else ((M_X10_isWorker k F1 p1).bind fun q5 => if q5 = 0 then ((M_X10_raise k F1 (1 : Int32)).bind fun q7 => some (q7.1, q7.2)) else ((M_X10_kills k F1 p0 p1).bind fun q8 => some (q8, F1)))
set_option maxRecDepth 100000 in
set_option maxHeartbeats 4000000 in
theorem N_X10_killsOf_0 (C : CX E p l s m args meth c cX10_killsOf 3 RX10 (some .int) A) (a : Nat → Nat) (k : Nat) {post : Int32 → va_W → Prop} :
    ∀ (p0 : Int32) (p1 : Int32) (S : Nat → Nat → Int32) (q : Int32 × (Nat → Nat → Int32)), M_X10_killsOf_0 k p0 p1 S = some q → post q.1 (wMd E a q.2) →
      WW E p l e rm_X10_killsOf s m args below meth c A 0 0 (QI E below post args s rm_X10_killsOf A) (wMd E a S) 3 [some (.ref (a 0)), some (.int p0), some (.int p1)] 0 [] := by
  intro p0 p1 S q  h hq
  unfold M_X10_killsOf_0 at h
  refine r_aload_n (pc := 0) C (i := 0) dX10_killsOf_0 rfl rfl ?_
  refine r_iconst (pc := 1) C (v := 0) dX10_killsOf_1 (by decide) ?_
  obtain ⟨F1, hF1, h⟩ := lt_e h
  refine r_put (pc := 2) C gwX10 tyX10 tyX10_ok nmX10 0 rfl rfl 6 (by decide) wm_5_209 rfl rfl rfl rfl (Nat.le_of_ble_eq_true rfl) (w' := (wMd E a F1)) (by rw [hF1]; rfl) dX10_killsOf_2 ?_
  refine r_aload_n (pc := 5) C (i := 0) dX10_killsOf_5 rfl rfl ?_
  refine r_iload_n (pc := 6) C (i := 1) dX10_killsOf_6 rfl rfl ?_
  obtain ⟨q2, hq2, h⟩ := bnd h
  refine r_callVp_CI (Cn := RX10) (pc := 7) C [.int p0] (c_X10_isTenant E l k a F1 p0 hq2) [0, 1, 2, 3, 4, 5, 6, 7, 8, 9, 10, 11, 12] rfl (by decide) 0 rfl rfl rfl g_X10_279 hd_X10_isTenant ⟨Nat.le_of_ble_eq_true rfl, Nat.le_of_ble_eq_true rfl⟩ ⟨Nat.zero_le _, Nat.zero_le _⟩ (Nat.le_of_ble_eq_true rfl) rfl dX10_killsOf_7 (fun r hr => ?_)
  have hr := hr.symm
  subst hr
  refine r_if_eq (pc := 10) C (tgt := 30) dX10_killsOf_10 rfl (fun c3 => ?_) (fun c3 => ?_)
  · rw [if_pos c3] at h
    refine r_aload_n (pc := 30) C (i := 0) dX10_killsOf_30 rfl rfl ?_
    refine r_iconst (pc := 31) C (v := 1) dX10_killsOf_31 (by decide) ?_
    obtain ⟨q4, hq4, h⟩ := bnd h
    refine r_callV_CI (Cn := RX10) (pc := 32) C [.int (1 : Int32)] (c_X10_raise E l k a F1 (1 : Int32) hq4) [0, 1, 2, 3, 4, 5, 6, 7, 8, 9, 10, 11, 12] rfl (by decide) 0 rfl rfl rfl g_X10_267 hd_X10_raise ⟨Nat.le_of_ble_eq_true rfl, Nat.le_of_ble_eq_true rfl⟩ ⟨Nat.zero_le _, Nat.zero_le _⟩ (Nat.le_of_ble_eq_true rfl) rfl dX10_killsOf_32 (fun r w1 hw1 => ?_)
    obtain ⟨hr1, hw1⟩ := hw1
    subst hr1 hw1
    refine ⟨(wMd E a q4.2), by rfl, ?_⟩
    cases h
    exact r_ireti (pc := 35) C hq (Nat.zero_le _) (Nat.zero_le _) dX10_killsOf_35
  · rw [if_neg c3] at h
    refine r_aload_n (pc := 13) C (i := 0) dX10_killsOf_13 rfl rfl ?_
    refine r_iload_n (pc := 14) C (i := 2) dX10_killsOf_14 rfl rfl ?_
    obtain ⟨q5, hq5, h⟩ := bnd h
    refine r_callVp_CI (Cn := RX10) (pc := 15) C [.int p1] (c_X10_isWorker E l k a F1 p1 hq5) [0, 1, 2, 3, 4, 5, 6, 7, 8, 9, 10, 11, 12] rfl (by decide) 0 rfl rfl rfl g_X10_270 hd_X10_isWorker ⟨Nat.le_of_ble_eq_true rfl, Nat.le_of_ble_eq_true rfl⟩ ⟨Nat.zero_le _, Nat.zero_le _⟩ (Nat.le_of_ble_eq_true rfl) rfl dX10_killsOf_15 (fun r hr => ?_)
    have hr := hr.symm
    subst hr
    refine r_if_eq (pc := 18) C (tgt := 30) dX10_killsOf_18 rfl (fun c6 => ?_) (fun c6 => ?_)
    · rw [if_pos c6] at h
      refine r_aload_n (pc := 30) C (i := 0) dX10_killsOf_30 rfl rfl ?_
      refine r_iconst (pc := 31) C (v := 1) dX10_killsOf_31 (by decide) ?_
      obtain ⟨q7, hq7, h⟩ := bnd h
      refine r_callV_CI (Cn := RX10) (pc := 32) C [.int (1 : Int32)] (c_X10_raise E l k a F1 (1 : Int32) hq7) [0, 1, 2, 3, 4, 5, 6, 7, 8, 9, 10, 11, 12] rfl (by decide) 0 rfl rfl rfl g_X10_267 hd_X10_raise ⟨Nat.le_of_ble_eq_true rfl, Nat.le_of_ble_eq_true rfl⟩ ⟨Nat.zero_le _, Nat.zero_le _⟩ (Nat.le_of_ble_eq_true rfl) rfl dX10_killsOf_32 (fun r w1 hw1 => ?_)
      obtain ⟨hr1, hw1⟩ := hw1
      subst hr1 hw1
      refine ⟨(wMd E a q7.2), by rfl, ?_⟩
      cases h
      exact r_ireti (pc := 35) C hq (Nat.zero_le _) (Nat.zero_le _) dX10_killsOf_35
    · rw [if_neg c6] at h
      refine r_aload_n (pc := 21) C (i := 0) dX10_killsOf_21 rfl rfl ?_
      refine r_iload_n (pc := 22) C (i := 1) dX10_killsOf_22 rfl rfl ?_
      refine r_iload_n (pc := 23) C (i := 2) dX10_killsOf_23 rfl rfl ?_
      obtain ⟨q8, hq8, h⟩ := bnd h
      refine r_callVp_CI (Cn := RX10) (pc := 24) C [.int p0, .int p1] (c_X10_kills E l k a F1 p0 p1 hq8) [0, 1, 2, 3, 4, 5, 6, 7, 8, 9, 10, 11, 12] rfl (by decide) 0 rfl rfl rfl g_X10_273 hd_X10_kills ⟨Nat.le_of_ble_eq_true rfl, Nat.le_of_ble_eq_true rfl⟩ ⟨Nat.zero_le _, Nat.zero_le _⟩ (Nat.le_of_ble_eq_true rfl) rfl dX10_killsOf_24 (fun r hr => ?_)
      have hr := hr.symm
      subst hr
      refine r_goto (pc := 27) C (tgt := 35) dX10_killsOf_27 rfl ?_
      cases h
      exact r_ireti (pc := 35) C hq (Nat.zero_le _) (Nat.zero_le _) dX10_killsOf_35
def M_X10_killsOf (k : Nat) (S : Nat → Nat → Int32) (p0 : Int32) (p1 : Int32) : Option (Int32 × (Nat → Nat → Int32)) := M_X10_killsOf_0 k p0 p1 S
set_option maxRecDepth 100000 in
set_option maxHeartbeats 4000000 in
theorem c_X10_killsOf (E : ENV) (l : Launch) (k : Nat) (a : Nat → Nat) (S : Nat → Nat → Int32) (p0 : Int32) (p1 : Int32) {q : Int32 × (Nat → Nat → Int32)} (hm : M_X10_killsOf k S p0 p1 = some q) : CI E l yX10_killsOf cX10_killsOf 3 (some .int) rm_X10_killsOf [.ref (a 0), .int p0, .int p1] (wMd E a S) (fun r w' => r = q.1 ∧ w' = (wMd E a q.2)) :=
  CI.of 0 (by decide) (Nat.le_of_ble_eq_true rfl) (fun p e s m below meth c A C _ => r_weak (lSub_s (lSub_s (lSub_s lSub_e))) (N_X10_killsOf_0 C a k p0 p1 S q  hm ⟨rfl, rfl⟩))
-- ShardGuardModel.killingPairs()I
theorem dX10_killingPairs_0 : decode cX10_killingPairs 0 = .ok (.aload_n 0, 1) := by decide +kernel
theorem dX10_killingPairs_1 : decode cX10_killingPairs 1 = .ok (.iconst 0, 1) := by decide +kernel
theorem dX10_killingPairs_2 : decode cX10_killingPairs 2 = .ok (.putfield 93, 3) := by decide +kernel
theorem dX10_killingPairs_5 : decode cX10_killingPairs 5 = .ok (.iconst 0, 1) := by decide +kernel
theorem dX10_killingPairs_6 : decode cX10_killingPairs 6 = .ok (.istore_n 1, 1) := by decide +kernel
theorem dX10_killingPairs_7 : decode cX10_killingPairs 7 = .ok (.iconst 0, 1) := by decide +kernel
theorem dX10_killingPairs_8 : decode cX10_killingPairs 8 = .ok (.istore_n 2, 1) := by decide +kernel
theorem dX10_killingPairs_9 : decode cX10_killingPairs 9 = .ok (.iload_n 2, 1) := by decide +kernel
theorem dX10_killingPairs_10 : decode cX10_killingPairs 10 = .ok (.aload_n 0, 1) := by decide +kernel
theorem dX10_killingPairs_11 : decode cX10_killingPairs 11 = .ok (.invokevirtual 114, 3) := by decide +kernel
theorem dX10_killingPairs_14 : decode cX10_killingPairs 14 = .ok (.if_icmp .ge 42, 3) := by decide +kernel
theorem dX10_killingPairs_17 : decode cX10_killingPairs 17 = .ok (.iconst 0, 1) := by decide +kernel
theorem dX10_killingPairs_18 : decode cX10_killingPairs 18 = .ok (.istore_n 3, 1) := by decide +kernel
theorem dX10_killingPairs_19 : decode cX10_killingPairs 19 = .ok (.iload_n 3, 1) := by decide +kernel
theorem dX10_killingPairs_20 : decode cX10_killingPairs 20 = .ok (.aload_n 0, 1) := by decide +kernel
theorem dX10_killingPairs_21 : decode cX10_killingPairs 21 = .ok (.invokevirtual 106, 3) := by decide +kernel
theorem dX10_killingPairs_24 : decode cX10_killingPairs 24 = .ok (.if_icmp .ge 26, 3) := by decide +kernel
theorem dX10_killingPairs_27 : decode cX10_killingPairs 27 = .ok (.iload_n 1, 1) := by decide +kernel
theorem dX10_killingPairs_28 : decode cX10_killingPairs 28 = .ok (.aload_n 0, 1) := by decide +kernel
theorem dX10_killingPairs_29 : decode cX10_killingPairs 29 = .ok (.iload_n 2, 1) := by decide +kernel
theorem dX10_killingPairs_30 : decode cX10_killingPairs 30 = .ok (.iload_n 3, 1) := by decide +kernel
theorem dX10_killingPairs_31 : decode cX10_killingPairs 31 = .ok (.invokevirtual 273, 3) := by decide +kernel
theorem dX10_killingPairs_34 : decode cX10_killingPairs 34 = .ok (.ifCond .le 7, 3) := by decide +kernel
theorem dX10_killingPairs_37 : decode cX10_killingPairs 37 = .ok (.iconst 1, 1) := by decide +kernel
theorem dX10_killingPairs_38 : decode cX10_killingPairs 38 = .ok (.goto 4, 3) := by decide +kernel
theorem dX10_killingPairs_41 : decode cX10_killingPairs 41 = .ok (.iconst 0, 1) := by decide +kernel
theorem dX10_killingPairs_42 : decode cX10_killingPairs 42 = .ok (.iadd, 1) := by decide +kernel
theorem dX10_killingPairs_43 : decode cX10_killingPairs 43 = .ok (.istore_n 1, 1) := by decide +kernel
theorem dX10_killingPairs_44 : decode cX10_killingPairs 44 = .ok (.iinc 3 1, 3) := by decide +kernel
theorem dX10_killingPairs_47 : decode cX10_killingPairs 47 = .ok (.goto (-28), 3) := by decide +kernel
theorem dX10_killingPairs_50 : decode cX10_killingPairs 50 = .ok (.iinc 2 1, 3) := by decide +kernel
theorem dX10_killingPairs_53 : decode cX10_killingPairs 53 = .ok (.goto (-44), 3) := by decide +kernel
theorem dX10_killingPairs_56 : decode cX10_killingPairs 56 = .ok (.iload_n 1, 1) := by decide +kernel
theorem dX10_killingPairs_57 : decode cX10_killingPairs 57 = .ok (.ireturn, 1) := by decide +kernel
def rm_X10_killingPairs : Room := { frames := 2, cells := 0, slots := 0, locals := 47 }
def M_X10_killingPairs_19 (k : Nat) (κ9 : Int32 → Int32 → (Nat → Nat → Int32) → Option (Int32 × (Nat → Nat → Int32))) : Nat → (Int32) → (Int32) → (Int32) → (Nat → Nat → Int32) → Option (Int32 × (Nat → Nat → Int32))
  | 0, _, _, _, _ => none
  | n + 1, x1, x2, x3, S => (M_X10_workers k S).bind fun q1 => if q1 ≤ x3 then (κ9 x1 (x2 + 1) S) else ((M_X10_kills k S x2 x3).bind fun q3 => if q3 ≤ 0 then (lt (x1 + (0 : Int32)) fun v5 => M_X10_killingPairs_19 k κ9 n v5 x2 (x3 + 1) S) else (lt (x1 + (1 : Int32)) fun v6 => M_X10_killingPairs_19 k κ9 n v6 x2 (x3 + 1) S))
theorem M_X10_killingPairs_19_s (k : Nat) (κ9 : Int32 → Int32 → (Nat → Nat → Int32) → Option (Int32 × (Nat → Nat → Int32))) (n : Nat) (x1 : Int32) (x2 : Int32) (x3 : Int32) (S : Nat → Nat → Int32) : M_X10_killingPairs_19 k κ9 (n + 1) x1 x2 x3 S = ((M_X10_workers k S).bind fun q1 => if q1 ≤ x3 then (κ9 x1 (x2 + 1) S) else ((M_X10_kills k S x2 x3).bind fun q3 => if q3 ≤ 0 then (lt (x1 + (0 : Int32)) fun v5 => M_X10_killingPairs_19 k κ9 n v5 x2 (x3 + 1) S) else (lt (x1 + (1 : Int32)) fun v6 => M_X10_killingPairs_19 k κ9 n v6 x2 (x3 + 1) S))) := rfl
set_option maxRecDepth 100000 in
set_option maxHeartbeats 4000000 in
theorem N_X10_killingPairs_19 (C : CX E p l s m args meth c cX10_killingPairs 4 RX10 (some .int) A) (a : Nat → Nat) (k : Nat) {post : Int32 → va_W → Prop} (κ9 : Int32 → Int32 → (Nat → Nat → Int32) → Option (Int32 × (Nat → Nat → Int32))) (hκ9 : ∀ (x1 : Int32) (x2 : Int32) (S : Nat → Nat → Int32) (q : Int32 × (Nat → Nat → Int32)), κ9 x1 x2 S = some q → post q.1 (wMd E a q.2) → WW E p l e rm_X10_killingPairs s m args below meth c A 0 0 (QI E below post args s rm_X10_killingPairs A) (wMd E a S) 4 [some (.ref (a 0)), some (.int x1), some (.int x2), none] 9 []) :
    ∀ (n : Nat) (x1 : Int32) (x2 : Int32) (x3 : Int32) (S : Nat → Nat → Int32) (q : Int32 × (Nat → Nat → Int32)), M_X10_killingPairs_19 k κ9 n x1 x2 x3 S = some q → post q.1 (wMd E a q.2) →
      WW E p l e rm_X10_killingPairs s m args below meth c A 0 0 (QI E below post args s rm_X10_killingPairs A) (wMd E a S) 4 [some (.ref (a 0)), some (.int x1), some (.int x2), some (.int x3)] 19 [] := by
  intro n
  induction n with
  | zero => intro x1 x2 x3 S q  h _; cases h
  | succ n ih =>
    intro x1 x2 x3 S q  h hq
    rw [M_X10_killingPairs_19_s] at h
    refine r_iload_n (pc := 19) C (i := 3) dX10_killingPairs_19 rfl rfl ?_
    refine r_aload_n (pc := 20) C (i := 0) dX10_killingPairs_20 rfl rfl ?_
    obtain ⟨q1, hq1, h⟩ := bnd h
    refine r_callVp_CI (Cn := RX10) (pc := 21) C [] (c_X10_workers E l k a S hq1) [0, 1, 2, 3, 4, 5, 6, 7, 8, 9, 10, 11, 12] rfl (by decide) 0 rfl rfl rfl g_X10_106 hd_X10_workers ⟨Nat.le_of_ble_eq_true rfl, Nat.le_of_ble_eq_true rfl⟩ ⟨Nat.zero_le _, Nat.zero_le _⟩ (Nat.le_of_ble_eq_true rfl) rfl dX10_killingPairs_21 (fun r hr => ?_)
    have hr := hr.symm
    subst hr
    refine r_icmp_ge (pc := 24) C (tgt := 50) dX10_killingPairs_24 rfl (fun c2 => ?_) (fun c2 => ?_)
    · rw [if_pos c2] at h
      refine r_iinc (pc := 50) C (v := (x2 + 1)) dX10_killingPairs_50 rfl rfl (by decide) rfl ?_
      refine r_goto (pc := 53) C (tgt := 9) dX10_killingPairs_53 rfl ?_
      refine r_weak (lSub_s (lSub_s (lSub_s (lSub_n lSub_e)))) ?_
      exact hκ9 x1 (x2 + 1) S q  h hq
    · rw [if_neg c2] at h
      refine r_iload_n (pc := 27) C (i := 1) dX10_killingPairs_27 rfl rfl ?_
      refine r_aload_n (pc := 28) C (i := 0) dX10_killingPairs_28 rfl rfl ?_
      refine r_iload_n (pc := 29) C (i := 2) dX10_killingPairs_29 rfl rfl ?_
      refine r_iload_n (pc := 30) C (i := 3) dX10_killingPairs_30 rfl rfl ?_
      obtain ⟨q3, hq3, h⟩ := bnd h
      refine r_callVp_CI (Cn := RX10) (pc := 31) C [.int x2, .int x3] (c_X10_kills E l k a S x2 x3 hq3) [0, 1, 2, 3, 4, 5, 6, 7, 8, 9, 10, 11, 12] rfl (by decide) 0 rfl rfl rfl g_X10_273 hd_X10_kills ⟨Nat.le_of_ble_eq_true rfl, Nat.le_of_ble_eq_true rfl⟩ ⟨Nat.zero_le _, Nat.zero_le _⟩ (Nat.le_of_ble_eq_true rfl) rfl dX10_killingPairs_31 (fun r hr => ?_)
      have hr := hr.symm
      subst hr
      refine r_if_le (pc := 34) C (tgt := 41) dX10_killingPairs_34 rfl (fun c4 => ?_) (fun c4 => ?_)
      · rw [if_pos c4] at h
        refine r_iconst (pc := 41) C (v := 0) dX10_killingPairs_41 (by decide) ?_
        refine r_iadd (pc := 42) C dX10_killingPairs_42 ?_
        obtain ⟨v5, hv5, h⟩ := lt_e h
        refine r_topi hv5 ?_
        refine r_istore_n (pc := 43) C (i := 1) dX10_killingPairs_43 rfl (by decide) rfl ?_
        refine r_iinc (pc := 44) C (v := (x3 + 1)) dX10_killingPairs_44 rfl rfl (by decide) rfl ?_
        refine r_goto (pc := 47) C (tgt := 19) dX10_killingPairs_47 rfl ?_
        refine r_weak (lSub_s (lSub_s (lSub_s (lSub_s lSub_e)))) ?_
        exact ih v5 x2 (x3 + 1) S q  h hq
      · rw [if_neg c4] at h
        refine r_iconst (pc := 37) C (v := 1) dX10_killingPairs_37 (by decide) ?_
        refine r_goto (pc := 38) C (tgt := 42) dX10_killingPairs_38 rfl ?_
        refine r_iadd (pc := 42) C dX10_killingPairs_42 ?_
        obtain ⟨v6, hv6, h⟩ := lt_e h
        refine r_topi hv6 ?_
        refine r_istore_n (pc := 43) C (i := 1) dX10_killingPairs_43 rfl (by decide) rfl ?_
        refine r_iinc (pc := 44) C (v := (x3 + 1)) dX10_killingPairs_44 rfl rfl (by decide) rfl ?_
        refine r_goto (pc := 47) C (tgt := 19) dX10_killingPairs_47 rfl ?_
        refine r_weak (lSub_s (lSub_s (lSub_s (lSub_s lSub_e)))) ?_
        exact ih v6 x2 (x3 + 1) S q  h hq
def M_X10_killingPairs_9 (k : Nat) : Nat → (Int32) → (Int32) → (Nat → Nat → Int32) → Option (Int32 × (Nat → Nat → Int32))
  | 0, _, _, _ => none
  | n + 1, x1, x2, S => (M_X10_tenants k S).bind fun q7 => if q7 ≤ x2 then (some (x1, S)) else (M_X10_killingPairs_19 k (M_X10_killingPairs_9 k n) k x1 x2 (0 : Int32) S)
theorem M_X10_killingPairs_9_s (k : Nat) (n : Nat) (x1 : Int32) (x2 : Int32) (S : Nat → Nat → Int32) : M_X10_killingPairs_9 k (n + 1) x1 x2 S = ((M_X10_tenants k S).bind fun q7 => if q7 ≤ x2 then (some (x1, S)) else (M_X10_killingPairs_19 k (M_X10_killingPairs_9 k n) k x1 x2 (0 : Int32) S)) := rfl
set_option maxRecDepth 100000 in
set_option maxHeartbeats 4000000 in
theorem N_X10_killingPairs_9 (C : CX E p l s m args meth c cX10_killingPairs 4 RX10 (some .int) A) (a : Nat → Nat) (k : Nat) {post : Int32 → va_W → Prop} :
    ∀ (n : Nat) (x1 : Int32) (x2 : Int32) (S : Nat → Nat → Int32) (q : Int32 × (Nat → Nat → Int32)), M_X10_killingPairs_9 k n x1 x2 S = some q → post q.1 (wMd E a q.2) →
      WW E p l e rm_X10_killingPairs s m args below meth c A 0 0 (QI E below post args s rm_X10_killingPairs A) (wMd E a S) 4 [some (.ref (a 0)), some (.int x1), some (.int x2), none] 9 [] := by
  intro n
  induction n with
  | zero => intro x1 x2 S q  h _; cases h
  | succ n ih =>
    intro x1 x2 S q  h hq
    rw [M_X10_killingPairs_9_s] at h
    refine r_iload_n (pc := 9) C (i := 2) dX10_killingPairs_9 rfl rfl ?_
    refine r_aload_n (pc := 10) C (i := 0) dX10_killingPairs_10 rfl rfl ?_
    obtain ⟨q7, hq7, h⟩ := bnd h
    refine r_callVp_CI (Cn := RX10) (pc := 11) C [] (c_X10_tenants E l k a S hq7) [0, 1, 2, 3, 4, 5, 6, 7, 8, 9, 10, 11, 12] rfl (by decide) 0 rfl rfl rfl g_X10_114 hd_X10_tenants ⟨Nat.le_of_ble_eq_true rfl, Nat.le_of_ble_eq_true rfl⟩ ⟨Nat.zero_le _, Nat.zero_le _⟩ (Nat.le_of_ble_eq_true rfl) rfl dX10_killingPairs_11 (fun r hr => ?_)
    have hr := hr.symm
    subst hr
    refine r_icmp_ge (pc := 14) C (tgt := 56) dX10_killingPairs_14 rfl (fun c8 => ?_) (fun c8 => ?_)
    · rw [if_pos c8] at h
      refine r_iload_n (pc := 56) C (i := 1) dX10_killingPairs_56 rfl rfl ?_
      cases h
      exact r_ireti (pc := 57) C hq (Nat.zero_le _) (Nat.zero_le _) dX10_killingPairs_57
    · rw [if_neg c8] at h
      refine r_iconst (pc := 17) C (v := 0) dX10_killingPairs_17 (by decide) ?_
      refine r_istore_n (pc := 18) C (i := 3) dX10_killingPairs_18 rfl (by decide) rfl ?_
      refine r_weak (lSub_s (lSub_s (lSub_s (lSub_s lSub_e)))) ?_
      exact N_X10_killingPairs_19 C a k (M_X10_killingPairs_9 k n) ih k x1 x2 (0 : Int32) S q  h hq
def M_X10_killingPairs_0 (k : Nat) (S : Nat → Nat → Int32) : Option (Int32 × (Nat → Nat → Int32)) := lt (va_up S 0 (upd (S 0) 1 (0 : Int32))) fun F9 => M_X10_killingPairs_9 k k (0 : Int32) (0 : Int32) F9
set_option maxRecDepth 100000 in
set_option maxHeartbeats 4000000 in
theorem N_X10_killingPairs_0 (C : CX E p l s m args meth c cX10_killingPairs 4 RX10 (some .int) A) (a : Nat → Nat) (k : Nat) {post : Int32 → va_W → Prop} :
    ∀ (S : Nat → Nat → Int32) (q : Int32 × (Nat → Nat → Int32)), M_X10_killingPairs_0 k S = some q → post q.1 (wMd E a q.2) →
      WW E p l e rm_X10_killingPairs s m args below meth c A 0 0 (QI E below post args s rm_X10_killingPairs A) (wMd E a S) 4 [some (.ref (a 0)), none, none, none] 0 [] := by
  intro S q  h hq
  unfold M_X10_killingPairs_0 at h
  refine r_aload_n (pc := 0) C (i := 0) dX10_killingPairs_0 rfl rfl ?_
  refine r_iconst (pc := 1) C (v := 0) dX10_killingPairs_1 (by decide) ?_
  obtain ⟨F9, hF9, h⟩ := lt_e h
  refine r_put (pc := 2) C gwX10 tyX10 tyX10_ok nmX10 0 rfl rfl 6 (by decide) wm_5_209 rfl rfl rfl rfl (Nat.le_of_ble_eq_true rfl) (w' := (wMd E a F9)) (by rw [hF9]; rfl) dX10_killingPairs_2 ?_
  refine r_iconst (pc := 5) C (v := 0) dX10_killingPairs_5 (by decide) ?_
  refine r_istore_n (pc := 6) C (i := 1) dX10_killingPairs_6 rfl (by decide) rfl ?_
  refine r_iconst (pc := 7) C (v := 0) dX10_killingPairs_7 (by decide) ?_
  refine r_istore_n (pc := 8) C (i := 2) dX10_killingPairs_8 rfl (by decide) rfl ?_
  refine r_weak (lSub_s (lSub_s (lSub_s (lSub_n lSub_e)))) ?_
  exact N_X10_killingPairs_9 C a k k (0 : Int32) (0 : Int32) F9 q  h hq
def M_X10_killingPairs (k : Nat) (S : Nat → Nat → Int32) : Option (Int32 × (Nat → Nat → Int32)) := M_X10_killingPairs_0 k S
set_option maxRecDepth 100000 in
set_option maxHeartbeats 4000000 in
theorem c_X10_killingPairs (E : ENV) (l : Launch) (k : Nat) (a : Nat → Nat) (S : Nat → Nat → Int32) {q : Int32 × (Nat → Nat → Int32)} (hm : M_X10_killingPairs k S = some q) : CI E l yX10_killingPairs cX10_killingPairs 4 (some .int) rm_X10_killingPairs [.ref (a 0)] (wMd E a S) (fun r w' => r = q.1 ∧ w' = (wMd E a q.2)) :=
  CI.of 3 (by decide) (Nat.le_of_ble_eq_true rfl) (fun p e s m below meth c A C _ => r_weak (lSub_s (lSub_n (lSub_n (lSub_n lSub_e)))) (N_X10_killingPairs_0 C a k S q  hm ⟨rfl, rfl⟩))
-- ShardGuardModel.overlap(II)I
theorem dX10_overlap_0 : decode cX10_overlap 0 = .ok (.aload_n 0, 1) := by decide +kernel
theorem dX10_overlap_1 : decode cX10_overlap 1 = .ok (.iconst 0, 1) := by decide +kernel
theorem dX10_overlap_2 : decode cX10_overlap 2 = .ok (.putfield 93, 3) := by decide +kernel
theorem dX10_overlap_5 : decode cX10_overlap 5 = .ok (.aload_n 0, 1) := by decide +kernel
theorem dX10_overlap_6 : decode cX10_overlap 6 = .ok (.iload_n 1, 1) := by decide +kernel
theorem dX10_overlap_7 : decode cX10_overlap 7 = .ok (.invokevirtual 279, 3) := by decide +kernel
theorem dX10_overlap_10 : decode cX10_overlap 10 = .ok (.ifCond .eq 20, 3) := by decide +kernel
theorem dX10_overlap_13 : decode cX10_overlap 13 = .ok (.aload_n 0, 1) := by decide +kernel
theorem dX10_overlap_14 : decode cX10_overlap 14 = .ok (.iload_n 2, 1) := by decide +kernel
theorem dX10_overlap_15 : decode cX10_overlap 15 = .ok (.invokevirtual 279, 3) := by decide +kernel
theorem dX10_overlap_18 : decode cX10_overlap 18 = .ok (.ifCond .eq 12, 3) := by decide +kernel
theorem dX10_overlap_21 : decode cX10_overlap 21 = .ok (.aload_n 0, 1) := by decide +kernel
theorem dX10_overlap_22 : decode cX10_overlap 22 = .ok (.iload_n 1, 1) := by decide +kernel
theorem dX10_overlap_23 : decode cX10_overlap 23 = .ok (.iload_n 2, 1) := by decide +kernel
theorem dX10_overlap_24 : decode cX10_overlap 24 = .ok (.invokevirtual 216, 3) := by decide +kernel
theorem dX10_overlap_27 : decode cX10_overlap 27 = .ok (.goto 8, 3) := by decide +kernel
theorem dX10_overlap_30 : decode cX10_overlap 30 = .ok (.aload_n 0, 1) := by decide +kernel
theorem dX10_overlap_31 : decode cX10_overlap 31 = .ok (.iconst 1, 1) := by decide +kernel
theorem dX10_overlap_32 : decode cX10_overlap 32 = .ok (.invokevirtual 267, 3) := by decide +kernel
theorem dX10_overlap_35 : decode cX10_overlap 35 = .ok (.ireturn, 1) := by decide +kernel
def rm_X10_overlap : Room := { frames := 3, cells := 0, slots := 0, locals := 65 }
def M_X10_overlap_0 (k : Nat) (p0 : Int32) (p1 : Int32) (S : Nat → Nat → Int32) : Option (Int32 × (Nat → Nat → Int32)) := lt (va_up S 0 (upd (S 0) 1 (0 : Int32))) fun F1 => (M_X10_isTenant k F1 p0).bind fun q2 => if q2 = 0 then ((M_X10_raise k F1 (1 : Int32)).bind fun q4 => some (q4.1, q4.2)) else ((M_X10_isTenant k F1 p1).bind fun q5 => if q5 = 0 then ((M_X10_raise k F1 (1 : Int32)).bind fun q7 => some (q7.1, q7.2)) else ((M_X10_shared k F1 p0 p1).bind fun q8 => some (q8, F1)))
set_option maxRecDepth 100000 in
set_option maxHeartbeats 4000000 in
theorem N_X10_overlap_0 (C : CX E p l s m args meth c cX10_overlap 3 RX10 (some .int) A) (a : Nat → Nat) (k : Nat) {post : Int32 → va_W → Prop} :
    ∀ (p0 : Int32) (p1 : Int32) (S : Nat → Nat → Int32) (q : Int32 × (Nat → Nat → Int32)), M_X10_overlap_0 k p0 p1 S = some q → post q.1 (wMd E a q.2) →
      WW E p l e rm_X10_overlap s m args below meth c A 0 0 (QI E below post args s rm_X10_overlap A) (wMd E a S) 3 [some (.ref (a 0)), some (.int p0), some (.int p1)] 0 [] := by
  intro p0 p1 S q  h hq
  unfold M_X10_overlap_0 at h
  refine r_aload_n (pc := 0) C (i := 0) dX10_overlap_0 rfl rfl ?_
  refine r_iconst (pc := 1) C (v := 0) dX10_overlap_1 (by decide) ?_
  obtain ⟨F1, hF1, h⟩ := lt_e h
  refine r_put (pc := 2) C gwX10 tyX10 tyX10_ok nmX10 0 rfl rfl 6 (by decide) wm_5_209 rfl rfl rfl rfl (Nat.le_of_ble_eq_true rfl) (w' := (wMd E a F1)) (by rw [hF1]; rfl) dX10_overlap_2 ?_
  refine r_aload_n (pc := 5) C (i := 0) dX10_overlap_5 rfl rfl ?_
  refine r_iload_n (pc := 6) C (i := 1) dX10_overlap_6 rfl rfl ?_
  obtain ⟨q2, hq2, h⟩ := bnd h
  refine r_callVp_CI (Cn := RX10) (pc := 7) C [.int p0] (c_X10_isTenant E l k a F1 p0 hq2) [0, 1, 2, 3, 4, 5, 6, 7, 8, 9, 10, 11, 12] rfl (by decide) 0 rfl rfl rfl g_X10_279 hd_X10_isTenant ⟨Nat.le_of_ble_eq_true rfl, Nat.le_of_ble_eq_true rfl⟩ ⟨Nat.zero_le _, Nat.zero_le _⟩ (Nat.le_of_ble_eq_true rfl) rfl dX10_overlap_7 (fun r hr => ?_)
  have hr := hr.symm
  subst hr
  refine r_if_eq (pc := 10) C (tgt := 30) dX10_overlap_10 rfl (fun c3 => ?_) (fun c3 => ?_)
  · rw [if_pos c3] at h
    refine r_aload_n (pc := 30) C (i := 0) dX10_overlap_30 rfl rfl ?_
    refine r_iconst (pc := 31) C (v := 1) dX10_overlap_31 (by decide) ?_
    obtain ⟨q4, hq4, h⟩ := bnd h
    refine r_callV_CI (Cn := RX10) (pc := 32) C [.int (1 : Int32)] (c_X10_raise E l k a F1 (1 : Int32) hq4) [0, 1, 2, 3, 4, 5, 6, 7, 8, 9, 10, 11, 12] rfl (by decide) 0 rfl rfl rfl g_X10_267 hd_X10_raise ⟨Nat.le_of_ble_eq_true rfl, Nat.le_of_ble_eq_true rfl⟩ ⟨Nat.zero_le _, Nat.zero_le _⟩ (Nat.le_of_ble_eq_true rfl) rfl dX10_overlap_32 (fun r w1 hw1 => ?_)
    obtain ⟨hr1, hw1⟩ := hw1
    subst hr1 hw1
    refine ⟨(wMd E a q4.2), by rfl, ?_⟩
    cases h
    exact r_ireti (pc := 35) C hq (Nat.zero_le _) (Nat.zero_le _) dX10_overlap_35
  · rw [if_neg c3] at h
    refine r_aload_n (pc := 13) C (i := 0) dX10_overlap_13 rfl rfl ?_
    refine r_iload_n (pc := 14) C (i := 2) dX10_overlap_14 rfl rfl ?_
    obtain ⟨q5, hq5, h⟩ := bnd h
    refine r_callVp_CI (Cn := RX10) (pc := 15) C [.int p1] (c_X10_isTenant E l k a F1 p1 hq5) [0, 1, 2, 3, 4, 5, 6, 7, 8, 9, 10, 11, 12] rfl (by decide) 0 rfl rfl rfl g_X10_279 hd_X10_isTenant ⟨Nat.le_of_ble_eq_true rfl, Nat.le_of_ble_eq_true rfl⟩ ⟨Nat.zero_le _, Nat.zero_le _⟩ (Nat.le_of_ble_eq_true rfl) rfl dX10_overlap_15 (fun r hr => ?_)
    have hr := hr.symm
    subst hr
    refine r_if_eq (pc := 18) C (tgt := 30) dX10_overlap_18 rfl (fun c6 => ?_) (fun c6 => ?_)
    · rw [if_pos c6] at h
      refine r_aload_n (pc := 30) C (i := 0) dX10_overlap_30 rfl rfl ?_
      refine r_iconst (pc := 31) C (v := 1) dX10_overlap_31 (by decide) ?_
      obtain ⟨q7, hq7, h⟩ := bnd h
      refine r_callV_CI (Cn := RX10) (pc := 32) C [.int (1 : Int32)] (c_X10_raise E l k a F1 (1 : Int32) hq7) [0, 1, 2, 3, 4, 5, 6, 7, 8, 9, 10, 11, 12] rfl (by decide) 0 rfl rfl rfl g_X10_267 hd_X10_raise ⟨Nat.le_of_ble_eq_true rfl, Nat.le_of_ble_eq_true rfl⟩ ⟨Nat.zero_le _, Nat.zero_le _⟩ (Nat.le_of_ble_eq_true rfl) rfl dX10_overlap_32 (fun r w1 hw1 => ?_)
      obtain ⟨hr1, hw1⟩ := hw1
      subst hr1 hw1
      refine ⟨(wMd E a q7.2), by rfl, ?_⟩
      cases h
      exact r_ireti (pc := 35) C hq (Nat.zero_le _) (Nat.zero_le _) dX10_overlap_35
    · rw [if_neg c6] at h
      refine r_aload_n (pc := 21) C (i := 0) dX10_overlap_21 rfl rfl ?_
      refine r_iload_n (pc := 22) C (i := 1) dX10_overlap_22 rfl rfl ?_
      refine r_iload_n (pc := 23) C (i := 2) dX10_overlap_23 rfl rfl ?_
      obtain ⟨q8, hq8, h⟩ := bnd h
      refine r_callVp_CI (Cn := RX10) (pc := 24) C [.int p0, .int p1] (c_X10_shared E l k a F1 p0 p1 hq8) [0, 1, 2, 3, 4, 5, 6, 7, 8, 9, 10, 11, 12] rfl (by decide) 0 rfl rfl rfl g_X10_216 hd_X10_shared ⟨Nat.le_of_ble_eq_true rfl, Nat.le_of_ble_eq_true rfl⟩ ⟨Nat.zero_le _, Nat.zero_le _⟩ (Nat.le_of_ble_eq_true rfl) rfl dX10_overlap_24 (fun r hr => ?_)
      have hr := hr.symm
      subst hr
      refine r_goto (pc := 27) C (tgt := 35) dX10_overlap_27 rfl ?_
      cases h
      exact r_ireti (pc := 35) C hq (Nat.zero_le _) (Nat.zero_le _) dX10_overlap_35
def M_X10_overlap (k : Nat) (S : Nat → Nat → Int32) (p0 : Int32) (p1 : Int32) : Option (Int32 × (Nat → Nat → Int32)) := M_X10_overlap_0 k p0 p1 S
set_option maxRecDepth 100000 in
set_option maxHeartbeats 4000000 in
theorem c_X10_overlap (E : ENV) (l : Launch) (k : Nat) (a : Nat → Nat) (S : Nat → Nat → Int32) (p0 : Int32) (p1 : Int32) {q : Int32 × (Nat → Nat → Int32)} (hm : M_X10_overlap k S p0 p1 = some q) : CI E l yX10_overlap cX10_overlap 3 (some .int) rm_X10_overlap [.ref (a 0), .int p0, .int p1] (wMd E a S) (fun r w' => r = q.1 ∧ w' = (wMd E a q.2)) :=
  CI.of 0 (by decide) (Nat.le_of_ble_eq_true rfl) (fun p e s m below meth c A C _ => r_weak (lSub_s (lSub_s (lSub_s lSub_e))) (N_X10_overlap_0 C a k p0 p1 S q  hm ⟨rfl, rfl⟩))
end WALKS
