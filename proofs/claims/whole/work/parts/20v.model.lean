section WALKS
variable {E : ENV} {p : Program} {l : Launch} {e : Env} {s : State} {m : MethodId} {args : Array Value} {below : List Frame} {meth : Method} {c : Code} {A : Nat → Prop}
theorem hd_X10_poison : yX10_poison.cls = RX10 ∧ yX10_poison.cls ≠ "java/lang/invoke/MethodHandle" ∧ yX10_poison.cls ≠ "java/lang/invoke/VarHandle" ∧ (parseMethodDescriptor yX10_poison.desc).map (fun d => d.parameters.length) = some 1 := by decide +kernel
theorem g_X10_303 : GoodIn GW (wsV RX10 303 RX10 yX10_poison (wsG yX10_poison cX10_poison 4 (some .int))) := gw_V wm_7_35 wm_7_37 wm_0_55 wm_1_9 wm_7_38
-- ShardGuardModel.poisonKills(I)I
theorem dX10_poisonKills_0 : decode cX10_poisonKills 0 = .ok (.aload_n 0, 1) := by decide +kernel
theorem dX10_poisonKills_1 : decode cX10_poisonKills 1 = .ok (.iconst 0, 1) := by decide +kernel
theorem dX10_poisonKills_2 : decode cX10_poisonKills 2 = .ok (.putfield 93, 3) := by decide +kernel
theorem dX10_poisonKills_5 : decode cX10_poisonKills 5 = .ok (.aload_n 0, 1) := by decide +kernel
theorem dX10_poisonKills_6 : decode cX10_poisonKills 6 = .ok (.iload_n 1, 1) := by decide +kernel
theorem dX10_poisonKills_7 : decode cX10_poisonKills 7 = .ok (.invokevirtual 279, 3) := by decide +kernel
theorem dX10_poisonKills_10 : decode cX10_poisonKills 10 = .ok (.ifCond .eq 11, 3) := by decide +kernel
theorem dX10_poisonKills_13 : decode cX10_poisonKills 13 = .ok (.aload_n 0, 1) := by decide +kernel
theorem dX10_poisonKills_14 : decode cX10_poisonKills 14 = .ok (.iload_n 1, 1) := by decide +kernel
theorem dX10_poisonKills_15 : decode cX10_poisonKills 15 = .ok (.invokevirtual 303, 3) := by decide +kernel
theorem dX10_poisonKills_18 : decode cX10_poisonKills 18 = .ok (.goto 8, 3) := by decide +kernel
theorem dX10_poisonKills_21 : decode cX10_poisonKills 21 = .ok (.aload_n 0, 1) := by decide +kernel
theorem dX10_poisonKills_22 : decode cX10_poisonKills 22 = .ok (.iconst 1, 1) := by decide +kernel
theorem dX10_poisonKills_23 : decode cX10_poisonKills 23 = .ok (.invokevirtual 267, 3) := by decide +kernel
theorem dX10_poisonKills_26 : decode cX10_poisonKills 26 = .ok (.ireturn, 1) := by decide +kernel
def rm_X10_poisonKills : Room := { frames := 10, cells := 0, slots := 0, locals := 223 }
def M_X10_poisonKills_0 (k : Nat) (p0 : Int32) (S : Nat → Nat → Int32) : Option (Int32 × (Nat → Nat → Int32)) := lt (va_up S 0 (upd (S 0) 1 (0 : Int32))) fun F1 => (M_X10_isTenant k F1 p0).bind fun q2 => if q2 = 0 then ((M_X10_raise k F1 (1 : Int32)).bind fun q4 => some (q4.1, q4.2)) else ((M_X10_poison k F1 p0).bind fun q5 => some (q5.1, q5.2))
set_option maxRecDepth 100000 in
set_option maxHeartbeats 4000000 in
theorem N_X10_poisonKills_0 (C : CX E p l s m args meth c cX10_poisonKills 2 RX10 (some .int) A) (a : Nat → Nat) (k : Nat) {post : Int32 → va_W → Prop} :
    ∀ (p0 : Int32) (S : Nat → Nat → Int32) (q : Int32 × (Nat → Nat → Int32)), M_X10_poisonKills_0 k p0 S = some q → post q.1 (wMd E a q.2) →
      WW E p l e rm_X10_poisonKills s m args below meth c A 0 0 (QI E below post args s rm_X10_poisonKills A) (wMd E a S) 2 [some (.ref (a 0)), some (.int p0)] 0 [] := by
  intro p0 S q  h hq
  unfold M_X10_poisonKills_0 at h
  refine r_aload_n (pc := 0) C (i := 0) dX10_poisonKills_0 rfl rfl ?_
  refine r_iconst (pc := 1) C (v := 0) dX10_poisonKills_1 (by decide) ?_
  obtain ⟨F1, hF1, h⟩ := lt_e h
  refine r_put (pc := 2) C gwX10 tyX10 tyX10_ok nmX10 0 rfl rfl 6 (by decide) wm_5_209 rfl rfl rfl rfl (Nat.le_of_ble_eq_true rfl) (w' := (wMd E a F1)) (by rw [hF1]; rfl) dX10_poisonKills_2 ?_
  refine r_aload_n (pc := 5) C (i := 0) dX10_poisonKills_5 rfl rfl ?_
  refine r_iload_n (pc := 6) C (i := 1) dX10_poisonKills_6 rfl rfl ?_
  obtain ⟨q2, hq2, h⟩ := bnd h
  refine r_callVp_CI (Cn := RX10) (pc := 7) C [.int p0] (c_X10_isTenant E l k a F1 p0 hq2) [0, 1, 2, 3, 4, 5, 6, 7, 8, 9, 10, 11, 12] rfl (by decide) 0 rfl rfl rfl g_X10_279 hd_X10_isTenant ⟨Nat.le_of_ble_eq_true rfl, Nat.le_of_ble_eq_true rfl⟩ ⟨Nat.zero_le _, Nat.zero_le _⟩ (Nat.le_of_ble_eq_true rfl) rfl dX10_poisonKills_7 (fun r hr => ?_)
  have hr := hr.symm
  subst hr
  refine r_if_eq (pc := 10) C (tgt := 21) dX10_poisonKills_10 rfl (fun c3 => ?_) (fun c3 => ?_)
  · rw [if_pos c3] at h
    refine r_aload_n (pc := 21) C (i := 0) dX10_poisonKills_21 rfl rfl ?_
    refine r_iconst (pc := 22) C (v := 1) dX10_poisonKills_22 (by decide) ?_
    obtain ⟨q4, hq4, h⟩ := bnd h
    refine r_callV_CI (Cn := RX10) (pc := 23) C [.int (1 : Int32)] (c_X10_raise E l k a F1 (1 : Int32) hq4) [0, 1, 2, 3, 4, 5, 6, 7, 8, 9, 10, 11, 12] rfl (by decide) 0 rfl rfl rfl g_X10_267 hd_X10_raise ⟨Nat.le_of_ble_eq_true rfl, Nat.le_of_ble_eq_true rfl⟩ ⟨Nat.zero_le _, Nat.zero_le _⟩ (Nat.le_of_ble_eq_true rfl) rfl dX10_poisonKills_23 (fun r w1 hw1 => ?_)
    obtain ⟨hr1, hw1⟩ := hw1
    subst hr1 hw1
    refine ⟨(wMd E a q4.2), by rfl, ?_⟩
    cases h
    exact r_ireti (pc := 26) C hq (Nat.zero_le _) (Nat.zero_le _) dX10_poisonKills_26
  · rw [if_neg c3] at h
    refine r_aload_n (pc := 13) C (i := 0) dX10_poisonKills_13 rfl rfl ?_
    refine r_iload_n (pc := 14) C (i := 1) dX10_poisonKills_14 rfl rfl ?_
    obtain ⟨q5, hq5, h⟩ := bnd h
    refine r_callV_CI (Cn := RX10) (pc := 15) C [.int p0] (c_X10_poison E l k a F1 p0 hq5) [0, 1, 2, 3, 4, 5, 6, 7, 8, 9, 10, 11, 12] rfl (by decide) 0 rfl rfl rfl g_X10_303 hd_X10_poison ⟨Nat.le_of_ble_eq_true rfl, Nat.le_of_ble_eq_true rfl⟩ ⟨Nat.zero_le _, Nat.zero_le _⟩ (Nat.le_of_ble_eq_true rfl) rfl dX10_poisonKills_15 (fun r w1 hw1 => ?_)
    obtain ⟨hr1, hw1⟩ := hw1
    subst hr1 hw1
    refine ⟨(wMd E a q5.2), by rfl, ?_⟩
    refine r_goto (pc := 18) C (tgt := 26) dX10_poisonKills_18 rfl ?_
    cases h
    exact r_ireti (pc := 26) C hq (Nat.zero_le _) (Nat.zero_le _) dX10_poisonKills_26
def M_X10_poisonKills (k : Nat) (S : Nat → Nat → Int32) (p0 : Int32) : Option (Int32 × (Nat → Nat → Int32)) := M_X10_poisonKills_0 k p0 S
set_option maxRecDepth 100000 in
set_option maxHeartbeats 4000000 in
theorem c_X10_poisonKills (E : ENV) (l : Launch) (k : Nat) (a : Nat → Nat) (S : Nat → Nat → Int32) (p0 : Int32) {q : Int32 × (Nat → Nat → Int32)} (hm : M_X10_poisonKills k S p0 = some q) : CI E l yX10_poisonKills cX10_poisonKills 2 (some .int) rm_X10_poisonKills [.ref (a 0), .int p0] (wMd E a S) (fun r w' => r = q.1 ∧ w' = (wMd E a q.2)) :=
  CI.of 0 (by decide) (Nat.le_of_ble_eq_true rfl) (fun p e s m below meth c A C _ => r_weak (lSub_s (lSub_s lSub_e)) (N_X10_poisonKills_0 C a k p0 S q  hm ⟨rfl, rfl⟩))
-- ShardGuardModel.poisonHarm(I)I
theorem dX10_poisonHarm_0 : decode cX10_poisonHarm 0 = .ok (.aload_n 0, 1) := by decide +kernel
theorem dX10_poisonHarm_1 : decode cX10_poisonHarm 1 = .ok (.iconst 0, 1) := by decide +kernel
theorem dX10_poisonHarm_2 : decode cX10_poisonHarm 2 = .ok (.putfield 93, 3) := by decide +kernel
theorem dX10_poisonHarm_5 : decode cX10_poisonHarm 5 = .ok (.aload_n 0, 1) := by decide +kernel
theorem dX10_poisonHarm_6 : decode cX10_poisonHarm 6 = .ok (.iload_n 1, 1) := by decide +kernel
theorem dX10_poisonHarm_7 : decode cX10_poisonHarm 7 = .ok (.invokevirtual 279, 3) := by decide +kernel
theorem dX10_poisonHarm_10 : decode cX10_poisonHarm 10 = .ok (.ifCond .ne 9, 3) := by decide +kernel
theorem dX10_poisonHarm_13 : decode cX10_poisonHarm 13 = .ok (.aload_n 0, 1) := by decide +kernel
theorem dX10_poisonHarm_14 : decode cX10_poisonHarm 14 = .ok (.iconst 1, 1) := by decide +kernel
theorem dX10_poisonHarm_15 : decode cX10_poisonHarm 15 = .ok (.invokevirtual 267, 3) := by decide +kernel
theorem dX10_poisonHarm_18 : decode cX10_poisonHarm 18 = .ok (.ireturn, 1) := by decide +kernel
theorem dX10_poisonHarm_19 : decode cX10_poisonHarm 19 = .ok (.aload_n 0, 1) := by decide +kernel
theorem dX10_poisonHarm_20 : decode cX10_poisonHarm 20 = .ok (.iload_n 1, 1) := by decide +kernel
theorem dX10_poisonHarm_21 : decode cX10_poisonHarm 21 = .ok (.invokevirtual 303, 3) := by decide +kernel
theorem dX10_poisonHarm_24 : decode cX10_poisonHarm 24 = .ok (.istore_n 2, 1) := by decide +kernel
theorem dX10_poisonHarm_25 : decode cX10_poisonHarm 25 = .ok (.iload_n 2, 1) := by decide +kernel
theorem dX10_poisonHarm_26 : decode cX10_poisonHarm 26 = .ok (.ifCond .ge 7, 3) := by decide +kernel
theorem dX10_poisonHarm_29 : decode cX10_poisonHarm 29 = .ok (.iconst 0, 1) := by decide +kernel
theorem dX10_poisonHarm_30 : decode cX10_poisonHarm 30 = .ok (.goto 10, 3) := by decide +kernel
theorem dX10_poisonHarm_33 : decode cX10_poisonHarm 33 = .ok (.aload_n 0, 1) := by decide +kernel
theorem dX10_poisonHarm_34 : decode cX10_poisonHarm 34 = .ok (.getfield 246, 3) := by decide +kernel
theorem dX10_poisonHarm_37 : decode cX10_poisonHarm 37 = .ok (.invokestatic 211, 3) := by decide +kernel
theorem dX10_poisonHarm_40 : decode cX10_poisonHarm 40 = .ok (.ireturn, 1) := by decide +kernel
def rm_X10_poisonHarm : Room := { frames := 10, cells := 0, slots := 0, locals := 223 }
def M_X10_poisonHarm_0 (k : Nat) (p0 : Int32) (S : Nat → Nat → Int32) : Option (Int32 × (Nat → Nat → Int32)) := lt (va_up S 0 (upd (S 0) 1 (0 : Int32))) fun F1 => (M_X10_isTenant k F1 p0).bind fun q2 => if q2 = 0 then ((M_X10_raise k F1 (1 : Int32)).bind fun q7 => some (q7.1, q7.2)) else ((M_X10_poison k F1 p0).bind fun q4 => if 0 ≤ q4.1 then ((M_J6_bitCount_0f7a4 k (q4.2 0 4)).bind fun q6 => some (q6, q4.2)) else (some ((0 : Int32), q4.2)))
set_option maxRecDepth 100000 in
set_option maxHeartbeats 4000000 in
theorem N_X10_poisonHarm_0 (C : CX E p l s m args meth c cX10_poisonHarm 3 RX10 (some .int) A) (a : Nat → Nat) (k : Nat) {post : Int32 → va_W → Prop} :
    ∀ (p0 : Int32) (S : Nat → Nat → Int32) (q : Int32 × (Nat → Nat → Int32)), M_X10_poisonHarm_0 k p0 S = some q → post q.1 (wMd E a q.2) →
      WW E p l e rm_X10_poisonHarm s m args below meth c A 0 0 (QI E below post args s rm_X10_poisonHarm A) (wMd E a S) 3 [some (.ref (a 0)), some (.int p0), none] 0 [] := by
  intro p0 S q  h hq
  unfold M_X10_poisonHarm_0 at h
  refine r_aload_n (pc := 0) C (i := 0) dX10_poisonHarm_0 rfl rfl ?_
  refine r_iconst (pc := 1) C (v := 0) dX10_poisonHarm_1 (by decide) ?_
  obtain ⟨F1, hF1, h⟩ := lt_e h
  refine r_put (pc := 2) C gwX10 tyX10 tyX10_ok nmX10 0 rfl rfl 6 (by decide) wm_5_209 rfl rfl rfl rfl (Nat.le_of_ble_eq_true rfl) (w' := (wMd E a F1)) (by rw [hF1]; rfl) dX10_poisonHarm_2 ?_
  refine r_aload_n (pc := 5) C (i := 0) dX10_poisonHarm_5 rfl rfl ?_
  refine r_iload_n (pc := 6) C (i := 1) dX10_poisonHarm_6 rfl rfl ?_
  obtain ⟨q2, hq2, h⟩ := bnd h
  refine r_callVp_CI (Cn := RX10) (pc := 7) C [.int p0] (c_X10_isTenant E l k a F1 p0 hq2) [0, 1, 2, 3, 4, 5, 6, 7, 8, 9, 10, 11, 12] rfl (by decide) 0 rfl rfl rfl g_X10_279 hd_X10_isTenant ⟨Nat.le_of_ble_eq_true rfl, Nat.le_of_ble_eq_true rfl⟩ ⟨Nat.zero_le _, Nat.zero_le _⟩ (Nat.le_of_ble_eq_true rfl) rfl dX10_poisonHarm_7 (fun r hr => ?_)
  have hr := hr.symm
  subst hr
  refine r_if_ne (pc := 10) C (tgt := 19) dX10_poisonHarm_10 rfl (fun c3 => ?_) (fun c3 => ?_)
  · rw [if_neg c3] at h
    refine r_aload_n (pc := 19) C (i := 0) dX10_poisonHarm_19 rfl rfl ?_
    refine r_iload_n (pc := 20) C (i := 1) dX10_poisonHarm_20 rfl rfl ?_
    obtain ⟨q4, hq4, h⟩ := bnd h
    refine r_callV_CI (Cn := RX10) (pc := 21) C [.int p0] (c_X10_poison E l k a F1 p0 hq4) [0, 1, 2, 3, 4, 5, 6, 7, 8, 9, 10, 11, 12] rfl (by decide) 0 rfl rfl rfl g_X10_303 hd_X10_poison ⟨Nat.le_of_ble_eq_true rfl, Nat.le_of_ble_eq_true rfl⟩ ⟨Nat.zero_le _, Nat.zero_le _⟩ (Nat.le_of_ble_eq_true rfl) rfl dX10_poisonHarm_21 (fun r w1 hw1 => ?_)
    obtain ⟨hr1, hw1⟩ := hw1
    subst hr1 hw1
    refine ⟨(wMd E a q4.2), by rfl, ?_⟩
    refine r_istore_n (pc := 24) C (i := 2) dX10_poisonHarm_24 rfl (by decide) rfl ?_
    refine r_iload_n (pc := 25) C (i := 2) dX10_poisonHarm_25 rfl rfl ?_
    refine r_if_ge (pc := 26) C (tgt := 33) dX10_poisonHarm_26 rfl (fun c5 => ?_) (fun c5 => ?_)
    · rw [if_pos c5] at h
      refine r_aload_n (pc := 33) C (i := 0) dX10_poisonHarm_33 rfl rfl ?_
      refine r_get (pc := 34) C gwX10 0 rfl rfl 10 (by decide) wm_5_213 rfl dX10_poisonHarm_34 ?_
      obtain ⟨q6, hq6, h⟩ := bnd h
      refine r_callSp_CI (pc := 37) C [.int (q4.2 0 4)] (c_J6_bitCount_0f7a4 E l k (q4.2 0 4) hq6) [] rfl (by decide) g_X10_211 hd_J6_bitCount_0f7a4.2 ⟨Nat.le_of_ble_eq_true rfl, Nat.le_of_ble_eq_true rfl⟩ ⟨Nat.zero_le _, Nat.zero_le _⟩ (Nat.le_of_ble_eq_true rfl) rfl dX10_poisonHarm_37 (fun r hr => ?_)
      have hr := hr.symm
      subst hr
      cases h
      exact r_ireti (pc := 40) C hq (Nat.zero_le _) (Nat.zero_le _) dX10_poisonHarm_40
    · rw [if_neg c5] at h
      refine r_iconst (pc := 29) C (v := 0) dX10_poisonHarm_29 (by decide) ?_
      refine r_goto (pc := 30) C (tgt := 40) dX10_poisonHarm_30 rfl ?_
      cases h
      exact r_ireti (pc := 40) C hq (Nat.zero_le _) (Nat.zero_le _) dX10_poisonHarm_40
  · rw [if_pos c3] at h
    refine r_aload_n (pc := 13) C (i := 0) dX10_poisonHarm_13 rfl rfl ?_
    refine r_iconst (pc := 14) C (v := 1) dX10_poisonHarm_14 (by decide) ?_
    obtain ⟨q7, hq7, h⟩ := bnd h
    refine r_callV_CI (Cn := RX10) (pc := 15) C [.int (1 : Int32)] (c_X10_raise E l k a F1 (1 : Int32) hq7) [0, 1, 2, 3, 4, 5, 6, 7, 8, 9, 10, 11, 12] rfl (by decide) 0 rfl rfl rfl g_X10_267 hd_X10_raise ⟨Nat.le_of_ble_eq_true rfl, Nat.le_of_ble_eq_true rfl⟩ ⟨Nat.zero_le _, Nat.zero_le _⟩ (Nat.le_of_ble_eq_true rfl) rfl dX10_poisonHarm_15 (fun r w1 hw1 => ?_)
    obtain ⟨hr1, hw1⟩ := hw1
    subst hr1 hw1
    refine ⟨(wMd E a q7.2), by rfl, ?_⟩
    cases h
    exact r_ireti (pc := 18) C hq (Nat.zero_le _) (Nat.zero_le _) dX10_poisonHarm_18
def M_X10_poisonHarm (k : Nat) (S : Nat → Nat → Int32) (p0 : Int32) : Option (Int32 × (Nat → Nat → Int32)) := M_X10_poisonHarm_0 k p0 S
set_option maxRecDepth 100000 in
set_option maxHeartbeats 4000000 in
theorem c_X10_poisonHarm (E : ENV) (l : Launch) (k : Nat) (a : Nat → Nat) (S : Nat → Nat → Int32) (p0 : Int32) {q : Int32 × (Nat → Nat → Int32)} (hm : M_X10_poisonHarm k S p0 = some q) : CI E l yX10_poisonHarm cX10_poisonHarm 3 (some .int) rm_X10_poisonHarm [.ref (a 0), .int p0] (wMd E a S) (fun r w' => r = q.1 ∧ w' = (wMd E a q.2)) :=
  CI.of 1 (by decide) (Nat.le_of_ble_eq_true rfl) (fun p e s m below meth c A C _ => r_weak (lSub_s (lSub_s (lSub_n lSub_e))) (N_X10_poisonHarm_0 C a k p0 S q  hm ⟨rfl, rfl⟩))
-- ShardGuardModel.doneBehind(I)I
theorem dX10_doneBehind_0 : decode cX10_doneBehind 0 = .ok (.aload_n 0, 1) := by decide +kernel
theorem dX10_doneBehind_1 : decode cX10_doneBehind 1 = .ok (.iconst 0, 1) := by decide +kernel
theorem dX10_doneBehind_2 : decode cX10_doneBehind 2 = .ok (.putfield 93, 3) := by decide +kernel
theorem dX10_doneBehind_5 : decode cX10_doneBehind 5 = .ok (.iload_n 1, 1) := by decide +kernel
theorem dX10_doneBehind_6 : decode cX10_doneBehind 6 = .ok (.iconst 0, 1) := by decide +kernel
theorem dX10_doneBehind_7 : decode cX10_doneBehind 7 = .ok (.sipush 200, 3) := by decide +kernel
theorem dX10_doneBehind_10 : decode cX10_doneBehind 10 = .ok (.invokestatic 110, 3) := by decide +kernel
theorem dX10_doneBehind_13 : decode cX10_doneBehind 13 = .ok (.ifCond .ne 9, 3) := by decide +kernel
theorem dX10_doneBehind_16 : decode cX10_doneBehind 16 = .ok (.aload_n 0, 1) := by decide +kernel
theorem dX10_doneBehind_17 : decode cX10_doneBehind 17 = .ok (.iconst 1, 1) := by decide +kernel
theorem dX10_doneBehind_18 : decode cX10_doneBehind 18 = .ok (.invokevirtual 267, 3) := by decide +kernel
theorem dX10_doneBehind_21 : decode cX10_doneBehind 21 = .ok (.ireturn, 1) := by decide +kernel
theorem dX10_doneBehind_22 : decode cX10_doneBehind 22 = .ok (.aload_n 0, 1) := by decide +kernel
theorem dX10_doneBehind_23 : decode cX10_doneBehind 23 = .ok (.invokevirtual 239, 3) := by decide +kernel
theorem dX10_doneBehind_26 : decode cX10_doneBehind 26 = .ok (.iconst 0, 1) := by decide +kernel
theorem dX10_doneBehind_27 : decode cX10_doneBehind 27 = .ok (.istore_n 2, 1) := by decide +kernel
theorem dX10_doneBehind_28 : decode cX10_doneBehind 28 = .ok (.iload_n 2, 1) := by decide +kernel
theorem dX10_doneBehind_29 : decode cX10_doneBehind 29 = .ok (.iload_n 1, 1) := by decide +kernel
theorem dX10_doneBehind_30 : decode cX10_doneBehind 30 = .ok (.if_icmp .ge 13, 3) := by decide +kernel
theorem dX10_doneBehind_33 : decode cX10_doneBehind 33 = .ok (.aload_n 0, 1) := by decide +kernel
theorem dX10_doneBehind_34 : decode cX10_doneBehind 34 = .ok (.invokevirtual 249, 3) := by decide +kernel
theorem dX10_doneBehind_37 : decode cX10_doneBehind 37 = .ok (.iinc 2 1, 3) := by decide +kernel
theorem dX10_doneBehind_40 : decode cX10_doneBehind 40 = .ok (.goto (-12), 3) := by decide +kernel
theorem dX10_doneBehind_43 : decode cX10_doneBehind 43 = .ok (.aload_n 0, 1) := by decide +kernel
theorem dX10_doneBehind_44 : decode cX10_doneBehind 44 = .ok (.iconst 2, 1) := by decide +kernel
theorem dX10_doneBehind_45 : decode cX10_doneBehind 45 = .ok (.iconst (-1), 1) := by decide +kernel
theorem dX10_doneBehind_46 : decode cX10_doneBehind 46 = .ok (.invokevirtual 258, 3) := by decide +kernel
theorem dX10_doneBehind_49 : decode cX10_doneBehind 49 = .ok (.istore_n 2, 1) := by decide +kernel
theorem dX10_doneBehind_50 : decode cX10_doneBehind 50 = .ok (.aload_n 0, 1) := by decide +kernel
theorem dX10_doneBehind_51 : decode cX10_doneBehind 51 = .ok (.invokevirtual 255, 3) := by decide +kernel
theorem dX10_doneBehind_54 : decode cX10_doneBehind 54 = .ok (.iload_n 2, 1) := by decide +kernel
theorem dX10_doneBehind_55 : decode cX10_doneBehind 55 = .ok (.ireturn, 1) := by decide +kernel
def rm_X10_doneBehind : Room := { frames := 9, cells := 0, slots := 0, locals := 200 }
def M_X10_doneBehind_28 (k : Nat) : Nat → (Int32) → (Int32) → (Nat → Nat → Int32) → Option (Int32 × (Nat → Nat → Int32))
  | 0, _, _, _ => none
  | n + 1, x1, x2, S => if x1 ≤ x2 then ((M_X10_inState k S (2 : Int32) (-1 : Int32)).bind fun q2 => (M_X10_comeBack k S).bind fun q3 => some (q2, q3)) else ((M_X10_tick k S).bind fun q4 => M_X10_doneBehind_28 k n x1 (x2 + 1) q4)
theorem M_X10_doneBehind_28_s (k : Nat) (n : Nat) (x1 : Int32) (x2 : Int32) (S : Nat → Nat → Int32) : M_X10_doneBehind_28 k (n + 1) x1 x2 S = (if x1 ≤ x2 then ((M_X10_inState k S (2 : Int32) (-1 : Int32)).bind fun q2 => (M_X10_comeBack k S).bind fun q3 => some (q2, q3)) else ((M_X10_tick k S).bind fun q4 => M_X10_doneBehind_28 k n x1 (x2 + 1) q4)) := rfl
set_option maxRecDepth 100000 in
set_option maxHeartbeats 4000000 in
theorem N_X10_doneBehind_28 (C : CX E p l s m args meth c cX10_doneBehind 3 RX10 (some .int) A) (a : Nat → Nat) (k : Nat) {post : Int32 → va_W → Prop} :
    ∀ (n : Nat) (x1 : Int32) (x2 : Int32) (S : Nat → Nat → Int32) (q : Int32 × (Nat → Nat → Int32)), M_X10_doneBehind_28 k n x1 x2 S = some q → post q.1 (wMd E a q.2) →
      WW E p l e rm_X10_doneBehind s m args below meth c A 0 0 (QI E below post args s rm_X10_doneBehind A) (wMd E a S) 3 [some (.ref (a 0)), some (.int x1), some (.int x2)] 28 [] := by
  intro n
  induction n with
  | zero => intro x1 x2 S q  h _; cases h
  | succ n ih =>
    intro x1 x2 S q  h hq
    rw [M_X10_doneBehind_28_s] at h
    refine r_iload_n (pc := 28) C (i := 2) dX10_doneBehind_28 rfl rfl ?_
    refine r_iload_n (pc := 29) C (i := 1) dX10_doneBehind_29 rfl rfl ?_
    refine r_icmp_ge (pc := 30) C (tgt := 43) dX10_doneBehind_30 rfl (fun c1 => ?_) (fun c1 => ?_)
    · rw [if_pos c1] at h
      refine r_aload_n (pc := 43) C (i := 0) dX10_doneBehind_43 rfl rfl ?_
      refine r_iconst (pc := 44) C (v := 2) dX10_doneBehind_44 (by decide) ?_
      refine r_iconst (pc := 45) C (v := (-1)) dX10_doneBehind_45 (by decide) ?_
      obtain ⟨q2, hq2, h⟩ := bnd h
      refine r_callVp_CI (Cn := RX10) (pc := 46) C [.int (2 : Int32), .int (-1 : Int32)] (c_X10_inState E l k a S (2 : Int32) (-1 : Int32) hq2) [0, 1, 2, 3, 4, 5, 6, 7, 8, 9, 10, 11, 12] rfl (by decide) 0 rfl rfl rfl g_X10_258 hd_X10_inState ⟨Nat.le_of_ble_eq_true rfl, Nat.le_of_ble_eq_true rfl⟩ ⟨Nat.zero_le _, Nat.zero_le _⟩ (Nat.le_of_ble_eq_true rfl) rfl dX10_doneBehind_46 (fun r hr => ?_)
      have hr := hr.symm
      subst hr
      refine r_istore_n (pc := 49) C (i := 2) dX10_doneBehind_49 rfl (by decide) rfl ?_
      refine r_aload_n (pc := 50) C (i := 0) dX10_doneBehind_50 rfl rfl ?_
      obtain ⟨q3, hq3, h⟩ := bnd h
      refine r_callV_CV (Cn := RX10) (pc := 51) C [] (c_X10_comeBack E l k a S hq3) [0, 1, 2, 3, 4, 5, 6, 7, 8, 9, 10, 11, 12] rfl (by decide) 0 rfl rfl rfl g_X10_255 hd_X10_comeBack ⟨Nat.le_of_ble_eq_true rfl, Nat.le_of_ble_eq_true rfl⟩ ⟨Nat.zero_le _, Nat.zero_le _⟩ (Nat.le_of_ble_eq_true rfl) rfl dX10_doneBehind_51 (fun w1 hw1 => ?_)
      subst hw1
      refine ⟨(wMd E a q3), by rfl, ?_⟩
      refine r_iload_n (pc := 54) C (i := 2) dX10_doneBehind_54 rfl rfl ?_
      cases h
      exact r_ireti (pc := 55) C hq (Nat.zero_le _) (Nat.zero_le _) dX10_doneBehind_55
    · rw [if_neg c1] at h
      refine r_aload_n (pc := 33) C (i := 0) dX10_doneBehind_33 rfl rfl ?_
      obtain ⟨q4, hq4, h⟩ := bnd h
      refine r_callV_CV (Cn := RX10) (pc := 34) C [] (c_X10_tick E l k a S hq4) [0, 1, 2, 3, 4, 5, 6, 7, 8, 9, 10, 11, 12] rfl (by decide) 0 rfl rfl rfl g_X10_249 hd_X10_tick ⟨Nat.le_of_ble_eq_true rfl, Nat.le_of_ble_eq_true rfl⟩ ⟨Nat.zero_le _, Nat.zero_le _⟩ (Nat.le_of_ble_eq_true rfl) rfl dX10_doneBehind_34 (fun w1 hw1 => ?_)
      subst hw1
      refine ⟨(wMd E a q4), by rfl, ?_⟩
      refine r_iinc (pc := 37) C (v := (x2 + 1)) dX10_doneBehind_37 rfl rfl (by decide) rfl ?_
      refine r_goto (pc := 40) C (tgt := 28) dX10_doneBehind_40 rfl ?_
      refine r_weak (lSub_s (lSub_s (lSub_s lSub_e))) ?_
      exact ih x1 (x2 + 1) q4 q  h hq
def M_X10_doneBehind_0 (k : Nat) (p0 : Int32) (S : Nat → Nat → Int32) : Option (Int32 × (Nat → Nat → Int32)) := lt (va_up S 0 (upd (S 0) 1 (0 : Int32))) fun F5 => (M_X10_inRange k p0 (0 : Int32) (200 : Int32)).bind fun q6 => if q6 = 0 then ((M_X10_raise k F5 (1 : Int32)).bind fun q9 => some (q9.1, q9.2)) else ((M_X10_goAside k F5).bind fun q8 => M_X10_doneBehind_28 k k p0 (0 : Int32) q8)
set_option maxRecDepth 100000 in
set_option maxHeartbeats 4000000 in
theorem N_X10_doneBehind_0 (C : CX E p l s m args meth c cX10_doneBehind 3 RX10 (some .int) A) (a : Nat → Nat) (k : Nat) {post : Int32 → va_W → Prop} :
    ∀ (p0 : Int32) (S : Nat → Nat → Int32) (q : Int32 × (Nat → Nat → Int32)), M_X10_doneBehind_0 k p0 S = some q → post q.1 (wMd E a q.2) →
      WW E p l e rm_X10_doneBehind s m args below meth c A 0 0 (QI E below post args s rm_X10_doneBehind A) (wMd E a S) 3 [some (.ref (a 0)), some (.int p0), none] 0 [] := by
  intro p0 S q  h hq
  unfold M_X10_doneBehind_0 at h
  refine r_aload_n (pc := 0) C (i := 0) dX10_doneBehind_0 rfl rfl ?_
  refine r_iconst (pc := 1) C (v := 0) dX10_doneBehind_1 (by decide) ?_
  obtain ⟨F5, hF5, h⟩ := lt_e h
  refine r_put (pc := 2) C gwX10 tyX10 tyX10_ok nmX10 0 rfl rfl 6 (by decide) wm_5_209 rfl rfl rfl rfl (Nat.le_of_ble_eq_true rfl) (w' := (wMd E a F5)) (by rw [hF5]; rfl) dX10_doneBehind_2 ?_
  refine r_iload_n (pc := 5) C (i := 1) dX10_doneBehind_5 rfl rfl ?_
  refine r_iconst (pc := 6) C (v := 0) dX10_doneBehind_6 (by decide) ?_
  refine r_sipush (pc := 7) C (v := 200) dX10_doneBehind_7 (by decide) ?_
  obtain ⟨q6, hq6, h⟩ := bnd h
  refine r_callSp_CI (pc := 10) C [.int p0, .int (0 : Int32), .int (200 : Int32)] (c_X10_inRange E l k p0 (0 : Int32) (200 : Int32) hq6) [] rfl (by decide) g_X10_110 hd_X10_inRange.2 ⟨Nat.le_of_ble_eq_true rfl, Nat.le_of_ble_eq_true rfl⟩ ⟨Nat.zero_le _, Nat.zero_le _⟩ (Nat.le_of_ble_eq_true rfl) rfl dX10_doneBehind_10 (fun r hr => ?_)
  have hr := hr.symm
  subst hr
  refine r_if_ne (pc := 13) C (tgt := 22) dX10_doneBehind_13 rfl (fun c7 => ?_) (fun c7 => ?_)
  · rw [if_neg c7] at h
    refine r_aload_n (pc := 22) C (i := 0) dX10_doneBehind_22 rfl rfl ?_
    obtain ⟨q8, hq8, h⟩ := bnd h
    refine r_callV_CV (Cn := RX10) (pc := 23) C [] (c_X10_goAside E l k a F5 hq8) [0, 1, 2, 3, 4, 5, 6, 7, 8, 9, 10, 11, 12] rfl (by decide) 0 rfl rfl rfl g_X10_239 hd_X10_goAside ⟨Nat.le_of_ble_eq_true rfl, Nat.le_of_ble_eq_true rfl⟩ ⟨Nat.zero_le _, Nat.zero_le _⟩ (Nat.le_of_ble_eq_true rfl) rfl dX10_doneBehind_23 (fun w1 hw1 => ?_)
    subst hw1
    refine ⟨(wMd E a q8), by rfl, ?_⟩
    refine r_iconst (pc := 26) C (v := 0) dX10_doneBehind_26 (by decide) ?_
    refine r_istore_n (pc := 27) C (i := 2) dX10_doneBehind_27 rfl (by decide) rfl ?_
    refine r_weak (lSub_s (lSub_s (lSub_s lSub_e))) ?_
    exact N_X10_doneBehind_28 C a k k p0 (0 : Int32) q8 q  h hq
  · rw [if_pos c7] at h
    refine r_aload_n (pc := 16) C (i := 0) dX10_doneBehind_16 rfl rfl ?_
    refine r_iconst (pc := 17) C (v := 1) dX10_doneBehind_17 (by decide) ?_
    obtain ⟨q9, hq9, h⟩ := bnd h
    refine r_callV_CI (Cn := RX10) (pc := 18) C [.int (1 : Int32)] (c_X10_raise E l k a F5 (1 : Int32) hq9) [0, 1, 2, 3, 4, 5, 6, 7, 8, 9, 10, 11, 12] rfl (by decide) 0 rfl rfl rfl g_X10_267 hd_X10_raise ⟨Nat.le_of_ble_eq_true rfl, Nat.le_of_ble_eq_true rfl⟩ ⟨Nat.zero_le _, Nat.zero_le _⟩ (Nat.le_of_ble_eq_true rfl) rfl dX10_doneBehind_18 (fun r w1 hw1 => ?_)
    obtain ⟨hr1, hw1⟩ := hw1
    subst hr1 hw1
    refine ⟨(wMd E a q9.2), by rfl, ?_⟩
    cases h
    exact r_ireti (pc := 21) C hq (Nat.zero_le _) (Nat.zero_le _) dX10_doneBehind_21
def M_X10_doneBehind (k : Nat) (S : Nat → Nat → Int32) (p0 : Int32) : Option (Int32 × (Nat → Nat → Int32)) := M_X10_doneBehind_0 k p0 S
set_option maxRecDepth 100000 in
set_option maxHeartbeats 4000000 in
theorem c_X10_doneBehind (E : ENV) (l : Launch) (k : Nat) (a : Nat → Nat) (S : Nat → Nat → Int32) (p0 : Int32) {q : Int32 × (Nat → Nat → Int32)} (hm : M_X10_doneBehind k S p0 = some q) : CI E l yX10_doneBehind cX10_doneBehind 3 (some .int) rm_X10_doneBehind [.ref (a 0), .int p0] (wMd E a S) (fun r w' => r = q.1 ∧ w' = (wMd E a q.2)) :=
  CI.of 1 (by decide) (Nat.le_of_ble_eq_true rfl) (fun p e s m below meth c A C _ => r_weak (lSub_s (lSub_s (lSub_n lSub_e))) (N_X10_doneBehind_0 C a k p0 S q  hm ⟨rfl, rfl⟩))
theorem hd_X10_record : yX10_record.cls = RX10 ∧ yX10_record.cls ≠ "java/lang/invoke/MethodHandle" ∧ yX10_record.cls ≠ "java/lang/invoke/VarHandle" ∧ (parseMethodDescriptor yX10_record.desc).map (fun d => d.parameters.length) = some 0 := by decide +kernel
theorem g_X10_306 : GoodIn GW (wsV RX10 306 RX10 yX10_record (wsG yX10_record cX10_record 2 none)) := gw_V wm_7_127 wm_7_129 wm_0_73 wm_1_9 wm_7_130
-- ShardGuardModel.submit(IIZ)I
theorem dX10_submit_0 : decode cX10_submit 0 = .ok (.aload_n 0, 1) := by decide +kernel
theorem dX10_submit_1 : decode cX10_submit 1 = .ok (.aload_n 0, 1) := by decide +kernel
theorem dX10_submit_2 : decode cX10_submit 2 = .ok (.iload_n 1, 1) := by decide +kernel
theorem dX10_submit_3 : decode cX10_submit 3 = .ok (.invokevirtual 279, 3) := by decide +kernel
theorem dX10_submit_6 : decode cX10_submit 6 = .ok (.ifCond .ne 7, 3) := by decide +kernel
theorem dX10_submit_9 : decode cX10_submit 9 = .ok (.iconst 1, 1) := by decide +kernel
theorem dX10_submit_10 : decode cX10_submit 10 = .ok (.goto 18, 3) := by decide +kernel
theorem dX10_submit_13 : decode cX10_submit 13 = .ok (.iload_n 2, 1) := by decide +kernel
theorem dX10_submit_14 : decode cX10_submit 14 = .ok (.iconst 1, 1) := by decide +kernel
theorem dX10_submit_15 : decode cX10_submit 15 = .ok (.bipush 20, 2) := by decide +kernel
theorem dX10_submit_17 : decode cX10_submit 17 = .ok (.invokestatic 110, 3) := by decide +kernel
theorem dX10_submit_20 : decode cX10_submit 20 = .ok (.ifCond .eq 7, 3) := by decide +kernel
theorem dX10_submit_23 : decode cX10_submit 23 = .ok (.iconst 0, 1) := by decide +kernel
theorem dX10_submit_24 : decode cX10_submit 24 = .ok (.goto 4, 3) := by decide +kernel
theorem dX10_submit_27 : decode cX10_submit 27 = .ok (.iconst 2, 1) := by decide +kernel
theorem dX10_submit_28 : decode cX10_submit 28 = .ok (.putfield 93, 3) := by decide +kernel
theorem dX10_submit_31 : decode cX10_submit 31 = .ok (.aload_n 0, 1) := by decide +kernel
theorem dX10_submit_32 : decode cX10_submit 32 = .ok (.getfield 93, 3) := by decide +kernel
theorem dX10_submit_35 : decode cX10_submit 35 = .ok (.ifCond .eq 5, 3) := by decide +kernel
theorem dX10_submit_38 : decode cX10_submit 38 = .ok (.iconst 0, 1) := by decide +kernel
theorem dX10_submit_39 : decode cX10_submit 39 = .ok (.ireturn, 1) := by decide +kernel
theorem dX10_submit_40 : decode cX10_submit 40 = .ok (.aload_n 0, 1) := by decide +kernel
theorem dX10_submit_41 : decode cX10_submit 41 = .ok (.invokevirtual 117, 3) := by decide +kernel
theorem dX10_submit_44 : decode cX10_submit 44 = .ok (.bipush 60, 2) := by decide +kernel
theorem dX10_submit_46 : decode cX10_submit 46 = .ok (.if_icmp .ne 6, 3) := by decide +kernel
theorem dX10_submit_49 : decode cX10_submit 49 = .ok (.bipush (-3), 2) := by decide +kernel
theorem dX10_submit_51 : decode cX10_submit 51 = .ok (.ireturn, 1) := by decide +kernel
theorem dX10_submit_52 : decode cX10_submit 52 = .ok (.aload_n 0, 1) := by decide +kernel
theorem dX10_submit_53 : decode cX10_submit 53 = .ok (.invokevirtual 306, 3) := by decide +kernel
theorem dX10_submit_56 : decode cX10_submit 56 = .ok (.aload_n 0, 1) := by decide +kernel
theorem dX10_submit_57 : decode cX10_submit 57 = .ok (.invokevirtual 117, 3) := by decide +kernel
theorem dX10_submit_60 : decode cX10_submit 60 = .ok (.istore 4, 2) := by decide +kernel
theorem dX10_submit_62 : decode cX10_submit 62 = .ok (.aload_n 0, 1) := by decide +kernel
theorem dX10_submit_63 : decode cX10_submit 63 = .ok (.iload_n 1, 1) := by decide +kernel
theorem dX10_submit_64 : decode cX10_submit 64 = .ok (.iload_n 2, 1) := by decide +kernel
theorem dX10_submit_65 : decode cX10_submit 65 = .ok (.iload_n 3, 1) := by decide +kernel
theorem dX10_submit_66 : decode cX10_submit 66 = .ok (.invokevirtual 242, 3) := by decide +kernel
theorem dX10_submit_69 : decode cX10_submit 69 = .ok (.aload_n 0, 1) := by decide +kernel
theorem dX10_submit_70 : decode cX10_submit 70 = .ok (.iload_n 1, 1) := by decide +kernel
theorem dX10_submit_71 : decode cX10_submit 71 = .ok (.invokevirtual 199, 3) := by decide +kernel
theorem dX10_submit_74 : decode cX10_submit 74 = .ok (.ifCond .eq 12, 3) := by decide +kernel
theorem dX10_submit_77 : decode cX10_submit 77 = .ok (.aload_n 0, 1) := by decide +kernel
theorem dX10_submit_78 : decode cX10_submit 78 = .ok (.iload 4, 2) := by decide +kernel
theorem dX10_submit_80 : decode cX10_submit 80 = .ok (.invokevirtual 158, 3) := by decide +kernel
theorem dX10_submit_83 : decode cX10_submit 83 = .ok (.goto 10, 3) := by decide +kernel
theorem dX10_submit_86 : decode cX10_submit 86 = .ok (.aload_n 0, 1) := by decide +kernel
theorem dX10_submit_87 : decode cX10_submit 87 = .ok (.iload 4, 2) := by decide +kernel
theorem dX10_submit_89 : decode cX10_submit 89 = .ok (.iconst 4, 1) := by decide +kernel
theorem dX10_submit_90 : decode cX10_submit 90 = .ok (.invokevirtual 172, 3) := by decide +kernel
theorem dX10_submit_93 : decode cX10_submit 93 = .ok (.iload 4, 2) := by decide +kernel
theorem dX10_submit_95 : decode cX10_submit 95 = .ok (.ireturn, 1) := by decide +kernel
def rm_X10_submit : Room := { frames := 6, cells := 0, slots := 0, locals := 134 }
def M_X10_submit_28 (k : Nat) (x1 : Int32) (x2 : Int32) (x3 : Int32) (y1 : Int32) (S : Nat → Nat → Int32) : Option (Int32 × (Nat → Nat → Int32)) := lt (va_up S 0 (upd (S 0) 1 y1)) fun F1 => if (F1 0 1) = 0 then ((M_X10_requests k F1).bind fun q3 => if q3 = (60 : Int32) then (some ((-3 : Int32), F1)) else ((M_X10_record k F1).bind fun q5 => (M_X10_requests k q5).bind fun q6 => (M_X10_layRequest k q5 x1 x2 x3).bind fun q7 => (M_X10_isOpen k q7 x1).bind fun q8 => if q8 = 0 then ((M_X10_end k q7 q6 (4 : Int32)).bind fun q10 => some (q6, q10)) else ((M_X10_route k q7 q6).bind fun q11 => some (q6, q11)))) else (some ((0 : Int32), F1))
set_option maxRecDepth 100000 in
set_option maxHeartbeats 4000000 in
theorem N_X10_submit_28 (C : CX E p l s m args meth c cX10_submit 5 RX10 (some .int) A) (a : Nat → Nat) (k : Nat) {post : Int32 → va_W → Prop} :
    ∀ (x1 : Int32) (x2 : Int32) (x3 : Int32) (y1 : Int32) (S : Nat → Nat → Int32) (q : Int32 × (Nat → Nat → Int32)), M_X10_submit_28 k x1 x2 x3 y1 S = some q → post q.1 (wMd E a q.2) →
      WW E p l e rm_X10_submit s m args below meth c A 0 0 (QI E below post args s rm_X10_submit A) (wMd E a S) 5 [some (.ref (a 0)), some (.int x1), some (.int x2), some (.int x3), none] 28 [.int y1, .ref (a 0)] := by
  intro x1 x2 x3 y1 S q  h hq
  unfold M_X10_submit_28 at h
  obtain ⟨F1, hF1, h⟩ := lt_e h
  refine r_put (pc := 28) C gwX10 tyX10 tyX10_ok nmX10 0 rfl rfl 6 (by decide) wm_5_209 rfl rfl rfl rfl (Nat.le_of_ble_eq_true rfl) (w' := (wMd E a F1)) (by rw [hF1]; rfl) dX10_submit_28 ?_
  refine r_aload_n (pc := 31) C (i := 0) dX10_submit_31 rfl rfl ?_
  refine r_get (pc := 32) C gwX10 0 rfl rfl 6 (by decide) wm_5_209 rfl dX10_submit_32 ?_
  refine r_if_eq (pc := 35) C (tgt := 40) dX10_submit_35 rfl (fun c2 => ?_) (fun c2 => ?_)
  · rw [if_pos c2] at h
    refine r_aload_n (pc := 40) C (i := 0) dX10_submit_40 rfl rfl ?_
    obtain ⟨q3, hq3, h⟩ := bnd h
    refine r_callVp_CI (Cn := RX10) (pc := 41) C [] (c_X10_requests E l k a F1 hq3) [0, 1, 2, 3, 4, 5, 6, 7, 8, 9, 10, 11, 12] rfl (by decide) 0 rfl rfl rfl g_X10_117 hd_X10_requests ⟨Nat.le_of_ble_eq_true rfl, Nat.le_of_ble_eq_true rfl⟩ ⟨Nat.zero_le _, Nat.zero_le _⟩ (Nat.le_of_ble_eq_true rfl) rfl dX10_submit_41 (fun r hr => ?_)
    have hr := hr.symm
    subst hr
    refine r_bipush (pc := 44) C (v := 60) dX10_submit_44 (by decide) ?_
    refine r_icmp_ne (pc := 46) C (tgt := 52) dX10_submit_46 rfl (fun c4 => ?_) (fun c4 => ?_)
    · rw [if_neg c4] at h
      refine r_aload_n (pc := 52) C (i := 0) dX10_submit_52 rfl rfl ?_
      obtain ⟨q5, hq5, h⟩ := bnd h
      refine r_callV_CV (Cn := RX10) (pc := 53) C [] (c_X10_record E l k a F1 hq5) [0, 1, 2, 3, 4, 5, 6, 7, 8, 9, 10, 11, 12] rfl (by decide) 0 rfl rfl rfl g_X10_306 hd_X10_record ⟨Nat.le_of_ble_eq_true rfl, Nat.le_of_ble_eq_true rfl⟩ ⟨Nat.zero_le _, Nat.zero_le _⟩ (Nat.le_of_ble_eq_true rfl) rfl dX10_submit_53 (fun w1 hw1 => ?_)
      subst hw1
      refine ⟨(wMd E a q5), by rfl, ?_⟩
      refine r_aload_n (pc := 56) C (i := 0) dX10_submit_56 rfl rfl ?_
      obtain ⟨q6, hq6, h⟩ := bnd h
      refine r_callVp_CI (Cn := RX10) (pc := 57) C [] (c_X10_requests E l k a q5 hq6) [0, 1, 2, 3, 4, 5, 6, 7, 8, 9, 10, 11, 12] rfl (by decide) 0 rfl rfl rfl g_X10_117 hd_X10_requests ⟨Nat.le_of_ble_eq_true rfl, Nat.le_of_ble_eq_true rfl⟩ ⟨Nat.zero_le _, Nat.zero_le _⟩ (Nat.le_of_ble_eq_true rfl) rfl dX10_submit_57 (fun r hr => ?_)
      have hr := hr.symm
      subst hr
      refine r_istore (pc := 60) C (i := 4) dX10_submit_60 (by decide) rfl ?_
      refine r_aload_n (pc := 62) C (i := 0) dX10_submit_62 rfl rfl ?_
      refine r_iload_n (pc := 63) C (i := 1) dX10_submit_63 rfl rfl ?_
      refine r_iload_n (pc := 64) C (i := 2) dX10_submit_64 rfl rfl ?_
      refine r_iload_n (pc := 65) C (i := 3) dX10_submit_65 rfl rfl ?_
      obtain ⟨q7, hq7, h⟩ := bnd h
      refine r_callV_CV (Cn := RX10) (pc := 66) C [.int x1, .int x2, .int x3] (c_X10_layRequest E l k a q5 x1 x2 x3 hq7) [0, 1, 2, 3, 4, 5, 6, 7, 8, 9, 10, 11, 12] rfl (by decide) 0 rfl rfl rfl g_X10_242 hd_X10_layRequest ⟨Nat.le_of_ble_eq_true rfl, Nat.le_of_ble_eq_true rfl⟩ ⟨Nat.zero_le _, Nat.zero_le _⟩ (Nat.le_of_ble_eq_true rfl) rfl dX10_submit_66 (fun w1 hw1 => ?_)
      subst hw1
      refine ⟨(wMd E a q7), by rfl, ?_⟩
      refine r_aload_n (pc := 69) C (i := 0) dX10_submit_69 rfl rfl ?_
      refine r_iload_n (pc := 70) C (i := 1) dX10_submit_70 rfl rfl ?_
      obtain ⟨q8, hq8, h⟩ := bnd h
      refine r_callVp_CI (Cn := RX10) (pc := 71) C [.int x1] (c_X10_isOpen E l k a q7 x1 hq8) [0, 1, 2, 3, 4, 5, 6, 7, 8, 9, 10, 11, 12] rfl (by decide) 0 rfl rfl rfl g_X10_199 hd_X10_isOpen ⟨Nat.le_of_ble_eq_true rfl, Nat.le_of_ble_eq_true rfl⟩ ⟨Nat.zero_le _, Nat.zero_le _⟩ (Nat.le_of_ble_eq_true rfl) rfl dX10_submit_71 (fun r hr => ?_)
      have hr := hr.symm
      subst hr
      refine r_if_eq (pc := 74) C (tgt := 86) dX10_submit_74 rfl (fun c9 => ?_) (fun c9 => ?_)
      · rw [if_pos c9] at h
        refine r_aload_n (pc := 86) C (i := 0) dX10_submit_86 rfl rfl ?_
        refine r_iload (pc := 87) C (i := 4) dX10_submit_87 rfl ?_
        refine r_iconst (pc := 89) C (v := 4) dX10_submit_89 (by decide) ?_
        obtain ⟨q10, hq10, h⟩ := bnd h
        refine r_callV_CV (Cn := RX10) (pc := 90) C [.int q6, .int (4 : Int32)] (c_X10_end E l k a q7 q6 (4 : Int32) hq10) [0, 1, 2, 3, 4, 5, 6, 7, 8, 9, 10, 11, 12] rfl (by decide) 0 rfl rfl rfl g_X10_172 hd_X10_end ⟨Nat.le_of_ble_eq_true rfl, Nat.le_of_ble_eq_true rfl⟩ ⟨Nat.zero_le _, Nat.zero_le _⟩ (Nat.le_of_ble_eq_true rfl) rfl dX10_submit_90 (fun w1 hw1 => ?_)
        subst hw1
        refine ⟨(wMd E a q10), by rfl, ?_⟩
        refine r_iload (pc := 93) C (i := 4) dX10_submit_93 rfl ?_
        cases h
        exact r_ireti (pc := 95) C hq (Nat.zero_le _) (Nat.zero_le _) dX10_submit_95
      · rw [if_neg c9] at h
        refine r_aload_n (pc := 77) C (i := 0) dX10_submit_77 rfl rfl ?_
        refine r_iload (pc := 78) C (i := 4) dX10_submit_78 rfl ?_
        obtain ⟨q11, hq11, h⟩ := bnd h
        refine r_callV_CV (Cn := RX10) (pc := 80) C [.int q6] (c_X10_route E l k a q7 q6 hq11) [0, 1, 2, 3, 4, 5, 6, 7, 8, 9, 10, 11, 12] rfl (by decide) 0 rfl rfl rfl g_X10_158 hd_X10_route ⟨Nat.le_of_ble_eq_true rfl, Nat.le_of_ble_eq_true rfl⟩ ⟨Nat.zero_le _, Nat.zero_le _⟩ (Nat.le_of_ble_eq_true rfl) rfl dX10_submit_80 (fun w1 hw1 => ?_)
        subst hw1
        refine ⟨(wMd E a q11), by rfl, ?_⟩
        refine r_goto (pc := 83) C (tgt := 93) dX10_submit_83 rfl ?_
        refine r_iload (pc := 93) C (i := 4) dX10_submit_93 rfl ?_
        cases h
        exact r_ireti (pc := 95) C hq (Nat.zero_le _) (Nat.zero_le _) dX10_submit_95
    · rw [if_pos c4] at h
      refine r_bipush (pc := 49) C (v := (-3)) dX10_submit_49 (by decide) ?_
      have h := Option.some.inj h
      subst h
      exact r_ireti (pc := 51) C hq (Nat.zero_le _) (Nat.zero_le _) dX10_submit_51
  · rw [if_neg c2] at h
    refine r_iconst (pc := 38) C (v := 0) dX10_submit_38 (by decide) ?_
    cases h
    exact r_ireti (pc := 39) C hq (Nat.zero_le _) (Nat.zero_le _) dX10_submit_39
def M_X10_submit_0 (k : Nat) (p0 : Int32) (p1 : Int32) (p2 : Int32) (S : Nat → Nat → Int32) : Option (Int32 × (Nat → Nat → Int32)) := (M_X10_isTenant k S p0).bind fun q12 => if q12 = 0 then (M_X10_submit_28 k p0 p1 p2 (1 : Int32) S) else ((M_X10_inRange k p1 (1 : Int32) (20 : Int32)).bind fun q14 => if q14 = 0 then (M_X10_submit_28 k p0 p1 p2 (2 : Int32) S) else (M_X10_submit_28 k p0 p1 p2 (0 : Int32) S))
set_option maxRecDepth 100000 in
set_option maxHeartbeats 4000000 in
theorem N_X10_submit_0 (C : CX E p l s m args meth c cX10_submit 5 RX10 (some .int) A) (a : Nat → Nat) (k : Nat) {post : Int32 → va_W → Prop} :
    ∀ (p0 : Int32) (p1 : Int32) (p2 : Int32) (S : Nat → Nat → Int32) (q : Int32 × (Nat → Nat → Int32)), M_X10_submit_0 k p0 p1 p2 S = some q → post q.1 (wMd E a q.2) →
      WW E p l e rm_X10_submit s m args below meth c A 0 0 (QI E below post args s rm_X10_submit A) (wMd E a S) 5 [some (.ref (a 0)), some (.int p0), some (.int p1), some (.int p2), none] 0 [] := by
  intro p0 p1 p2 S q  h hq
  unfold M_X10_submit_0 at h
  refine r_aload_n (pc := 0) C (i := 0) dX10_submit_0 rfl rfl ?_
  refine r_aload_n (pc := 1) C (i := 0) dX10_submit_1 rfl rfl ?_
  refine r_iload_n (pc := 2) C (i := 1) dX10_submit_2 rfl rfl ?_
  obtain ⟨q12, hq12, h⟩ := bnd h
  refine r_callVp_CI (Cn := RX10) (pc := 3) C [.int p0] (c_X10_isTenant E l k a S p0 hq12) [0, 1, 2, 3, 4, 5, 6, 7, 8, 9, 10, 11, 12] rfl (by decide) 0 rfl rfl rfl g_X10_279 hd_X10_isTenant ⟨Nat.le_of_ble_eq_true rfl, Nat.le_of_ble_eq_true rfl⟩ ⟨Nat.zero_le _, Nat.zero_le _⟩ (Nat.le_of_ble_eq_true rfl) rfl dX10_submit_3 (fun r hr => ?_)
  have hr := hr.symm
  subst hr
  refine r_if_ne (pc := 6) C (tgt := 13) dX10_submit_6 rfl (fun c13 => ?_) (fun c13 => ?_)
  · rw [if_neg c13] at h
    refine r_iload_n (pc := 13) C (i := 2) dX10_submit_13 rfl rfl ?_
    refine r_iconst (pc := 14) C (v := 1) dX10_submit_14 (by decide) ?_
    refine r_bipush (pc := 15) C (v := 20) dX10_submit_15 (by decide) ?_
    obtain ⟨q14, hq14, h⟩ := bnd h
    refine r_callSp_CI (pc := 17) C [.int p1, .int (1 : Int32), .int (20 : Int32)] (c_X10_inRange E l k p1 (1 : Int32) (20 : Int32) hq14) [] rfl (by decide) g_X10_110 hd_X10_inRange.2 ⟨Nat.le_of_ble_eq_true rfl, Nat.le_of_ble_eq_true rfl⟩ ⟨Nat.zero_le _, Nat.zero_le _⟩ (Nat.le_of_ble_eq_true rfl) rfl dX10_submit_17 (fun r hr => ?_)
    have hr := hr.symm
    subst hr
    refine r_if_eq (pc := 20) C (tgt := 27) dX10_submit_20 rfl (fun c15 => ?_) (fun c15 => ?_)
    · rw [if_pos c15] at h
      refine r_iconst (pc := 27) C (v := 2) dX10_submit_27 (by decide) ?_
      refine r_weak (lSub_s (lSub_s (lSub_s (lSub_s (lSub_n lSub_e))))) ?_
      exact N_X10_submit_28 C a k p0 p1 p2 (2 : Int32) S q  h hq
    · rw [if_neg c15] at h
      refine r_iconst (pc := 23) C (v := 0) dX10_submit_23 (by decide) ?_
      refine r_goto (pc := 24) C (tgt := 28) dX10_submit_24 rfl ?_
      refine r_weak (lSub_s (lSub_s (lSub_s (lSub_s (lSub_n lSub_e))))) ?_
      exact N_X10_submit_28 C a k p0 p1 p2 (0 : Int32) S q  h hq
  · rw [if_pos c13] at h
    refine r_iconst (pc := 9) C (v := 1) dX10_submit_9 (by decide) ?_
    refine r_goto (pc := 10) C (tgt := 28) dX10_submit_10 rfl ?_
    refine r_weak (lSub_s (lSub_s (lSub_s (lSub_s (lSub_n lSub_e))))) ?_
    exact N_X10_submit_28 C a k p0 p1 p2 (1 : Int32) S q  h hq
def M_X10_submit (k : Nat) (S : Nat → Nat → Int32) (p0 : Int32) (p1 : Int32) (p2 : Int32) : Option (Int32 × (Nat → Nat → Int32)) := M_X10_submit_0 k p0 p1 p2 S
set_option maxRecDepth 100000 in
set_option maxHeartbeats 4000000 in
theorem c_X10_submit (E : ENV) (l : Launch) (k : Nat) (a : Nat → Nat) (S : Nat → Nat → Int32) (p0 : Int32) (p1 : Int32) (p2 : Int32) {q : Int32 × (Nat → Nat → Int32)} (hm : M_X10_submit k S p0 p1 p2 = some q) : CI E l yX10_submit cX10_submit 5 (some .int) rm_X10_submit [.ref (a 0), .int p0, .int p1, .int p2] (wMd E a S) (fun r w' => r = q.1 ∧ w' = (wMd E a q.2)) :=
  CI.of 1 (by decide) (Nat.le_of_ble_eq_true rfl) (fun p e s m below meth c A C _ => r_weak (lSub_s (lSub_s (lSub_s (lSub_s (lSub_n lSub_e))))) (N_X10_submit_0 C a k p0 p1 p2 S q  hm ⟨rfl, rfl⟩))
-- ShardGuardModel.pass(I)I
theorem dX10_pass_0 : decode cX10_pass 0 = .ok (.aload_n 0, 1) := by decide +kernel
theorem dX10_pass_1 : decode cX10_pass 1 = .ok (.iconst 0, 1) := by decide +kernel
theorem dX10_pass_2 : decode cX10_pass 2 = .ok (.putfield 93, 3) := by decide +kernel
theorem dX10_pass_5 : decode cX10_pass 5 = .ok (.iload_n 1, 1) := by decide +kernel
theorem dX10_pass_6 : decode cX10_pass 6 = .ok (.iconst 1, 1) := by decide +kernel
theorem dX10_pass_7 : decode cX10_pass 7 = .ok (.bipush 100, 2) := by decide +kernel
theorem dX10_pass_9 : decode cX10_pass 9 = .ok (.invokestatic 110, 3) := by decide +kernel
theorem dX10_pass_12 : decode cX10_pass 12 = .ok (.ifCond .ne 9, 3) := by decide +kernel
theorem dX10_pass_15 : decode cX10_pass 15 = .ok (.aload_n 0, 1) := by decide +kernel
theorem dX10_pass_16 : decode cX10_pass 16 = .ok (.iconst 1, 1) := by decide +kernel
theorem dX10_pass_17 : decode cX10_pass 17 = .ok (.invokevirtual 267, 3) := by decide +kernel
theorem dX10_pass_20 : decode cX10_pass 20 = .ok (.ireturn, 1) := by decide +kernel
theorem dX10_pass_21 : decode cX10_pass 21 = .ok (.aload_n 0, 1) := by decide +kernel
theorem dX10_pass_22 : decode cX10_pass 22 = .ok (.getfield 9, 3) := by decide +kernel
theorem dX10_pass_25 : decode cX10_pass 25 = .ok (.iconst 4, 1) := by decide +kernel
theorem dX10_pass_26 : decode cX10_pass 26 = .ok (.iaload, 1) := by decide +kernel
theorem dX10_pass_27 : decode cX10_pass 27 = .ok (.iload_n 1, 1) := by decide +kernel
theorem dX10_pass_28 : decode cX10_pass 28 = .ok (.iadd, 1) := by decide +kernel
theorem dX10_pass_29 : decode cX10_pass 29 = .ok (.sipush 9999, 3) := by decide +kernel
theorem dX10_pass_32 : decode cX10_pass 32 = .ok (.if_icmp .le 6, 3) := by decide +kernel
theorem dX10_pass_35 : decode cX10_pass 35 = .ok (.bipush (-2), 2) := by decide +kernel
theorem dX10_pass_37 : decode cX10_pass 37 = .ok (.ireturn, 1) := by decide +kernel
theorem dX10_pass_38 : decode cX10_pass 38 = .ok (.aload_n 0, 1) := by decide +kernel
theorem dX10_pass_39 : decode cX10_pass 39 = .ok (.invokevirtual 306, 3) := by decide +kernel
theorem dX10_pass_42 : decode cX10_pass 42 = .ok (.aload_n 0, 1) := by decide +kernel
theorem dX10_pass_43 : decode cX10_pass 43 = .ok (.getfield 9, 3) := by decide +kernel
theorem dX10_pass_46 : decode cX10_pass 46 = .ok (.bipush 11, 2) := by decide +kernel
theorem dX10_pass_48 : decode cX10_pass 48 = .ok (.iaload, 1) := by decide +kernel
theorem dX10_pass_49 : decode cX10_pass 49 = .ok (.istore_n 2, 1) := by decide +kernel
theorem dX10_pass_50 : decode cX10_pass 50 = .ok (.iconst 0, 1) := by decide +kernel
theorem dX10_pass_51 : decode cX10_pass 51 = .ok (.istore_n 3, 1) := by decide +kernel
theorem dX10_pass_52 : decode cX10_pass 52 = .ok (.iload_n 3, 1) := by decide +kernel
theorem dX10_pass_53 : decode cX10_pass 53 = .ok (.iload_n 1, 1) := by decide +kernel
theorem dX10_pass_54 : decode cX10_pass 54 = .ok (.if_icmp .ge 13, 3) := by decide +kernel
theorem dX10_pass_57 : decode cX10_pass 57 = .ok (.aload_n 0, 1) := by decide +kernel
theorem dX10_pass_58 : decode cX10_pass 58 = .ok (.invokevirtual 249, 3) := by decide +kernel
theorem dX10_pass_61 : decode cX10_pass 61 = .ok (.iinc 3 1, 3) := by decide +kernel
theorem dX10_pass_64 : decode cX10_pass 64 = .ok (.goto (-12), 3) := by decide +kernel
theorem dX10_pass_67 : decode cX10_pass 67 = .ok (.aload_n 0, 1) := by decide +kernel
theorem dX10_pass_68 : decode cX10_pass 68 = .ok (.getfield 9, 3) := by decide +kernel
theorem dX10_pass_71 : decode cX10_pass 71 = .ok (.bipush 11, 2) := by decide +kernel
theorem dX10_pass_73 : decode cX10_pass 73 = .ok (.iaload, 1) := by decide +kernel
theorem dX10_pass_74 : decode cX10_pass 74 = .ok (.iload_n 2, 1) := by decide +kernel
theorem dX10_pass_75 : decode cX10_pass 75 = .ok (.isub, 1) := by decide +kernel
theorem dX10_pass_76 : decode cX10_pass 76 = .ok (.ireturn, 1) := by decide +kernel
def rm_X10_pass : Room := { frames := 9, cells := 0, slots := 0, locals := 200 }
def M_X10_pass_52 (k : Nat) : Nat → (Int32) → (Int32) → (Int32) → (Nat → Nat → Int32) → Option (Int32 × (Nat → Nat → Int32))
  | 0, _, _, _, _ => none
  | n + 1, x1, x2, x3, S => if x1 ≤ x3 then ((if inb (11 : Int32) 1692 = true then some ((((S 1) (11 : Int32).toNatClampNeg) - x2), S) else none)) else ((M_X10_tick k S).bind fun q3 => M_X10_pass_52 k n x1 x2 (x3 + 1) q3)
theorem M_X10_pass_52_s (k : Nat) (n : Nat) (x1 : Int32) (x2 : Int32) (x3 : Int32) (S : Nat → Nat → Int32) : M_X10_pass_52 k (n + 1) x1 x2 x3 S = (if x1 ≤ x3 then ((if inb (11 : Int32) 1692 = true then some ((((S 1) (11 : Int32).toNatClampNeg) - x2), S) else none)) else ((M_X10_tick k S).bind fun q3 => M_X10_pass_52 k n x1 x2 (x3 + 1) q3)) := rfl
set_option maxRecDepth 100000 in
set_option maxHeartbeats 4000000 in
theorem N_X10_pass_52 (C : CX E p l s m args meth c cX10_pass 4 RX10 (some .int) A) (a : Nat → Nat) (k : Nat) {post : Int32 → va_W → Prop} :
    ∀ (n : Nat) (x1 : Int32) (x2 : Int32) (x3 : Int32) (S : Nat → Nat → Int32) (q : Int32 × (Nat → Nat → Int32)), M_X10_pass_52 k n x1 x2 x3 S = some q → post q.1 (wMd E a q.2) →
      WW E p l e rm_X10_pass s m args below meth c A 0 0 (QI E below post args s rm_X10_pass A) (wMd E a S) 4 [some (.ref (a 0)), some (.int x1), some (.int x2), some (.int x3)] 52 [] := by
  intro n
  induction n with
  | zero => intro x1 x2 x3 S q  h _; cases h
  | succ n ih =>
    intro x1 x2 x3 S q  h hq
    rw [M_X10_pass_52_s] at h
    refine r_iload_n (pc := 52) C (i := 3) dX10_pass_52 rfl rfl ?_
    refine r_iload_n (pc := 53) C (i := 1) dX10_pass_53 rfl rfl ?_
    refine r_icmp_ge (pc := 54) C (tgt := 67) dX10_pass_54 rfl (fun c1 => ?_) (fun c1 => ?_)
    · rw [if_pos c1] at h
      refine r_aload_n (pc := 67) C (i := 0) dX10_pass_67 rfl rfl ?_
      refine r_get (pc := 68) C gwX10 0 rfl rfl 0 (by decide) wm_5_203 rfl dX10_pass_68 ?_
      refine r_bipush (pc := 71) C (v := 11) dX10_pass_71 (by decide) ?_
      obtain ⟨hi2, h⟩ := ifn h
      refine r_iald (pc := 73) C 1 rfl hi2 dX10_pass_73 ?_
      refine r_iload_n (pc := 74) C (i := 2) dX10_pass_74 rfl rfl ?_
      refine r_isub (pc := 75) C dX10_pass_75 ?_
      cases h
      exact r_ireti (pc := 76) C hq (Nat.zero_le _) (Nat.zero_le _) dX10_pass_76
    · rw [if_neg c1] at h
      refine r_aload_n (pc := 57) C (i := 0) dX10_pass_57 rfl rfl ?_
      obtain ⟨q3, hq3, h⟩ := bnd h
      refine r_callV_CV (Cn := RX10) (pc := 58) C [] (c_X10_tick E l k a S hq3) [0, 1, 2, 3, 4, 5, 6, 7, 8, 9, 10, 11, 12] rfl (by decide) 0 rfl rfl rfl g_X10_249 hd_X10_tick ⟨Nat.le_of_ble_eq_true rfl, Nat.le_of_ble_eq_true rfl⟩ ⟨Nat.zero_le _, Nat.zero_le _⟩ (Nat.le_of_ble_eq_true rfl) rfl dX10_pass_58 (fun w1 hw1 => ?_)
      subst hw1
      refine ⟨(wMd E a q3), by rfl, ?_⟩
      refine r_iinc (pc := 61) C (v := (x3 + 1)) dX10_pass_61 rfl rfl (by decide) rfl ?_
      refine r_goto (pc := 64) C (tgt := 52) dX10_pass_64 rfl ?_
      refine r_weak (lSub_s (lSub_s (lSub_s (lSub_s lSub_e)))) ?_
      exact ih x1 x2 (x3 + 1) q3 q  h hq
def M_X10_pass_0 (k : Nat) (p0 : Int32) (S : Nat → Nat → Int32) : Option (Int32 × (Nat → Nat → Int32)) := lt (va_up S 0 (upd (S 0) 1 (0 : Int32))) fun F4 => (M_X10_inRange k p0 (1 : Int32) (100 : Int32)).bind fun q5 => if q5 = 0 then ((M_X10_raise k F4 (1 : Int32)).bind fun q12 => some (q12.1, q12.2)) else ((if inb (4 : Int32) 1692 = true then if (((F4 1) (4 : Int32).toNatClampNeg) + p0) ≤ (9999 : Int32) then ((M_X10_record k F4).bind fun q9 => (if inb (11 : Int32) 1692 = true then lt ((q9 1) (11 : Int32).toNatClampNeg) fun v11 => M_X10_pass_52 k k p0 v11 (0 : Int32) q9 else none)) else (some ((-2 : Int32), F4)) else none))
set_option maxRecDepth 100000 in
set_option maxHeartbeats 4000000 in
theorem N_X10_pass_0 (C : CX E p l s m args meth c cX10_pass 4 RX10 (some .int) A) (a : Nat → Nat) (k : Nat) {post : Int32 → va_W → Prop} :
    ∀ (p0 : Int32) (S : Nat → Nat → Int32) (q : Int32 × (Nat → Nat → Int32)), M_X10_pass_0 k p0 S = some q → post q.1 (wMd E a q.2) →
      WW E p l e rm_X10_pass s m args below meth c A 0 0 (QI E below post args s rm_X10_pass A) (wMd E a S) 4 [some (.ref (a 0)), some (.int p0), none, none] 0 [] := by
  intro p0 S q  h hq
  unfold M_X10_pass_0 at h
  refine r_aload_n (pc := 0) C (i := 0) dX10_pass_0 rfl rfl ?_
  refine r_iconst (pc := 1) C (v := 0) dX10_pass_1 (by decide) ?_
  obtain ⟨F4, hF4, h⟩ := lt_e h
  refine r_put (pc := 2) C gwX10 tyX10 tyX10_ok nmX10 0 rfl rfl 6 (by decide) wm_5_209 rfl rfl rfl rfl (Nat.le_of_ble_eq_true rfl) (w' := (wMd E a F4)) (by rw [hF4]; rfl) dX10_pass_2 ?_
  refine r_iload_n (pc := 5) C (i := 1) dX10_pass_5 rfl rfl ?_
  refine r_iconst (pc := 6) C (v := 1) dX10_pass_6 (by decide) ?_
  refine r_bipush (pc := 7) C (v := 100) dX10_pass_7 (by decide) ?_
  obtain ⟨q5, hq5, h⟩ := bnd h
  refine r_callSp_CI (pc := 9) C [.int p0, .int (1 : Int32), .int (100 : Int32)] (c_X10_inRange E l k p0 (1 : Int32) (100 : Int32) hq5) [] rfl (by decide) g_X10_110 hd_X10_inRange.2 ⟨Nat.le_of_ble_eq_true rfl, Nat.le_of_ble_eq_true rfl⟩ ⟨Nat.zero_le _, Nat.zero_le _⟩ (Nat.le_of_ble_eq_true rfl) rfl dX10_pass_9 (fun r hr => ?_)
  have hr := hr.symm
  subst hr
  refine r_if_ne (pc := 12) C (tgt := 21) dX10_pass_12 rfl (fun c6 => ?_) (fun c6 => ?_)
  · rw [if_neg c6] at h
    refine r_aload_n (pc := 21) C (i := 0) dX10_pass_21 rfl rfl ?_
    refine r_get (pc := 22) C gwX10 0 rfl rfl 0 (by decide) wm_5_203 rfl dX10_pass_22 ?_
    refine r_iconst (pc := 25) C (v := 4) dX10_pass_25 (by decide) ?_
    obtain ⟨hi7, h⟩ := ifn h
    refine r_iald (pc := 26) C 1 rfl hi7 dX10_pass_26 ?_
    refine r_iload_n (pc := 27) C (i := 1) dX10_pass_27 rfl rfl ?_
    refine r_iadd (pc := 28) C dX10_pass_28 ?_
    refine r_sipush (pc := 29) C (v := 9999) dX10_pass_29 (by decide) ?_
    refine r_icmp_le (pc := 32) C (tgt := 38) dX10_pass_32 rfl (fun c8 => ?_) (fun c8 => ?_)
    · rw [if_pos c8] at h
      refine r_aload_n (pc := 38) C (i := 0) dX10_pass_38 rfl rfl ?_
      obtain ⟨q9, hq9, h⟩ := bnd h
      refine r_callV_CV (Cn := RX10) (pc := 39) C [] (c_X10_record E l k a F4 hq9) [0, 1, 2, 3, 4, 5, 6, 7, 8, 9, 10, 11, 12] rfl (by decide) 0 rfl rfl rfl g_X10_306 hd_X10_record ⟨Nat.le_of_ble_eq_true rfl, Nat.le_of_ble_eq_true rfl⟩ ⟨Nat.zero_le _, Nat.zero_le _⟩ (Nat.le_of_ble_eq_true rfl) rfl dX10_pass_39 (fun w1 hw1 => ?_)
      subst hw1
      refine ⟨(wMd E a q9), by rfl, ?_⟩
      refine r_aload_n (pc := 42) C (i := 0) dX10_pass_42 rfl rfl ?_
      refine r_get (pc := 43) C gwX10 0 rfl rfl 0 (by decide) wm_5_203 rfl dX10_pass_43 ?_
      refine r_bipush (pc := 46) C (v := 11) dX10_pass_46 (by decide) ?_
      obtain ⟨hi10, h⟩ := ifn h
      refine r_iald (pc := 48) C 1 rfl hi10 dX10_pass_48 ?_
      obtain ⟨v11, hv11, h⟩ := lt_e h
      refine r_topi hv11 ?_
      refine r_istore_n (pc := 49) C (i := 2) dX10_pass_49 rfl (by decide) rfl ?_
      refine r_iconst (pc := 50) C (v := 0) dX10_pass_50 (by decide) ?_
      refine r_istore_n (pc := 51) C (i := 3) dX10_pass_51 rfl (by decide) rfl ?_
      refine r_weak (lSub_s (lSub_s (lSub_s (lSub_s lSub_e)))) ?_
      exact N_X10_pass_52 C a k k p0 v11 (0 : Int32) q9 q  h hq
    · rw [if_neg c8] at h
      refine r_bipush (pc := 35) C (v := (-2)) dX10_pass_35 (by decide) ?_
      have h := Option.some.inj h
      subst h
      exact r_ireti (pc := 37) C hq (Nat.zero_le _) (Nat.zero_le _) dX10_pass_37
  · rw [if_pos c6] at h
    refine r_aload_n (pc := 15) C (i := 0) dX10_pass_15 rfl rfl ?_
    refine r_iconst (pc := 16) C (v := 1) dX10_pass_16 (by decide) ?_
    obtain ⟨q12, hq12, h⟩ := bnd h
    refine r_callV_CI (Cn := RX10) (pc := 17) C [.int (1 : Int32)] (c_X10_raise E l k a F4 (1 : Int32) hq12) [0, 1, 2, 3, 4, 5, 6, 7, 8, 9, 10, 11, 12] rfl (by decide) 0 rfl rfl rfl g_X10_267 hd_X10_raise ⟨Nat.le_of_ble_eq_true rfl, Nat.le_of_ble_eq_true rfl⟩ ⟨Nat.zero_le _, Nat.zero_le _⟩ (Nat.le_of_ble_eq_true rfl) rfl dX10_pass_17 (fun r w1 hw1 => ?_)
    obtain ⟨hr1, hw1⟩ := hw1
    subst hr1 hw1
    refine ⟨(wMd E a q12.2), by rfl, ?_⟩
    cases h
    exact r_ireti (pc := 20) C hq (Nat.zero_le _) (Nat.zero_le _) dX10_pass_20
def M_X10_pass (k : Nat) (S : Nat → Nat → Int32) (p0 : Int32) : Option (Int32 × (Nat → Nat → Int32)) := M_X10_pass_0 k p0 S
set_option maxRecDepth 100000 in
set_option maxHeartbeats 4000000 in
theorem c_X10_pass (E : ENV) (l : Launch) (k : Nat) (a : Nat → Nat) (S : Nat → Nat → Int32) (p0 : Int32) {q : Int32 × (Nat → Nat → Int32)} (hm : M_X10_pass k S p0 = some q) : CI E l yX10_pass cX10_pass 4 (some .int) rm_X10_pass [.ref (a 0), .int p0] (wMd E a S) (fun r w' => r = q.1 ∧ w' = (wMd E a q.2)) :=
  CI.of 2 (by decide) (Nat.le_of_ble_eq_true rfl) (fun p e s m below meth c A C _ => r_weak (lSub_s (lSub_s (lSub_n (lSub_n lSub_e)))) (N_X10_pass_0 C a k p0 S q  hm ⟨rfl, rfl⟩))
end WALKS
