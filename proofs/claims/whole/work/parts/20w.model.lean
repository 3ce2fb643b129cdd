section WALKS
variable {E : ENV} {p : Program} {l : Launch} {e : Env} {s : State} {m : MethodId} {args : Array Value} {below : List Frame} {meth : Method} {c : Code} {A : Nat → Prop}
-- ShardGuardModel.kill(I)I
theorem dX10_kill_0 : decode cX10_kill 0 = .ok (.aload_n 0, 1) := by decide +kernel
theorem dX10_kill_1 : decode cX10_kill 1 = .ok (.iconst 0, 1) := by decide +kernel
theorem dX10_kill_2 : decode cX10_kill 2 = .ok (.putfield 93, 3) := by decide +kernel
theorem dX10_kill_5 : decode cX10_kill 5 = .ok (.aload_n 0, 1) := by decide +kernel
theorem dX10_kill_6 : decode cX10_kill 6 = .ok (.iload_n 1, 1) := by decide +kernel
theorem dX10_kill_7 : decode cX10_kill 7 = .ok (.invokevirtual 270, 3) := by decide +kernel
theorem dX10_kill_10 : decode cX10_kill 10 = .ok (.ifCond .ne 9, 3) := by decide +kernel
theorem dX10_kill_13 : decode cX10_kill 13 = .ok (.aload_n 0, 1) := by decide +kernel
theorem dX10_kill_14 : decode cX10_kill 14 = .ok (.iconst 1, 1) := by decide +kernel
theorem dX10_kill_15 : decode cX10_kill 15 = .ok (.invokevirtual 267, 3) := by decide +kernel
theorem dX10_kill_18 : decode cX10_kill 18 = .ok (.ireturn, 1) := by decide +kernel
theorem dX10_kill_19 : decode cX10_kill 19 = .ok (.aload_n 0, 1) := by decide +kernel
theorem dX10_kill_20 : decode cX10_kill 20 = .ok (.iload_n 1, 1) := by decide +kernel
theorem dX10_kill_21 : decode cX10_kill 21 = .ok (.invokevirtual 137, 3) := by decide +kernel
theorem dX10_kill_24 : decode cX10_kill 24 = .ok (.ifCond .ne 6, 3) := by decide +kernel
theorem dX10_kill_27 : decode cX10_kill 27 = .ok (.bipush (-2), 2) := by decide +kernel
theorem dX10_kill_29 : decode cX10_kill 29 = .ok (.ireturn, 1) := by decide +kernel
theorem dX10_kill_30 : decode cX10_kill 30 = .ok (.aload_n 0, 1) := by decide +kernel
theorem dX10_kill_31 : decode cX10_kill 31 = .ok (.invokevirtual 306, 3) := by decide +kernel
theorem dX10_kill_34 : decode cX10_kill 34 = .ok (.aload_n 0, 1) := by decide +kernel
theorem dX10_kill_35 : decode cX10_kill 35 = .ok (.iload_n 1, 1) := by decide +kernel
theorem dX10_kill_36 : decode cX10_kill 36 = .ok (.invokevirtual 175, 3) := by decide +kernel
theorem dX10_kill_39 : decode cX10_kill 39 = .ok (.aload_n 0, 1) := by decide +kernel
theorem dX10_kill_40 : decode cX10_kill 40 = .ok (.iload_n 1, 1) := by decide +kernel
theorem dX10_kill_41 : decode cX10_kill 41 = .ok (.invokevirtual 181, 3) := by decide +kernel
theorem dX10_kill_44 : decode cX10_kill 44 = .ok (.aload_n 0, 1) := by decide +kernel
theorem dX10_kill_45 : decode cX10_kill 45 = .ok (.invokevirtual 208, 3) := by decide +kernel
theorem dX10_kill_48 : decode cX10_kill 48 = .ok (.invokestatic 211, 3) := by decide +kernel
theorem dX10_kill_51 : decode cX10_kill 51 = .ok (.ireturn, 1) := by decide +kernel
def rm_X10_kill : Room := { frames := 7, cells := 0, slots := 0, locals := 157 }
def M_X10_kill_0 (k : Nat) (p0 : Int32) (S : Nat → Nat → Int32) : Option (Int32 × (Nat → Nat → Int32)) := lt (va_up S 0 (upd (S 0) 1 (0 : Int32))) fun F1 => (M_X10_isWorker k F1 p0).bind fun q2 => if q2 = 0 then ((M_X10_raise k F1 (1 : Int32)).bind fun q11 => some (q11.1, q11.2)) else ((M_X10_isUp k F1 p0).bind fun q4 => if q4 = 0 then (some ((-2 : Int32), F1)) else ((M_X10_record k F1).bind fun q6 => (M_X10_takeDown k q6 p0).bind fun q7 => (M_X10_routeAll k q7 p0).bind fun q8 => (M_X10_upWorkers k q8).bind fun q9 => (M_J6_bitCount_0f7a4 k q9).bind fun q10 => some (q10, q8)))
set_option maxRecDepth 100000 in
set_option maxHeartbeats 4000000 in
theorem N_X10_kill_0 (C : CX E p l s m args meth c cX10_kill 2 RX10 (some .int) A) (a : Nat → Nat) (k : Nat) {post : Int32 → va_W → Prop} :
    ∀ (p0 : Int32) (S : Nat → Nat → Int32) (q : Int32 × (Nat → Nat → Int32)), M_X10_kill_0 k p0 S = some q → post q.1 (wMd E a q.2) →
      WW E p l e rm_X10_kill s m args below meth c A 0 0 (QI E below post args s rm_X10_kill A) (wMd E a S) 2 [some (.ref (a 0)), some (.int p0)] 0 [] := by
  intro p0 S q  h hq
  unfold M_X10_kill_0 at h
  refine r_aload_n (pc := 0) C (i := 0) dX10_kill_0 rfl rfl ?_
  refine r_iconst (pc := 1) C (v := 0) dX10_kill_1 (by decide) ?_
  obtain ⟨F1, hF1, h⟩ := lt_e h
  refine r_put (pc := 2) C gwX10 tyX10 tyX10_ok nmX10 0 rfl rfl 6 (by decide) wm_5_209 rfl rfl rfl rfl (Nat.le_of_ble_eq_true rfl) (w' := (wMd E a F1)) (by rw [hF1]; rfl) dX10_kill_2 ?_
  refine r_aload_n (pc := 5) C (i := 0) dX10_kill_5 rfl rfl ?_
  refine r_iload_n (pc := 6) C (i := 1) dX10_kill_6 rfl rfl ?_
  obtain ⟨q2, hq2, h⟩ := bnd h
  refine r_callVp_CI (Cn := RX10) (pc := 7) C [.int p0] (c_X10_isWorker E l k a F1 p0 hq2) [0, 1, 2, 3, 4, 5, 6, 7, 8, 9, 10, 11, 12] rfl (by decide) 0 rfl rfl rfl g_X10_270 hd_X10_isWorker ⟨Nat.le_of_ble_eq_true rfl, Nat.le_of_ble_eq_true rfl⟩ ⟨Nat.zero_le _, Nat.zero_le _⟩ (Nat.le_of_ble_eq_true rfl) rfl dX10_kill_7 (fun r hr => ?_)
  have hr := hr.symm
  subst hr
  refine r_if_ne (pc := 10) C (tgt := 19) dX10_kill_10 rfl (fun c3 => ?_) (fun c3 => ?_)
  · rw [if_neg c3] at h
    refine r_aload_n (pc := 19) C (i := 0) dX10_kill_19 rfl rfl ?_
    refine r_iload_n (pc := 20) C (i := 1) dX10_kill_20 rfl rfl ?_
    obtain ⟨q4, hq4, h⟩ := bnd h
    refine r_callVp_CI (Cn := RX10) (pc := 21) C [.int p0] (c_X10_isUp E l k a F1 p0 hq4) [0, 1, 2, 3, 4, 5, 6, 7, 8, 9, 10, 11, 12] rfl (by decide) 0 rfl rfl rfl g_X10_137 hd_X10_isUp ⟨Nat.le_of_ble_eq_true rfl, Nat.le_of_ble_eq_true rfl⟩ ⟨Nat.zero_le _, Nat.zero_le _⟩ (Nat.le_of_ble_eq_true rfl) rfl dX10_kill_21 (fun r hr => ?_)
    have hr := hr.symm
    subst hr
    refine r_if_ne (pc := 24) C (tgt := 30) dX10_kill_24 rfl (fun c5 => ?_) (fun c5 => ?_)
    · rw [if_neg c5] at h
      refine r_aload_n (pc := 30) C (i := 0) dX10_kill_30 rfl rfl ?_
      obtain ⟨q6, hq6, h⟩ := bnd h
      refine r_callV_CV (Cn := RX10) (pc := 31) C [] (c_X10_record E l k a F1 hq6) [0, 1, 2, 3, 4, 5, 6, 7, 8, 9, 10, 11, 12] rfl (by decide) 0 rfl rfl rfl g_X10_306 hd_X10_record ⟨Nat.le_of_ble_eq_true rfl, Nat.le_of_ble_eq_true rfl⟩ ⟨Nat.zero_le _, Nat.zero_le _⟩ (Nat.le_of_ble_eq_true rfl) rfl dX10_kill_31 (fun w1 hw1 => ?_)
      subst hw1
      refine ⟨(wMd E a q6), by rfl, ?_⟩
      refine r_aload_n (pc := 34) C (i := 0) dX10_kill_34 rfl rfl ?_
      refine r_iload_n (pc := 35) C (i := 1) dX10_kill_35 rfl rfl ?_
      obtain ⟨q7, hq7, h⟩ := bnd h
      refine r_callV_CV (Cn := RX10) (pc := 36) C [.int p0] (c_X10_takeDown E l k a q6 p0 hq7) [0, 1, 2, 3, 4, 5, 6, 7, 8, 9, 10, 11, 12] rfl (by decide) 0 rfl rfl rfl g_X10_175 hd_X10_takeDown ⟨Nat.le_of_ble_eq_true rfl, Nat.le_of_ble_eq_true rfl⟩ ⟨Nat.zero_le _, Nat.zero_le _⟩ (Nat.le_of_ble_eq_true rfl) rfl dX10_kill_36 (fun w1 hw1 => ?_)
      subst hw1
      refine ⟨(wMd E a q7), by rfl, ?_⟩
      refine r_aload_n (pc := 39) C (i := 0) dX10_kill_39 rfl rfl ?_
      refine r_iload_n (pc := 40) C (i := 1) dX10_kill_40 rfl rfl ?_
      obtain ⟨q8, hq8, h⟩ := bnd h
      refine r_callV_CV (Cn := RX10) (pc := 41) C [.int p0] (c_X10_routeAll E l k a q7 p0 hq8) [0, 1, 2, 3, 4, 5, 6, 7, 8, 9, 10, 11, 12] rfl (by decide) 0 rfl rfl rfl g_X10_181 hd_X10_routeAll ⟨Nat.le_of_ble_eq_true rfl, Nat.le_of_ble_eq_true rfl⟩ ⟨Nat.zero_le _, Nat.zero_le _⟩ (Nat.le_of_ble_eq_true rfl) rfl dX10_kill_41 (fun w1 hw1 => ?_)
      subst hw1
      refine ⟨(wMd E a q8), by rfl, ?_⟩
      refine r_aload_n (pc := 44) C (i := 0) dX10_kill_44 rfl rfl ?_
      obtain ⟨q9, hq9, h⟩ := bnd h
      refine r_callVp_CI (Cn := RX10) (pc := 45) C [] (c_X10_upWorkers E l k a q8 hq9) [0, 1, 2, 3, 4, 5, 6, 7, 8, 9, 10, 11, 12] rfl (by decide) 0 rfl rfl rfl g_X10_208 hd_X10_upWorkers ⟨Nat.le_of_ble_eq_true rfl, Nat.le_of_ble_eq_true rfl⟩ ⟨Nat.zero_le _, Nat.zero_le _⟩ (Nat.le_of_ble_eq_true rfl) rfl dX10_kill_45 (fun r hr => ?_)
      have hr := hr.symm
      subst hr
      obtain ⟨q10, hq10, h⟩ := bnd h
      refine r_callSp_CI (pc := 48) C [.int q9] (c_J6_bitCount_0f7a4 E l k q9 hq10) [] rfl (by decide) g_X10_211 hd_J6_bitCount_0f7a4.2 ⟨Nat.le_of_ble_eq_true rfl, Nat.le_of_ble_eq_true rfl⟩ ⟨Nat.zero_le _, Nat.zero_le _⟩ (Nat.le_of_ble_eq_true rfl) rfl dX10_kill_48 (fun r hr => ?_)
      have hr := hr.symm
      subst hr
      cases h
      exact r_ireti (pc := 51) C hq (Nat.zero_le _) (Nat.zero_le _) dX10_kill_51
    · rw [if_pos c5] at h
      refine r_bipush (pc := 27) C (v := (-2)) dX10_kill_27 (by decide) ?_
      have h := Option.some.inj h
      subst h
      exact r_ireti (pc := 29) C hq (Nat.zero_le _) (Nat.zero_le _) dX10_kill_29
  · rw [if_pos c3] at h
    refine r_aload_n (pc := 13) C (i := 0) dX10_kill_13 rfl rfl ?_
    refine r_iconst (pc := 14) C (v := 1) dX10_kill_14 (by decide) ?_
    obtain ⟨q11, hq11, h⟩ := bnd h
    refine r_callV_CI (Cn := RX10) (pc := 15) C [.int (1 : Int32)] (c_X10_raise E l k a F1 (1 : Int32) hq11) [0, 1, 2, 3, 4, 5, 6, 7, 8, 9, 10, 11, 12] rfl (by decide) 0 rfl rfl rfl g_X10_267 hd_X10_raise ⟨Nat.le_of_ble_eq_true rfl, Nat.le_of_ble_eq_true rfl⟩ ⟨Nat.zero_le _, Nat.zero_le _⟩ (Nat.le_of_ble_eq_true rfl) rfl dX10_kill_15 (fun r w1 hw1 => ?_)
    obtain ⟨hr1, hw1⟩ := hw1
    subst hr1 hw1
    refine ⟨(wMd E a q11.2), by rfl, ?_⟩
    cases h
    exact r_ireti (pc := 18) C hq (Nat.zero_le _) (Nat.zero_le _) dX10_kill_18
def M_X10_kill (k : Nat) (S : Nat → Nat → Int32) (p0 : Int32) : Option (Int32 × (Nat → Nat → Int32)) := M_X10_kill_0 k p0 S
set_option maxRecDepth 100000 in
set_option maxHeartbeats 4000000 in
theorem c_X10_kill (E : ENV) (l : Launch) (k : Nat) (a : Nat → Nat) (S : Nat → Nat → Int32) (p0 : Int32) {q : Int32 × (Nat → Nat → Int32)} (hm : M_X10_kill k S p0 = some q) : CI E l yX10_kill cX10_kill 2 (some .int) rm_X10_kill [.ref (a 0), .int p0] (wMd E a S) (fun r w' => r = q.1 ∧ w' = (wMd E a q.2)) :=
  CI.of 0 (by decide) (Nat.le_of_ble_eq_true rfl) (fun p e s m below meth c A C _ => r_weak (lSub_s (lSub_s lSub_e)) (N_X10_kill_0 C a k p0 S q  hm ⟨rfl, rfl⟩))
-- ShardGuardModel.move(II)I
theorem dX10_move_0 : decode cX10_move 0 = .ok (.aload_n 0, 1) := by decide +kernel
theorem dX10_move_1 : decode cX10_move 1 = .ok (.aload_n 0, 1) := by decide +kernel
theorem dX10_move_2 : decode cX10_move 2 = .ok (.iload_n 1, 1) := by decide +kernel
theorem dX10_move_3 : decode cX10_move 3 = .ok (.invokevirtual 279, 3) := by decide +kernel
theorem dX10_move_6 : decode cX10_move 6 = .ok (.ifCond .ne 7, 3) := by decide +kernel
theorem dX10_move_9 : decode cX10_move 9 = .ok (.iconst 1, 1) := by decide +kernel
theorem dX10_move_10 : decode cX10_move 10 = .ok (.goto 21, 3) := by decide +kernel
theorem dX10_move_13 : decode cX10_move 13 = .ok (.iload_n 2, 1) := by decide +kernel
theorem dX10_move_14 : decode cX10_move 14 = .ok (.ifCond .lt 16, 3) := by decide +kernel
theorem dX10_move_17 : decode cX10_move 17 = .ok (.iload_n 2, 1) := by decide +kernel
theorem dX10_move_18 : decode cX10_move 18 = .ok (.aload_n 0, 1) := by decide +kernel
theorem dX10_move_19 : decode cX10_move 19 = .ok (.invokevirtual 106, 3) := by decide +kernel
theorem dX10_move_22 : decode cX10_move 22 = .ok (.ishr, 1) := by decide +kernel
theorem dX10_move_23 : decode cX10_move 23 = .ok (.ifCond .ne 7, 3) := by decide +kernel
theorem dX10_move_26 : decode cX10_move 26 = .ok (.iconst 0, 1) := by decide +kernel
theorem dX10_move_27 : decode cX10_move 27 = .ok (.goto 4, 3) := by decide +kernel
theorem dX10_move_30 : decode cX10_move 30 = .ok (.iconst 2, 1) := by decide +kernel
theorem dX10_move_31 : decode cX10_move 31 = .ok (.putfield 93, 3) := by decide +kernel
theorem dX10_move_34 : decode cX10_move 34 = .ok (.aload_n 0, 1) := by decide +kernel
theorem dX10_move_35 : decode cX10_move 35 = .ok (.getfield 93, 3) := by decide +kernel
theorem dX10_move_38 : decode cX10_move 38 = .ok (.ifCond .eq 5, 3) := by decide +kernel
theorem dX10_move_41 : decode cX10_move 41 = .ok (.iconst 0, 1) := by decide +kernel
theorem dX10_move_42 : decode cX10_move 42 = .ok (.ireturn, 1) := by decide +kernel
theorem dX10_move_43 : decode cX10_move 43 = .ok (.iload_n 2, 1) := by decide +kernel
theorem dX10_move_44 : decode cX10_move 44 = .ok (.invokestatic 211, 3) := by decide +kernel
theorem dX10_move_47 : decode cX10_move 47 = .ok (.aload_n 0, 1) := by decide +kernel
theorem dX10_move_48 : decode cX10_move 48 = .ok (.getfield 9, 3) := by decide +kernel
theorem dX10_move_51 : decode cX10_move 51 = .ok (.iconst 1, 1) := by decide +kernel
theorem dX10_move_52 : decode cX10_move 52 = .ok (.iaload, 1) := by decide +kernel
theorem dX10_move_53 : decode cX10_move 53 = .ok (.if_icmp .eq 6, 3) := by decide +kernel
theorem dX10_move_56 : decode cX10_move 56 = .ok (.bipush (-2), 2) := by decide +kernel
theorem dX10_move_58 : decode cX10_move 58 = .ok (.ireturn, 1) := by decide +kernel
theorem dX10_move_59 : decode cX10_move 59 = .ok (.aload_n 0, 1) := by decide +kernel
theorem dX10_move_60 : decode cX10_move 60 = .ok (.invokevirtual 306, 3) := by decide +kernel
theorem dX10_move_63 : decode cX10_move 63 = .ok (.aload_n 0, 1) := by decide +kernel
theorem dX10_move_64 : decode cX10_move 64 = .ok (.iload_n 1, 1) := by decide +kernel
theorem dX10_move_65 : decode cX10_move 65 = .ok (.iconst 0, 1) := by decide +kernel
theorem dX10_move_66 : decode cX10_move 66 = .ok (.invokevirtual 120, 3) := by decide +kernel
theorem dX10_move_69 : decode cX10_move 69 = .ok (.istore_n 3, 1) := by decide +kernel
theorem dX10_move_70 : decode cX10_move 70 = .ok (.aload_n 0, 1) := by decide +kernel
theorem dX10_move_71 : decode cX10_move 71 = .ok (.getfield 9, 3) := by decide +kernel
theorem dX10_move_74 : decode cX10_move 74 = .ok (.iload_n 1, 1) := by decide +kernel
theorem dX10_move_75 : decode cX10_move 75 = .ok (.iconst 0, 1) := by decide +kernel
theorem dX10_move_76 : decode cX10_move 76 = .ok (.invokestatic 100, 3) := by decide +kernel
theorem dX10_move_79 : decode cX10_move 79 = .ok (.iload_n 2, 1) := by decide +kernel
theorem dX10_move_80 : decode cX10_move 80 = .ok (.iastore, 1) := by decide +kernel
theorem dX10_move_81 : decode cX10_move 81 = .ok (.iload_n 3, 1) := by decide +kernel
theorem dX10_move_82 : decode cX10_move 82 = .ok (.ireturn, 1) := by decide +kernel
def rm_X10_move : Room := { frames := 2, cells := 0, slots := 0, locals := 45 }
def M_X10_move_31 (k : Nat) (x1 : Int32) (x2 : Int32) (y1 : Int32) (S : Nat → Nat → Int32) : Option (Int32 × (Nat → Nat → Int32)) := lt (va_up S 0 (upd (S 0) 1 y1)) fun F1 => if (F1 0 1) = 0 then ((M_J6_bitCount_0f7a4 k x2).bind fun q3 => (if inb (1 : Int32) 1692 = true then if q3 = ((F1 1) (1 : Int32).toNatClampNeg) then ((M_X10_record k F1).bind fun q6 => (M_X10_ofTenant k q6 x1 (0 : Int32)).bind fun q7 => (M_X10_tenantAt k x1 (0 : Int32)).bind fun q8 => (if inb q8 1692 = true then lt (va_up q6 1 (upd (q6 1) q8.toNatClampNeg x2)) fun F10 => some (q7, F10) else none)) else (some ((-2 : Int32), F1)) else none)) else (some ((0 : Int32), F1))
set_option maxRecDepth 100000 in
set_option maxHeartbeats 4000000 in
theorem N_X10_move_31 (C : CX E p l s m args meth c cX10_move 4 RX10 (some .int) A) (a : Nat → Nat) (k : Nat) {post : Int32 → va_W → Prop} :
    ∀ (x1 : Int32) (x2 : Int32) (y1 : Int32) (S : Nat → Nat → Int32) (q : Int32 × (Nat → Nat → Int32)), M_X10_move_31 k x1 x2 y1 S = some q → post q.1 (wMd E a q.2) →
      WW E p l e rm_X10_move s m args below meth c A 0 0 (QI E below post args s rm_X10_move A) (wMd E a S) 4 [some (.ref (a 0)), some (.int x1), some (.int x2), none] 31 [.int y1, .ref (a 0)] := by
  intro x1 x2 y1 S q  h hq
  unfold M_X10_move_31 at h
  obtain ⟨F1, hF1, h⟩ := lt_e h
  refine r_put (pc := 31) C gwX10 tyX10 tyX10_ok nmX10 0 rfl rfl 6 (by decide) wm_5_209 rfl rfl rfl rfl (Nat.le_of_ble_eq_true rfl) (w' := (wMd E a F1)) (by rw [hF1]; rfl) dX10_move_31 ?_
  refine r_aload_n (pc := 34) C (i := 0) dX10_move_34 rfl rfl ?_
  refine r_get (pc := 35) C gwX10 0 rfl rfl 6 (by decide) wm_5_209 rfl dX10_move_35 ?_
  refine r_if_eq (pc := 38) C (tgt := 43) dX10_move_38 rfl (fun c2 => ?_) (fun c2 => ?_)
  · rw [if_pos c2] at h
    refine r_iload_n (pc := 43) C (i := 2) dX10_move_43 rfl rfl ?_
    obtain ⟨q3, hq3, h⟩ := bnd h
    refine r_callSp_CI (pc := 44) C [.int x2] (c_J6_bitCount_0f7a4 E l k x2 hq3) [] rfl (by decide) g_X10_211 hd_J6_bitCount_0f7a4.2 ⟨Nat.le_of_ble_eq_true rfl, Nat.le_of_ble_eq_true rfl⟩ ⟨Nat.zero_le _, Nat.zero_le _⟩ (Nat.le_of_ble_eq_true rfl) rfl dX10_move_44 (fun r hr => ?_)
    have hr := hr.symm
    subst hr
    refine r_aload_n (pc := 47) C (i := 0) dX10_move_47 rfl rfl ?_
    refine r_get (pc := 48) C gwX10 0 rfl rfl 0 (by decide) wm_5_203 rfl dX10_move_48 ?_
    refine r_iconst (pc := 51) C (v := 1) dX10_move_51 (by decide) ?_
    obtain ⟨hi4, h⟩ := ifn h
    refine r_iald (pc := 52) C 1 rfl hi4 dX10_move_52 ?_
    refine r_icmp_eq (pc := 53) C (tgt := 59) dX10_move_53 rfl (fun c5 => ?_) (fun c5 => ?_)
    · rw [if_pos c5] at h
      refine r_aload_n (pc := 59) C (i := 0) dX10_move_59 rfl rfl ?_
      obtain ⟨q6, hq6, h⟩ := bnd h
      refine r_callV_CV (Cn := RX10) (pc := 60) C [] (c_X10_record E l k a F1 hq6) [0, 1, 2, 3, 4, 5, 6, 7, 8, 9, 10, 11, 12] rfl (by decide) 0 rfl rfl rfl g_X10_306 hd_X10_record ⟨Nat.le_of_ble_eq_true rfl, Nat.le_of_ble_eq_true rfl⟩ ⟨Nat.zero_le _, Nat.zero_le _⟩ (Nat.le_of_ble_eq_true rfl) rfl dX10_move_60 (fun w1 hw1 => ?_)
      subst hw1
      refine ⟨(wMd E a q6), by rfl, ?_⟩
      refine r_aload_n (pc := 63) C (i := 0) dX10_move_63 rfl rfl ?_
      refine r_iload_n (pc := 64) C (i := 1) dX10_move_64 rfl rfl ?_
      refine r_iconst (pc := 65) C (v := 0) dX10_move_65 (by decide) ?_
      obtain ⟨q7, hq7, h⟩ := bnd h
      refine r_callVp_CI (Cn := RX10) (pc := 66) C [.int x1, .int (0 : Int32)] (c_X10_ofTenant E l k a q6 x1 (0 : Int32) hq7) [0, 1, 2, 3, 4, 5, 6, 7, 8, 9, 10, 11, 12] rfl (by decide) 0 rfl rfl rfl g_X10_120 hd_X10_ofTenant ⟨Nat.le_of_ble_eq_true rfl, Nat.le_of_ble_eq_true rfl⟩ ⟨Nat.zero_le _, Nat.zero_le _⟩ (Nat.le_of_ble_eq_true rfl) rfl dX10_move_66 (fun r hr => ?_)
      have hr := hr.symm
      subst hr
      refine r_istore_n (pc := 69) C (i := 3) dX10_move_69 rfl (by decide) rfl ?_
      refine r_aload_n (pc := 70) C (i := 0) dX10_move_70 rfl rfl ?_
      refine r_get (pc := 71) C gwX10 0 rfl rfl 0 (by decide) wm_5_203 rfl dX10_move_71 ?_
      refine r_iload_n (pc := 74) C (i := 1) dX10_move_74 rfl rfl ?_
      refine r_iconst (pc := 75) C (v := 0) dX10_move_75 (by decide) ?_
      obtain ⟨q8, hq8, h⟩ := bnd h
      refine r_callSp_CI (pc := 76) C [.int x1, .int (0 : Int32)] (c_X10_tenantAt E l k x1 (0 : Int32) hq8) [] rfl (by decide) g_X10_100 hd_X10_tenantAt.2 ⟨Nat.le_of_ble_eq_true rfl, Nat.le_of_ble_eq_true rfl⟩ ⟨Nat.zero_le _, Nat.zero_le _⟩ (Nat.le_of_ble_eq_true rfl) rfl dX10_move_76 (fun r hr => ?_)
      have hr := hr.symm
      subst hr
      refine r_iload_n (pc := 79) C (i := 2) dX10_move_79 rfl rfl ?_
      obtain ⟨hi9, h⟩ := ifn h
      obtain ⟨F10, hF10, h⟩ := lt_e h
      refine r_iast (pc := 80) C 1 rfl hi9 (w' := (wMd E a F10)) (by rw [hF10]; rfl) dX10_move_80 ?_
      refine r_iload_n (pc := 81) C (i := 3) dX10_move_81 rfl rfl ?_
      cases h
      exact r_ireti (pc := 82) C hq (Nat.zero_le _) (Nat.zero_le _) dX10_move_82
    · rw [if_neg c5] at h
      refine r_bipush (pc := 56) C (v := (-2)) dX10_move_56 (by decide) ?_
      have h := Option.some.inj h
      subst h
      exact r_ireti (pc := 58) C hq (Nat.zero_le _) (Nat.zero_le _) dX10_move_58
  · rw [if_neg c2] at h
    refine r_iconst (pc := 41) C (v := 0) dX10_move_41 (by decide) ?_
    cases h
    exact r_ireti (pc := 42) C hq (Nat.zero_le _) (Nat.zero_le _) dX10_move_42
def M_X10_move_0 (k : Nat) (p0 : Int32) (p1 : Int32) (S : Nat → Nat → Int32) : Option (Int32 × (Nat → Nat → Int32)) := (M_X10_isTenant k S p0).bind fun q11 => if q11 = 0 then (M_X10_move_31 k p0 p1 (1 : Int32) S) else (if p1 < 0 then (M_X10_move_31 k p0 p1 (2 : Int32) S) else ((M_X10_workers k S).bind fun q14 => if (p1 >>> (q14 &&& 31)) = 0 then (M_X10_move_31 k p0 p1 (0 : Int32) S) else (M_X10_move_31 k p0 p1 (2 : Int32) S)))
set_option maxRecDepth 100000 in
set_option maxHeartbeats 4000000 in
theorem N_X10_move_0 (C : CX E p l s m args meth c cX10_move 4 RX10 (some .int) A) (a : Nat → Nat) (k : Nat) {post : Int32 → va_W → Prop} :
    ∀ (p0 : Int32) (p1 : Int32) (S : Nat → Nat → Int32) (q : Int32 × (Nat → Nat → Int32)), M_X10_move_0 k p0 p1 S = some q → post q.1 (wMd E a q.2) →
      WW E p l e rm_X10_move s m args below meth c A 0 0 (QI E below post args s rm_X10_move A) (wMd E a S) 4 [some (.ref (a 0)), some (.int p0), some (.int p1), none] 0 [] := by
  intro p0 p1 S q  h hq
  unfold M_X10_move_0 at h
  refine r_aload_n (pc := 0) C (i := 0) dX10_move_0 rfl rfl ?_
  refine r_aload_n (pc := 1) C (i := 0) dX10_move_1 rfl rfl ?_
  refine r_iload_n (pc := 2) C (i := 1) dX10_move_2 rfl rfl ?_
  obtain ⟨q11, hq11, h⟩ := bnd h
  refine r_callVp_CI (Cn := RX10) (pc := 3) C [.int p0] (c_X10_isTenant E l k a S p0 hq11) [0, 1, 2, 3, 4, 5, 6, 7, 8, 9, 10, 11, 12] rfl (by decide) 0 rfl rfl rfl g_X10_279 hd_X10_isTenant ⟨Nat.le_of_ble_eq_true rfl, Nat.le_of_ble_eq_true rfl⟩ ⟨Nat.zero_le _, Nat.zero_le _⟩ (Nat.le_of_ble_eq_true rfl) rfl dX10_move_3 (fun r hr => ?_)
  have hr := hr.symm
  subst hr
  refine r_if_ne (pc := 6) C (tgt := 13) dX10_move_6 rfl (fun c12 => ?_) (fun c12 => ?_)
  · rw [if_neg c12] at h
    refine r_iload_n (pc := 13) C (i := 2) dX10_move_13 rfl rfl ?_
    refine r_if_lt (pc := 14) C (tgt := 30) dX10_move_14 rfl (fun c13 => ?_) (fun c13 => ?_)
    · rw [if_pos c13] at h
      refine r_iconst (pc := 30) C (v := 2) dX10_move_30 (by decide) ?_
      refine r_weak (lSub_s (lSub_s (lSub_s (lSub_n lSub_e)))) ?_
      exact N_X10_move_31 C a k p0 p1 (2 : Int32) S q  h hq
    · rw [if_neg c13] at h
      refine r_iload_n (pc := 17) C (i := 2) dX10_move_17 rfl rfl ?_
      refine r_aload_n (pc := 18) C (i := 0) dX10_move_18 rfl rfl ?_
      obtain ⟨q14, hq14, h⟩ := bnd h
      refine r_callVp_CI (Cn := RX10) (pc := 19) C [] (c_X10_workers E l k a S hq14) [0, 1, 2, 3, 4, 5, 6, 7, 8, 9, 10, 11, 12] rfl (by decide) 0 rfl rfl rfl g_X10_106 hd_X10_workers ⟨Nat.le_of_ble_eq_true rfl, Nat.le_of_ble_eq_true rfl⟩ ⟨Nat.zero_le _, Nat.zero_le _⟩ (Nat.le_of_ble_eq_true rfl) rfl dX10_move_19 (fun r hr => ?_)
      have hr := hr.symm
      subst hr
      refine r_ishr (pc := 22) C dX10_move_22 ?_
      refine r_if_ne (pc := 23) C (tgt := 30) dX10_move_23 rfl (fun c15 => ?_) (fun c15 => ?_)
      · rw [if_neg c15] at h
        refine r_iconst (pc := 30) C (v := 2) dX10_move_30 (by decide) ?_
        refine r_weak (lSub_s (lSub_s (lSub_s (lSub_n lSub_e)))) ?_
        exact N_X10_move_31 C a k p0 p1 (2 : Int32) S q  h hq
      · rw [if_pos c15] at h
        refine r_iconst (pc := 26) C (v := 0) dX10_move_26 (by decide) ?_
        refine r_goto (pc := 27) C (tgt := 31) dX10_move_27 rfl ?_
        refine r_weak (lSub_s (lSub_s (lSub_s (lSub_n lSub_e)))) ?_
        exact N_X10_move_31 C a k p0 p1 (0 : Int32) S q  h hq
  · rw [if_pos c12] at h
    refine r_iconst (pc := 9) C (v := 1) dX10_move_9 (by decide) ?_
    refine r_goto (pc := 10) C (tgt := 31) dX10_move_10 rfl ?_
    refine r_weak (lSub_s (lSub_s (lSub_s (lSub_n lSub_e)))) ?_
    exact N_X10_move_31 C a k p0 p1 (1 : Int32) S q  h hq
def M_X10_move (k : Nat) (S : Nat → Nat → Int32) (p0 : Int32) (p1 : Int32) : Option (Int32 × (Nat → Nat → Int32)) := M_X10_move_0 k p0 p1 S
set_option maxRecDepth 100000 in
set_option maxHeartbeats 4000000 in
theorem c_X10_move (E : ENV) (l : Launch) (k : Nat) (a : Nat → Nat) (S : Nat → Nat → Int32) (p0 : Int32) (p1 : Int32) {q : Int32 × (Nat → Nat → Int32)} (hm : M_X10_move k S p0 p1 = some q) : CI E l yX10_move cX10_move 4 (some .int) rm_X10_move [.ref (a 0), .int p0, .int p1] (wMd E a S) (fun r w' => r = q.1 ∧ w' = (wMd E a q.2)) :=
  CI.of 1 (by decide) (Nat.le_of_ble_eq_true rfl) (fun p e s m below meth c A C _ => r_weak (lSub_s (lSub_s (lSub_s (lSub_n lSub_e)))) (N_X10_move_0 C a k p0 p1 S q  hm ⟨rfl, rfl⟩))
-- ShardGuardModel.draw(I)I
theorem dX10_draw_0 : decode cX10_draw 0 = .ok (.aload_n 0, 1) := by decide +kernel
theorem dX10_draw_1 : decode cX10_draw 1 = .ok (.iconst 0, 1) := by decide +kernel
theorem dX10_draw_2 : decode cX10_draw 2 = .ok (.putfield 93, 3) := by decide +kernel
theorem dX10_draw_5 : decode cX10_draw 5 = .ok (.iload_n 1, 1) := by decide +kernel
theorem dX10_draw_6 : decode cX10_draw 6 = .ok (.ifCond .ge 9, 3) := by decide +kernel
theorem dX10_draw_9 : decode cX10_draw 9 = .ok (.aload_n 0, 1) := by decide +kernel
theorem dX10_draw_10 : decode cX10_draw 10 = .ok (.iconst 1, 1) := by decide +kernel
theorem dX10_draw_11 : decode cX10_draw 11 = .ok (.invokevirtual 267, 3) := by decide +kernel
theorem dX10_draw_14 : decode cX10_draw 14 = .ok (.ireturn, 1) := by decide +kernel
theorem dX10_draw_15 : decode cX10_draw 15 = .ok (.aload_n 0, 1) := by decide +kernel
theorem dX10_draw_16 : decode cX10_draw 16 = .ok (.invokevirtual 306, 3) := by decide +kernel
theorem dX10_draw_19 : decode cX10_draw 19 = .ok (.aload_n 0, 1) := by decide +kernel
theorem dX10_draw_20 : decode cX10_draw 20 = .ok (.iload_n 1, 1) := by decide +kernel
theorem dX10_draw_21 : decode cX10_draw 21 = .ok (.invokevirtual 297, 3) := by decide +kernel
theorem dX10_draw_24 : decode cX10_draw 24 = .ok (.aload_n 0, 1) := by decide +kernel
theorem dX10_draw_25 : decode cX10_draw 25 = .ok (.invokevirtual 291, 3) := by decide +kernel
theorem dX10_draw_28 : decode cX10_draw 28 = .ok (.ireturn, 1) := by decide +kernel
def rm_X10_draw : Room := { frames := 4, cells := 0, slots := 0, locals := 88 }
def M_X10_draw_0 (k : Nat) (p0 : Int32) (S : Nat → Nat → Int32) : Option (Int32 × (Nat → Nat → Int32)) := lt (va_up S 0 (upd (S 0) 1 (0 : Int32))) fun F1 => if 0 ≤ p0 then ((M_X10_record k F1).bind fun q3 => (M_X10_drawAll k q3 p0).bind fun q4 => (M_X10_greatestNow k q4).bind fun q5 => some (q5, q4)) else ((M_X10_raise k F1 (1 : Int32)).bind fun q6 => some (q6.1, q6.2))
set_option maxRecDepth 100000 in
set_option maxHeartbeats 4000000 in
theorem N_X10_draw_0 (C : CX E p l s m args meth c cX10_draw 2 RX10 (some .int) A) (a : Nat → Nat) (k : Nat) {post : Int32 → va_W → Prop} :
    ∀ (p0 : Int32) (S : Nat → Nat → Int32) (q : Int32 × (Nat → Nat → Int32)), M_X10_draw_0 k p0 S = some q → post q.1 (wMd E a q.2) →
      WW E p l e rm_X10_draw s m args below meth c A 0 0 (QI E below post args s rm_X10_draw A) (wMd E a S) 2 [some (.ref (a 0)), some (.int p0)] 0 [] := by
  intro p0 S q  h hq
  unfold M_X10_draw_0 at h
  refine r_aload_n (pc := 0) C (i := 0) dX10_draw_0 rfl rfl ?_
  refine r_iconst (pc := 1) C (v := 0) dX10_draw_1 (by decide) ?_
  obtain ⟨F1, hF1, h⟩ := lt_e h
  refine r_put (pc := 2) C gwX10 tyX10 tyX10_ok nmX10 0 rfl rfl 6 (by decide) wm_5_209 rfl rfl rfl rfl (Nat.le_of_ble_eq_true rfl) (w' := (wMd E a F1)) (by rw [hF1]; rfl) dX10_draw_2 ?_
  refine r_iload_n (pc := 5) C (i := 1) dX10_draw_5 rfl rfl ?_
  refine r_if_ge (pc := 6) C (tgt := 15) dX10_draw_6 rfl (fun c2 => ?_) (fun c2 => ?_)
  · rw [if_pos c2] at h
    refine r_aload_n (pc := 15) C (i := 0) dX10_draw_15 rfl rfl ?_
    obtain ⟨q3, hq3, h⟩ := bnd h
    refine r_callV_CV (Cn := RX10) (pc := 16) C [] (c_X10_record E l k a F1 hq3) [0, 1, 2, 3, 4, 5, 6, 7, 8, 9, 10, 11, 12] rfl (by decide) 0 rfl rfl rfl g_X10_306 hd_X10_record ⟨Nat.le_of_ble_eq_true rfl, Nat.le_of_ble_eq_true rfl⟩ ⟨Nat.zero_le _, Nat.zero_le _⟩ (Nat.le_of_ble_eq_true rfl) rfl dX10_draw_16 (fun w1 hw1 => ?_)
    subst hw1
    refine ⟨(wMd E a q3), by rfl, ?_⟩
    refine r_aload_n (pc := 19) C (i := 0) dX10_draw_19 rfl rfl ?_
    refine r_iload_n (pc := 20) C (i := 1) dX10_draw_20 rfl rfl ?_
    obtain ⟨q4, hq4, h⟩ := bnd h
    refine r_callV_CV (Cn := RX10) (pc := 21) C [.int p0] (c_X10_drawAll E l k a q3 p0 hq4) [0, 1, 2, 3, 4, 5, 6, 7, 8, 9, 10, 11, 12] rfl (by decide) 0 rfl rfl rfl g_X10_297 hd_X10_drawAll ⟨Nat.le_of_ble_eq_true rfl, Nat.le_of_ble_eq_true rfl⟩ ⟨Nat.zero_le _, Nat.zero_le _⟩ (Nat.le_of_ble_eq_true rfl) rfl dX10_draw_21 (fun w1 hw1 => ?_)
    subst hw1
    refine ⟨(wMd E a q4), by rfl, ?_⟩
    refine r_aload_n (pc := 24) C (i := 0) dX10_draw_24 rfl rfl ?_
    obtain ⟨q5, hq5, h⟩ := bnd h
    refine r_callVp_CI (Cn := RX10) (pc := 25) C [] (c_X10_greatestNow E l k a q4 hq5) [0, 1, 2, 3, 4, 5, 6, 7, 8, 9, 10, 11, 12] rfl (by decide) 0 rfl rfl rfl g_X10_291 hd_X10_greatestNow ⟨Nat.le_of_ble_eq_true rfl, Nat.le_of_ble_eq_true rfl⟩ ⟨Nat.zero_le _, Nat.zero_le _⟩ (Nat.le_of_ble_eq_true rfl) rfl dX10_draw_25 (fun r hr => ?_)
    have hr := hr.symm
    subst hr
    cases h
    exact r_ireti (pc := 28) C hq (Nat.zero_le _) (Nat.zero_le _) dX10_draw_28
  · rw [if_neg c2] at h
    refine r_aload_n (pc := 9) C (i := 0) dX10_draw_9 rfl rfl ?_
    refine r_iconst (pc := 10) C (v := 1) dX10_draw_10 (by decide) ?_
    obtain ⟨q6, hq6, h⟩ := bnd h
    refine r_callV_CI (Cn := RX10) (pc := 11) C [.int (1 : Int32)] (c_X10_raise E l k a F1 (1 : Int32) hq6) [0, 1, 2, 3, 4, 5, 6, 7, 8, 9, 10, 11, 12] rfl (by decide) 0 rfl rfl rfl g_X10_267 hd_X10_raise ⟨Nat.le_of_ble_eq_true rfl, Nat.le_of_ble_eq_true rfl⟩ ⟨Nat.zero_le _, Nat.zero_le _⟩ (Nat.le_of_ble_eq_true rfl) rfl dX10_draw_11 (fun r w1 hw1 => ?_)
    obtain ⟨hr1, hw1⟩ := hw1
    subst hr1 hw1
    refine ⟨(wMd E a q6.2), by rfl, ?_⟩
    cases h
    exact r_ireti (pc := 14) C hq (Nat.zero_le _) (Nat.zero_le _) dX10_draw_14
def M_X10_draw (k : Nat) (S : Nat → Nat → Int32) (p0 : Int32) : Option (Int32 × (Nat → Nat → Int32)) := M_X10_draw_0 k p0 S
set_option maxRecDepth 100000 in
set_option maxHeartbeats 4000000 in
theorem c_X10_draw (E : ENV) (l : Launch) (k : Nat) (a : Nat → Nat) (S : Nat → Nat → Int32) (p0 : Int32) {q : Int32 × (Nat → Nat → Int32)} (hm : M_X10_draw k S p0 = some q) : CI E l yX10_draw cX10_draw 2 (some .int) rm_X10_draw [.ref (a 0), .int p0] (wMd E a S) (fun r w' => r = q.1 ∧ w' = (wMd E a q.2)) :=
  CI.of 0 (by decide) (Nat.le_of_ble_eq_true rfl) (fun p e s m below meth c A C _ => r_weak (lSub_s (lSub_s lSub_e)) (N_X10_draw_0 C a k p0 S q  hm ⟨rfl, rfl⟩))
-- ShardGuardModel.release(I)I
theorem dX10_release_0 : decode cX10_release 0 = .ok (.aload_n 0, 1) := by decide +kernel
theorem dX10_release_1 : decode cX10_release 1 = .ok (.iconst 0, 1) := by decide +kernel
theorem dX10_release_2 : decode cX10_release 2 = .ok (.putfield 93, 3) := by decide +kernel
theorem dX10_release_5 : decode cX10_release 5 = .ok (.aload_n 0, 1) := by decide +kernel
theorem dX10_release_6 : decode cX10_release 6 = .ok (.iload_n 1, 1) := by decide +kernel
theorem dX10_release_7 : decode cX10_release 7 = .ok (.invokevirtual 279, 3) := by decide +kernel
theorem dX10_release_10 : decode cX10_release 10 = .ok (.ifCond .ne 9, 3) := by decide +kernel
theorem dX10_release_13 : decode cX10_release 13 = .ok (.aload_n 0, 1) := by decide +kernel
theorem dX10_release_14 : decode cX10_release 14 = .ok (.iconst 1, 1) := by decide +kernel
theorem dX10_release_15 : decode cX10_release 15 = .ok (.invokevirtual 267, 3) := by decide +kernel
theorem dX10_release_18 : decode cX10_release 18 = .ok (.ireturn, 1) := by decide +kernel
theorem dX10_release_19 : decode cX10_release 19 = .ok (.aload_n 0, 1) := by decide +kernel
theorem dX10_release_20 : decode cX10_release 20 = .ok (.iload_n 1, 1) := by decide +kernel
theorem dX10_release_21 : decode cX10_release 21 = .ok (.invokevirtual 199, 3) := by decide +kernel
theorem dX10_release_24 : decode cX10_release 24 = .ok (.ifCond .eq 6, 3) := by decide +kernel
theorem dX10_release_27 : decode cX10_release 27 = .ok (.bipush (-2), 2) := by decide +kernel
theorem dX10_release_29 : decode cX10_release 29 = .ok (.ireturn, 1) := by decide +kernel
theorem dX10_release_30 : decode cX10_release 30 = .ok (.aload_n 0, 1) := by decide +kernel
theorem dX10_release_31 : decode cX10_release 31 = .ok (.invokevirtual 306, 3) := by decide +kernel
theorem dX10_release_34 : decode cX10_release 34 = .ok (.aload_n 0, 1) := by decide +kernel
theorem dX10_release_35 : decode cX10_release 35 = .ok (.iload_n 1, 1) := by decide +kernel
theorem dX10_release_36 : decode cX10_release 36 = .ok (.iconst 1, 1) := by decide +kernel
theorem dX10_release_37 : decode cX10_release 37 = .ok (.invokevirtual 120, 3) := by decide +kernel
theorem dX10_release_40 : decode cX10_release 40 = .ok (.aload_n 0, 1) := by decide +kernel
theorem dX10_release_41 : decode cX10_release 41 = .ok (.getfield 9, 3) := by decide +kernel
theorem dX10_release_44 : decode cX10_release 44 = .ok (.iconst 4, 1) := by decide +kernel
theorem dX10_release_45 : decode cX10_release 45 = .ok (.iaload, 1) := by decide +kernel
theorem dX10_release_46 : decode cX10_release 46 = .ok (.isub, 1) := by decide +kernel
theorem dX10_release_47 : decode cX10_release 47 = .ok (.istore_n 2, 1) := by decide +kernel
theorem dX10_release_48 : decode cX10_release 48 = .ok (.aload_n 0, 1) := by decide +kernel
theorem dX10_release_49 : decode cX10_release 49 = .ok (.getfield 9, 3) := by decide +kernel
theorem dX10_release_52 : decode cX10_release 52 = .ok (.iload_n 1, 1) := by decide +kernel
theorem dX10_release_53 : decode cX10_release 53 = .ok (.iconst 1, 1) := by decide +kernel
theorem dX10_release_54 : decode cX10_release 54 = .ok (.invokestatic 100, 3) := by decide +kernel
theorem dX10_release_57 : decode cX10_release 57 = .ok (.iconst (-1), 1) := by decide +kernel
theorem dX10_release_58 : decode cX10_release 58 = .ok (.iastore, 1) := by decide +kernel
theorem dX10_release_59 : decode cX10_release 59 = .ok (.iload_n 2, 1) := by decide +kernel
theorem dX10_release_60 : decode cX10_release 60 = .ok (.ireturn, 1) := by decide +kernel
def rm_X10_release : Room := { frames := 3, cells := 0, slots := 0, locals := 64 }
def M_X10_release_0 (k : Nat) (p0 : Int32) (S : Nat → Nat → Int32) : Option (Int32 × (Nat → Nat → Int32)) := lt (va_up S 0 (upd (S 0) 1 (0 : Int32))) fun F1 => (M_X10_isTenant k F1 p0).bind fun q2 => if q2 = 0 then ((M_X10_raise k F1 (1 : Int32)).bind fun q13 => some (q13.1, q13.2)) else ((M_X10_isOpen k F1 p0).bind fun q4 => if q4 = 0 then ((M_X10_record k F1).bind fun q6 => (M_X10_ofTenant k q6 p0 (1 : Int32)).bind fun q7 => (if inb (4 : Int32) 1692 = true then lt (q7 - ((q6 1) (4 : Int32).toNatClampNeg)) fun v9 => (M_X10_tenantAt k p0 (1 : Int32)).bind fun q10 => (if inb q10 1692 = true then lt (va_up q6 1 (upd (q6 1) q10.toNatClampNeg (-1 : Int32))) fun F12 => some (v9, F12) else none) else none)) else (some ((-2 : Int32), F1)))
set_option maxRecDepth 100000 in
set_option maxHeartbeats 4000000 in
theorem N_X10_release_0 (C : CX E p l s m args meth c cX10_release 3 RX10 (some .int) A) (a : Nat → Nat) (k : Nat) {post : Int32 → va_W → Prop} :
    ∀ (p0 : Int32) (S : Nat → Nat → Int32) (q : Int32 × (Nat → Nat → Int32)), M_X10_release_0 k p0 S = some q → post q.1 (wMd E a q.2) →
      WW E p l e rm_X10_release s m args below meth c A 0 0 (QI E below post args s rm_X10_release A) (wMd E a S) 3 [some (.ref (a 0)), some (.int p0), none] 0 [] := by
  intro p0 S q  h hq
  unfold M_X10_release_0 at h
  refine r_aload_n (pc := 0) C (i := 0) dX10_release_0 rfl rfl ?_
  refine r_iconst (pc := 1) C (v := 0) dX10_release_1 (by decide) ?_
  obtain ⟨F1, hF1, h⟩ := lt_e h
  refine r_put (pc := 2) C gwX10 tyX10 tyX10_ok nmX10 0 rfl rfl 6 (by decide) wm_5_209 rfl rfl rfl rfl (Nat.le_of_ble_eq_true rfl) (w' := (wMd E a F1)) (by rw [hF1]; rfl) dX10_release_2 ?_
  refine r_aload_n (pc := 5) C (i := 0) dX10_release_5 rfl rfl ?_
  refine r_iload_n (pc := 6) C (i := 1) dX10_release_6 rfl rfl ?_
  obtain ⟨q2, hq2, h⟩ := bnd h
  refine r_callVp_CI (Cn := RX10) (pc := 7) C [.int p0] (c_X10_isTenant E l k a F1 p0 hq2) [0, 1, 2, 3, 4, 5, 6, 7, 8, 9, 10, 11, 12] rfl (by decide) 0 rfl rfl rfl g_X10_279 hd_X10_isTenant ⟨Nat.le_of_ble_eq_true rfl, Nat.le_of_ble_eq_true rfl⟩ ⟨Nat.zero_le _, Nat.zero_le _⟩ (Nat.le_of_ble_eq_true rfl) rfl dX10_release_7 (fun r hr => ?_)
  have hr := hr.symm
  subst hr
  refine r_if_ne (pc := 10) C (tgt := 19) dX10_release_10 rfl (fun c3 => ?_) (fun c3 => ?_)
  · rw [if_neg c3] at h
    refine r_aload_n (pc := 19) C (i := 0) dX10_release_19 rfl rfl ?_
    refine r_iload_n (pc := 20) C (i := 1) dX10_release_20 rfl rfl ?_
    obtain ⟨q4, hq4, h⟩ := bnd h
    refine r_callVp_CI (Cn := RX10) (pc := 21) C [.int p0] (c_X10_isOpen E l k a F1 p0 hq4) [0, 1, 2, 3, 4, 5, 6, 7, 8, 9, 10, 11, 12] rfl (by decide) 0 rfl rfl rfl g_X10_199 hd_X10_isOpen ⟨Nat.le_of_ble_eq_true rfl, Nat.le_of_ble_eq_true rfl⟩ ⟨Nat.zero_le _, Nat.zero_le _⟩ (Nat.le_of_ble_eq_true rfl) rfl dX10_release_21 (fun r hr => ?_)
    have hr := hr.symm
    subst hr
    refine r_if_eq (pc := 24) C (tgt := 30) dX10_release_24 rfl (fun c5 => ?_) (fun c5 => ?_)
    · rw [if_pos c5] at h
      refine r_aload_n (pc := 30) C (i := 0) dX10_release_30 rfl rfl ?_
      obtain ⟨q6, hq6, h⟩ := bnd h
      refine r_callV_CV (Cn := RX10) (pc := 31) C [] (c_X10_record E l k a F1 hq6) [0, 1, 2, 3, 4, 5, 6, 7, 8, 9, 10, 11, 12] rfl (by decide) 0 rfl rfl rfl g_X10_306 hd_X10_record ⟨Nat.le_of_ble_eq_true rfl, Nat.le_of_ble_eq_true rfl⟩ ⟨Nat.zero_le _, Nat.zero_le _⟩ (Nat.le_of_ble_eq_true rfl) rfl dX10_release_31 (fun w1 hw1 => ?_)
      subst hw1
      refine ⟨(wMd E a q6), by rfl, ?_⟩
      refine r_aload_n (pc := 34) C (i := 0) dX10_release_34 rfl rfl ?_
      refine r_iload_n (pc := 35) C (i := 1) dX10_release_35 rfl rfl ?_
      refine r_iconst (pc := 36) C (v := 1) dX10_release_36 (by decide) ?_
      obtain ⟨q7, hq7, h⟩ := bnd h
      refine r_callVp_CI (Cn := RX10) (pc := 37) C [.int p0, .int (1 : Int32)] (c_X10_ofTenant E l k a q6 p0 (1 : Int32) hq7) [0, 1, 2, 3, 4, 5, 6, 7, 8, 9, 10, 11, 12] rfl (by decide) 0 rfl rfl rfl g_X10_120 hd_X10_ofTenant ⟨Nat.le_of_ble_eq_true rfl, Nat.le_of_ble_eq_true rfl⟩ ⟨Nat.zero_le _, Nat.zero_le _⟩ (Nat.le_of_ble_eq_true rfl) rfl dX10_release_37 (fun r hr => ?_)
      have hr := hr.symm
      subst hr
      refine r_aload_n (pc := 40) C (i := 0) dX10_release_40 rfl rfl ?_
      refine r_get (pc := 41) C gwX10 0 rfl rfl 0 (by decide) wm_5_203 rfl dX10_release_41 ?_
      refine r_iconst (pc := 44) C (v := 4) dX10_release_44 (by decide) ?_
      obtain ⟨hi8, h⟩ := ifn h
      refine r_iald (pc := 45) C 1 rfl hi8 dX10_release_45 ?_
      refine r_isub (pc := 46) C dX10_release_46 ?_
      obtain ⟨v9, hv9, h⟩ := lt_e h
      refine r_topi hv9 ?_
      refine r_istore_n (pc := 47) C (i := 2) dX10_release_47 rfl (by decide) rfl ?_
      refine r_aload_n (pc := 48) C (i := 0) dX10_release_48 rfl rfl ?_
      refine r_get (pc := 49) C gwX10 0 rfl rfl 0 (by decide) wm_5_203 rfl dX10_release_49 ?_
      refine r_iload_n (pc := 52) C (i := 1) dX10_release_52 rfl rfl ?_
      refine r_iconst (pc := 53) C (v := 1) dX10_release_53 (by decide) ?_
      obtain ⟨q10, hq10, h⟩ := bnd h
      refine r_callSp_CI (pc := 54) C [.int p0, .int (1 : Int32)] (c_X10_tenantAt E l k p0 (1 : Int32) hq10) [] rfl (by decide) g_X10_100 hd_X10_tenantAt.2 ⟨Nat.le_of_ble_eq_true rfl, Nat.le_of_ble_eq_true rfl⟩ ⟨Nat.zero_le _, Nat.zero_le _⟩ (Nat.le_of_ble_eq_true rfl) rfl dX10_release_54 (fun r hr => ?_)
      have hr := hr.symm
      subst hr
      refine r_iconst (pc := 57) C (v := (-1)) dX10_release_57 (by decide) ?_
      obtain ⟨hi11, h⟩ := ifn h
      obtain ⟨F12, hF12, h⟩ := lt_e h
      refine r_iast (pc := 58) C 1 rfl hi11 (w' := (wMd E a F12)) (by rw [hF12]; rfl) dX10_release_58 ?_
      refine r_iload_n (pc := 59) C (i := 2) dX10_release_59 rfl rfl ?_
      cases h
      exact r_ireti (pc := 60) C hq (Nat.zero_le _) (Nat.zero_le _) dX10_release_60
    · rw [if_neg c5] at h
      refine r_bipush (pc := 27) C (v := (-2)) dX10_release_27 (by decide) ?_
      have h := Option.some.inj h
      subst h
      exact r_ireti (pc := 29) C hq (Nat.zero_le _) (Nat.zero_le _) dX10_release_29
  · rw [if_pos c3] at h
    refine r_aload_n (pc := 13) C (i := 0) dX10_release_13 rfl rfl ?_
    refine r_iconst (pc := 14) C (v := 1) dX10_release_14 (by decide) ?_
    obtain ⟨q13, hq13, h⟩ := bnd h
    refine r_callV_CI (Cn := RX10) (pc := 15) C [.int (1 : Int32)] (c_X10_raise E l k a F1 (1 : Int32) hq13) [0, 1, 2, 3, 4, 5, 6, 7, 8, 9, 10, 11, 12] rfl (by decide) 0 rfl rfl rfl g_X10_267 hd_X10_raise ⟨Nat.le_of_ble_eq_true rfl, Nat.le_of_ble_eq_true rfl⟩ ⟨Nat.zero_le _, Nat.zero_le _⟩ (Nat.le_of_ble_eq_true rfl) rfl dX10_release_15 (fun r w1 hw1 => ?_)
    obtain ⟨hr1, hw1⟩ := hw1
    subst hr1 hw1
    refine ⟨(wMd E a q13.2), by rfl, ?_⟩
    cases h
    exact r_ireti (pc := 18) C hq (Nat.zero_le _) (Nat.zero_le _) dX10_release_18
def M_X10_release (k : Nat) (S : Nat → Nat → Int32) (p0 : Int32) : Option (Int32 × (Nat → Nat → Int32)) := M_X10_release_0 k p0 S
set_option maxRecDepth 100000 in
set_option maxHeartbeats 4000000 in
theorem c_X10_release (E : ENV) (l : Launch) (k : Nat) (a : Nat → Nat) (S : Nat → Nat → Int32) (p0 : Int32) {q : Int32 × (Nat → Nat → Int32)} (hm : M_X10_release k S p0 = some q) : CI E l yX10_release cX10_release 3 (some .int) rm_X10_release [.ref (a 0), .int p0] (wMd E a S) (fun r w' => r = q.1 ∧ w' = (wMd E a q.2)) :=
  CI.of 1 (by decide) (Nat.le_of_ble_eq_true rfl) (fun p e s m below meth c A C _ => r_weak (lSub_s (lSub_s (lSub_n lSub_e))) (N_X10_release_0 C a k p0 S q  hm ⟨rfl, rfl⟩))
-- ShardGuardModel.set(II)I
theorem dX10_set_0 : decode cX10_set 0 = .ok (.aload_n 0, 1) := by decide +kernel
theorem dX10_set_1 : decode cX10_set 1 = .ok (.iload_n 1, 1) := by decide +kernel
theorem dX10_set_2 : decode cX10_set 2 = .ok (.iconst 0, 1) := by decide +kernel
theorem dX10_set_3 : decode cX10_set 3 = .ok (.iconst 4, 1) := by decide +kernel
theorem dX10_set_4 : decode cX10_set 4 = .ok (.invokestatic 110, 3) := by decide +kernel
theorem dX10_set_7 : decode cX10_set 7 = .ok (.ifCond .ne 7, 3) := by decide +kernel
theorem dX10_set_10 : decode cX10_set 10 = .ok (.iconst 1, 1) := by decide +kernel
theorem dX10_set_11 : decode cX10_set 11 = .ok (.goto 23, 3) := by decide +kernel
theorem dX10_set_14 : decode cX10_set 14 = .ok (.iload_n 2, 1) := by decide +kernel
theorem dX10_set_15 : decode cX10_set 15 = .ok (.iload_n 1, 1) := by decide +kernel
theorem dX10_set_16 : decode cX10_set 16 = .ok (.invokestatic 309, 3) := by decide +kernel
theorem dX10_set_19 : decode cX10_set 19 = .ok (.iload_n 1, 1) := by decide +kernel
theorem dX10_set_20 : decode cX10_set 20 = .ok (.invokestatic 312, 3) := by decide +kernel
theorem dX10_set_23 : decode cX10_set 23 = .ok (.invokestatic 110, 3) := by decide +kernel
theorem dX10_set_26 : decode cX10_set 26 = .ok (.ifCond .eq 7, 3) := by decide +kernel
theorem dX10_set_29 : decode cX10_set 29 = .ok (.iconst 0, 1) := by decide +kernel
theorem dX10_set_30 : decode cX10_set 30 = .ok (.goto 4, 3) := by decide +kernel
theorem dX10_set_33 : decode cX10_set 33 = .ok (.iconst 2, 1) := by decide +kernel
theorem dX10_set_34 : decode cX10_set 34 = .ok (.putfield 93, 3) := by decide +kernel
theorem dX10_set_37 : decode cX10_set 37 = .ok (.aload_n 0, 1) := by decide +kernel
theorem dX10_set_38 : decode cX10_set 38 = .ok (.getfield 93, 3) := by decide +kernel
theorem dX10_set_41 : decode cX10_set 41 = .ok (.ifCond .eq 5, 3) := by decide +kernel
theorem dX10_set_44 : decode cX10_set 44 = .ok (.iconst 0, 1) := by decide +kernel
theorem dX10_set_45 : decode cX10_set 45 = .ok (.ireturn, 1) := by decide +kernel
theorem dX10_set_46 : decode cX10_set 46 = .ok (.aload_n 0, 1) := by decide +kernel
theorem dX10_set_47 : decode cX10_set 47 = .ok (.invokevirtual 306, 3) := by decide +kernel
theorem dX10_set_50 : decode cX10_set 50 = .ok (.aload_n 0, 1) := by decide +kernel
theorem dX10_set_51 : decode cX10_set 51 = .ok (.iload_n 1, 1) := by decide +kernel
theorem dX10_set_52 : decode cX10_set 52 = .ok (.invokevirtual 162, 3) := by decide +kernel
theorem dX10_set_55 : decode cX10_set 55 = .ok (.istore_n 3, 1) := by decide +kernel
theorem dX10_set_56 : decode cX10_set 56 = .ok (.aload_n 0, 1) := by decide +kernel
theorem dX10_set_57 : decode cX10_set 57 = .ok (.getfield 9, 3) := by decide +kernel
theorem dX10_set_60 : decode cX10_set 60 = .ok (.iconst 5, 1) := by decide +kernel
theorem dX10_set_61 : decode cX10_set 61 = .ok (.iload_n 1, 1) := by decide +kernel
theorem dX10_set_62 : decode cX10_set 62 = .ok (.iadd, 1) := by decide +kernel
theorem dX10_set_63 : decode cX10_set 63 = .ok (.iload_n 2, 1) := by decide +kernel
theorem dX10_set_64 : decode cX10_set 64 = .ok (.iastore, 1) := by decide +kernel
theorem dX10_set_65 : decode cX10_set 65 = .ok (.iload_n 3, 1) := by decide +kernel
theorem dX10_set_66 : decode cX10_set 66 = .ok (.ireturn, 1) := by decide +kernel
def rm_X10_set : Room := { frames := 2, cells := 0, slots := 0, locals := 45 }
def M_X10_set_34 (k : Nat) (x1 : Int32) (x2 : Int32) (y1 : Int32) (S : Nat → Nat → Int32) : Option (Int32 × (Nat → Nat → Int32)) := lt (va_up S 0 (upd (S 0) 1 y1)) fun F1 => if (F1 0 1) = 0 then ((M_X10_record k F1).bind fun q3 => (M_X10_told k q3 x1).bind fun q4 => (if inb ((5 : Int32) + x1) 1692 = true then lt (va_up q3 1 (upd (q3 1) ((5 : Int32) + x1).toNatClampNeg x2)) fun F6 => some (q4, F6) else none)) else (some ((0 : Int32), F1))
set_option maxRecDepth 100000 in
set_option maxHeartbeats 4000000 in
theorem N_X10_set_34 (C : CX E p l s m args meth c cX10_set 4 RX10 (some .int) A) (a : Nat → Nat) (k : Nat) {post : Int32 → va_W → Prop} :
    ∀ (x1 : Int32) (x2 : Int32) (y1 : Int32) (S : Nat → Nat → Int32) (q : Int32 × (Nat → Nat → Int32)), M_X10_set_34 k x1 x2 y1 S = some q → post q.1 (wMd E a q.2) →
      WW E p l e rm_X10_set s m args below meth c A 0 0 (QI E below post args s rm_X10_set A) (wMd E a S) 4 [some (.ref (a 0)), some (.int x1), some (.int x2), none] 34 [.int y1, .ref (a 0)] := by
  intro x1 x2 y1 S q  h hq
  unfold M_X10_set_34 at h
  obtain ⟨F1, hF1, h⟩ := lt_e h
  refine r_put (pc := 34) C gwX10 tyX10 tyX10_ok nmX10 0 rfl rfl 6 (by decide) wm_5_209 rfl rfl rfl rfl (Nat.le_of_ble_eq_true rfl) (w' := (wMd E a F1)) (by rw [hF1]; rfl) dX10_set_34 ?_
  refine r_aload_n (pc := 37) C (i := 0) dX10_set_37 rfl rfl ?_
  refine r_get (pc := 38) C gwX10 0 rfl rfl 6 (by decide) wm_5_209 rfl dX10_set_38 ?_
  refine r_if_eq (pc := 41) C (tgt := 46) dX10_set_41 rfl (fun c2 => ?_) (fun c2 => ?_)
  · rw [if_pos c2] at h
    refine r_aload_n (pc := 46) C (i := 0) dX10_set_46 rfl rfl ?_
    obtain ⟨q3, hq3, h⟩ := bnd h
    refine r_callV_CV (Cn := RX10) (pc := 47) C [] (c_X10_record E l k a F1 hq3) [0, 1, 2, 3, 4, 5, 6, 7, 8, 9, 10, 11, 12] rfl (by decide) 0 rfl rfl rfl g_X10_306 hd_X10_record ⟨Nat.le_of_ble_eq_true rfl, Nat.le_of_ble_eq_true rfl⟩ ⟨Nat.zero_le _, Nat.zero_le _⟩ (Nat.le_of_ble_eq_true rfl) rfl dX10_set_47 (fun w1 hw1 => ?_)
    subst hw1
    refine ⟨(wMd E a q3), by rfl, ?_⟩
    refine r_aload_n (pc := 50) C (i := 0) dX10_set_50 rfl rfl ?_
    refine r_iload_n (pc := 51) C (i := 1) dX10_set_51 rfl rfl ?_
    obtain ⟨q4, hq4, h⟩ := bnd h
    refine r_callVp_CI (Cn := RX10) (pc := 52) C [.int x1] (c_X10_told E l k a q3 x1 hq4) [0, 1, 2, 3, 4, 5, 6, 7, 8, 9, 10, 11, 12] rfl (by decide) 0 rfl rfl rfl g_X10_162 hd_X10_told ⟨Nat.le_of_ble_eq_true rfl, Nat.le_of_ble_eq_true rfl⟩ ⟨Nat.zero_le _, Nat.zero_le _⟩ (Nat.le_of_ble_eq_true rfl) rfl dX10_set_52 (fun r hr => ?_)
    have hr := hr.symm
    subst hr
    refine r_istore_n (pc := 55) C (i := 3) dX10_set_55 rfl (by decide) rfl ?_
    refine r_aload_n (pc := 56) C (i := 0) dX10_set_56 rfl rfl ?_
    refine r_get (pc := 57) C gwX10 0 rfl rfl 0 (by decide) wm_5_203 rfl dX10_set_57 ?_
    refine r_iconst (pc := 60) C (v := 5) dX10_set_60 (by decide) ?_
    refine r_iload_n (pc := 61) C (i := 1) dX10_set_61 rfl rfl ?_
    refine r_iadd (pc := 62) C dX10_set_62 ?_
    refine r_iload_n (pc := 63) C (i := 2) dX10_set_63 rfl rfl ?_
    obtain ⟨hi5, h⟩ := ifn h
    obtain ⟨F6, hF6, h⟩ := lt_e h
    refine r_iast (pc := 64) C 1 rfl hi5 (w' := (wMd E a F6)) (by rw [hF6]; rfl) dX10_set_64 ?_
    refine r_iload_n (pc := 65) C (i := 3) dX10_set_65 rfl rfl ?_
    cases h
    exact r_ireti (pc := 66) C hq (Nat.zero_le _) (Nat.zero_le _) dX10_set_66
  · rw [if_neg c2] at h
    refine r_iconst (pc := 44) C (v := 0) dX10_set_44 (by decide) ?_
    cases h
    exact r_ireti (pc := 45) C hq (Nat.zero_le _) (Nat.zero_le _) dX10_set_45
def M_X10_set_0 (k : Nat) (p0 : Int32) (p1 : Int32) (S : Nat → Nat → Int32) : Option (Int32 × (Nat → Nat → Int32)) := (M_X10_inRange k p0 (0 : Int32) (4 : Int32)).bind fun q7 => if q7 = 0 then (M_X10_set_34 k p0 p1 (1 : Int32) S) else ((M_X10_leastOf k p0).bind fun q9 => (M_X10_mostOf k p0).bind fun q10 => (M_X10_inRange k p1 q9 q10).bind fun q11 => if q11 = 0 then (M_X10_set_34 k p0 p1 (2 : Int32) S) else (M_X10_set_34 k p0 p1 (0 : Int32) S))
set_option maxRecDepth 100000 in
set_option maxHeartbeats 4000000 in
theorem N_X10_set_0 (C : CX E p l s m args meth c cX10_set 4 RX10 (some .int) A) (a : Nat → Nat) (k : Nat) {post : Int32 → va_W → Prop} :
    ∀ (p0 : Int32) (p1 : Int32) (S : Nat → Nat → Int32) (q : Int32 × (Nat → Nat → Int32)), M_X10_set_0 k p0 p1 S = some q → post q.1 (wMd E a q.2) →
      WW E p l e rm_X10_set s m args below meth c A 0 0 (QI E below post args s rm_X10_set A) (wMd E a S) 4 [some (.ref (a 0)), some (.int p0), some (.int p1), none] 0 [] := by
  intro p0 p1 S q  h hq
  unfold M_X10_set_0 at h
  refine r_aload_n (pc := 0) C (i := 0) dX10_set_0 rfl rfl ?_
  refine r_iload_n (pc := 1) C (i := 1) dX10_set_1 rfl rfl ?_
  refine r_iconst (pc := 2) C (v := 0) dX10_set_2 (by decide) ?_
  refine r_iconst (pc := 3) C (v := 4) dX10_set_3 (by decide) ?_
  obtain ⟨q7, hq7, h⟩ := bnd h
  refine r_callSp_CI (pc := 4) C [.int p0, .int (0 : Int32), .int (4 : Int32)] (c_X10_inRange E l k p0 (0 : Int32) (4 : Int32) hq7) [] rfl (by decide) g_X10_110 hd_X10_inRange.2 ⟨Nat.le_of_ble_eq_true rfl, Nat.le_of_ble_eq_true rfl⟩ ⟨Nat.zero_le _, Nat.zero_le _⟩ (Nat.le_of_ble_eq_true rfl) rfl dX10_set_4 (fun r hr => ?_)
  have hr := hr.symm
  subst hr
  refine r_if_ne (pc := 7) C (tgt := 14) dX10_set_7 rfl (fun c8 => ?_) (fun c8 => ?_)
  · rw [if_neg c8] at h
    refine r_iload_n (pc := 14) C (i := 2) dX10_set_14 rfl rfl ?_
    refine r_iload_n (pc := 15) C (i := 1) dX10_set_15 rfl rfl ?_
    obtain ⟨q9, hq9, h⟩ := bnd h
    refine r_callSp_CI (pc := 16) C [.int p0] (c_X10_leastOf E l k p0 hq9) [] rfl (by decide) g_X10_309 hd_X10_leastOf.2 ⟨Nat.le_of_ble_eq_true rfl, Nat.le_of_ble_eq_true rfl⟩ ⟨Nat.zero_le _, Nat.zero_le _⟩ (Nat.le_of_ble_eq_true rfl) rfl dX10_set_16 (fun r hr => ?_)
    have hr := hr.symm
    subst hr
    refine r_iload_n (pc := 19) C (i := 1) dX10_set_19 rfl rfl ?_
    obtain ⟨q10, hq10, h⟩ := bnd h
    refine r_callSp_CI (pc := 20) C [.int p0] (c_X10_mostOf E l k p0 hq10) [] rfl (by decide) g_X10_312 hd_X10_mostOf.2 ⟨Nat.le_of_ble_eq_true rfl, Nat.le_of_ble_eq_true rfl⟩ ⟨Nat.zero_le _, Nat.zero_le _⟩ (Nat.le_of_ble_eq_true rfl) rfl dX10_set_20 (fun r hr => ?_)
    have hr := hr.symm
    subst hr
    obtain ⟨q11, hq11, h⟩ := bnd h
    refine r_callSp_CI (pc := 23) C [.int p1, .int q9, .int q10] (c_X10_inRange E l k p1 q9 q10 hq11) [] rfl (by decide) g_X10_110 hd_X10_inRange.2 ⟨Nat.le_of_ble_eq_true rfl, Nat.le_of_ble_eq_true rfl⟩ ⟨Nat.zero_le _, Nat.zero_le _⟩ (Nat.le_of_ble_eq_true rfl) rfl dX10_set_23 (fun r hr => ?_)
    have hr := hr.symm
    subst hr
    refine r_if_eq (pc := 26) C (tgt := 33) dX10_set_26 rfl (fun c12 => ?_) (fun c12 => ?_)
    · rw [if_pos c12] at h
      refine r_iconst (pc := 33) C (v := 2) dX10_set_33 (by decide) ?_
      refine r_weak (lSub_s (lSub_s (lSub_s (lSub_n lSub_e)))) ?_
      exact N_X10_set_34 C a k p0 p1 (2 : Int32) S q  h hq
    · rw [if_neg c12] at h
      refine r_iconst (pc := 29) C (v := 0) dX10_set_29 (by decide) ?_
      refine r_goto (pc := 30) C (tgt := 34) dX10_set_30 rfl ?_
      refine r_weak (lSub_s (lSub_s (lSub_s (lSub_n lSub_e)))) ?_
      exact N_X10_set_34 C a k p0 p1 (0 : Int32) S q  h hq
  · rw [if_pos c8] at h
    refine r_iconst (pc := 10) C (v := 1) dX10_set_10 (by decide) ?_
    refine r_goto (pc := 11) C (tgt := 34) dX10_set_11 rfl ?_
    refine r_weak (lSub_s (lSub_s (lSub_s (lSub_n lSub_e)))) ?_
    exact N_X10_set_34 C a k p0 p1 (1 : Int32) S q  h hq
def M_X10_set (k : Nat) (S : Nat → Nat → Int32) (p0 : Int32) (p1 : Int32) : Option (Int32 × (Nat → Nat → Int32)) := M_X10_set_0 k p0 p1 S
set_option maxRecDepth 100000 in
set_option maxHeartbeats 4000000 in
theorem c_X10_set (E : ENV) (l : Launch) (k : Nat) (a : Nat → Nat) (S : Nat → Nat → Int32) (p0 : Int32) (p1 : Int32) {q : Int32 × (Nat → Nat → Int32)} (hm : M_X10_set k S p0 p1 = some q) : CI E l yX10_set cX10_set 4 (some .int) rm_X10_set [.ref (a 0), .int p0, .int p1] (wMd E a S) (fun r w' => r = q.1 ∧ w' = (wMd E a q.2)) :=
  CI.of 1 (by decide) (Nat.le_of_ble_eq_true rfl) (fun p e s m below meth c A C _ => r_weak (lSub_s (lSub_s (lSub_s (lSub_n lSub_e)))) (N_X10_set_0 C a k p0 p1 S q  hm ⟨rfl, rfl⟩))
end WALKS
