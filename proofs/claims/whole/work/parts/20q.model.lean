section WALKS
variable {E : ENV} {p : Program} {l : Launch} {e : Env} {s : State} {m : MethodId} {args : Array Value} {below : List Frame} {meth : Method} {c : Code} {A : Nat → Prop}
-- ShardGuardModel.settingHere()I
theorem dX10_settingHere_0 : decode cX10_settingHere 0 = .ok (.iconst 0, 1) := by decide +kernel
theorem dX10_settingHere_1 : decode cX10_settingHere 1 = .ok (.istore_n 1, 1) := by decide +kernel
theorem dX10_settingHere_2 : decode cX10_settingHere 2 = .ok (.iload_n 1, 1) := by decide +kernel
theorem dX10_settingHere_3 : decode cX10_settingHere 3 = .ok (.iconst 5, 1) := by decide +kernel
theorem dX10_settingHere_4 : decode cX10_settingHere 4 = .ok (.if_icmp .ge 24, 3) := by decide +kernel
theorem dX10_settingHere_7 : decode cX10_settingHere 7 = .ok (.aload_n 0, 1) := by decide +kernel
theorem dX10_settingHere_8 : decode cX10_settingHere 8 = .ok (.aload_n 0, 1) := by decide +kernel
theorem dX10_settingHere_9 : decode cX10_settingHere 9 = .ok (.getfield 53, 3) := by decide +kernel
theorem dX10_settingHere_12 : decode cX10_settingHere 12 = .ok (.iload_n 1, 1) := by decide +kernel
theorem dX10_settingHere_13 : decode cX10_settingHere 13 = .ok (.aaload, 1) := by decide +kernel
theorem dX10_settingHere_14 : decode cX10_settingHere 14 = .ok (.invokevirtual 390, 3) := by decide +kernel
theorem dX10_settingHere_17 : decode cX10_settingHere 17 = .ok (.ifCond .eq 5, 3) := by decide +kernel
theorem dX10_settingHere_20 : decode cX10_settingHere 20 = .ok (.iload_n 1, 1) := by decide +kernel
theorem dX10_settingHere_21 : decode cX10_settingHere 21 = .ok (.ireturn, 1) := by decide +kernel
theorem dX10_settingHere_22 : decode cX10_settingHere 22 = .ok (.iinc 1 1, 3) := by decide +kernel
theorem dX10_settingHere_25 : decode cX10_settingHere 25 = .ok (.goto (-23), 3) := by decide +kernel
theorem dX10_settingHere_28 : decode cX10_settingHere 28 = .ok (.iconst (-1), 1) := by decide +kernel
theorem dX10_settingHere_29 : decode cX10_settingHere 29 = .ok (.ireturn, 1) := by decide +kernel
def rm_X10_settingHere : Room := { frames := 7, cells := 0, slots := 0, locals := 173 }
def M_X10_settingHere_2 (k : Nat) (S : Nat → Nat → Int32) : Nat → (Int32) → Option (Int32)
  | 0, _ => none
  | n + 1, x1 => if (5 : Int32) ≤ x1 then (some (-1 : Int32)) else ((if inb x1 5 = true then lt (54 + x1.toNatClampNeg) fun j3 => (M_X10_isWord k S j3).bind fun q4 => if q4 = 0 then (M_X10_settingHere_2 k S n (x1 + 1)) else (some x1) else none))
theorem M_X10_settingHere_2_s (k : Nat) (S : Nat → Nat → Int32) (n : Nat) (x1 : Int32) : M_X10_settingHere_2 k S (n + 1) x1 = (if (5 : Int32) ≤ x1 then (some (-1 : Int32)) else ((if inb x1 5 = true then lt (54 + x1.toNatClampNeg) fun j3 => (M_X10_isWord k S j3).bind fun q4 => if q4 = 0 then (M_X10_settingHere_2 k S n (x1 + 1)) else (some x1) else none))) := rfl
set_option maxRecDepth 100000 in
set_option maxHeartbeats 4000000 in
theorem N_X10_settingHere_2 (C : CX E p l s m args meth c cX10_settingHere 2 RX10 (some .int) A) (a : Nat → Nat) (k : Nat) (S : Nat → Nat → Int32) {post : Int32 → va_W → Prop} :
    ∀ (n : Nat) (x1 : Int32) (q : Int32), M_X10_settingHere_2 k S n x1 = some q → post q (wMd E a S) →
      WW E p l e rm_X10_settingHere s m args below meth c A 0 0 (QI E below post args s rm_X10_settingHere A) (wMd E a S) 2 [some (.ref (a 0)), some (.int x1)] 2 [] := by
  intro n
  induction n with
  | zero => intro x1 q  h _; cases h
  | succ n ih =>
    intro x1 q  h hq
    rw [M_X10_settingHere_2_s] at h
    refine r_iload_n (pc := 2) C (i := 1) dX10_settingHere_2 rfl rfl ?_
    refine r_iconst (pc := 3) C (v := 5) dX10_settingHere_3 (by decide) ?_
    refine r_icmp_ge (pc := 4) C (tgt := 28) dX10_settingHere_4 rfl (fun c1 => ?_) (fun c1 => ?_)
    · rw [if_pos c1] at h
      refine r_iconst (pc := 28) C (v := (-1)) dX10_settingHere_28 (by decide) ?_
      have h := Option.some.inj h
      subst h
      exact r_ireti (pc := 29) C hq (Nat.zero_le _) (Nat.zero_le _) dX10_settingHere_29
    · rw [if_neg c1] at h
      refine r_aload_n (pc := 7) C (i := 0) dX10_settingHere_7 rfl rfl ?_
      refine r_aload_n (pc := 8) C (i := 0) dX10_settingHere_8 rfl rfl ?_
      refine r_get (pc := 9) C gwX10 0 rfl rfl 23 (by decide) wm_5_226 rfl dX10_settingHere_9 ?_
      refine r_iload_n (pc := 12) C (i := 1) dX10_settingHere_12 rfl rfl ?_
      obtain ⟨hi2, h⟩ := ifn h
      obtain ⟨j3, ej3, h⟩ := lt_e h
      have hj_j3 : j3 < 79 := by rw [ej3]; exact strLt hi2 (by decide)
      refine r_aald (pc := 13) C 11 rfl hi2 (strF_at hi2) dX10_settingHere_13 ?_
      refine r_topg (a := eS E) ej3 ?_
      obtain ⟨q4, hq4, h⟩ := bnd h
      refine r_callVp_CI (Cn := RX10) (pc := 14) C [.ref (eS E j3)] (c_X10_isWord E l k a S j3 hj_j3 hq4) [0, 1, 2, 3, 4, 5, 6, 7, 8, 9, 10, 11, 12] rfl (by decide) 0 rfl rfl rfl g_X10_390 hd_X10_isWord ⟨Nat.le_of_ble_eq_true rfl, Nat.le_of_ble_eq_true rfl⟩ ⟨Nat.zero_le _, Nat.zero_le _⟩ (Nat.le_of_ble_eq_true rfl) rfl dX10_settingHere_14 (fun r hr => ?_)
      have hr := hr.symm
      subst hr
      refine r_if_eq (pc := 17) C (tgt := 22) dX10_settingHere_17 rfl (fun c5 => ?_) (fun c5 => ?_)
      · rw [if_pos c5] at h
        refine r_iinc (pc := 22) C (v := (x1 + 1)) dX10_settingHere_22 rfl rfl (by decide) rfl ?_
        refine r_goto (pc := 25) C (tgt := 2) dX10_settingHere_25 rfl ?_
        refine r_weak (lSub_s (lSub_s lSub_e)) ?_
        exact ih (x1 + 1) q  h hq
      · rw [if_neg c5] at h
        refine r_iload_n (pc := 20) C (i := 1) dX10_settingHere_20 rfl rfl ?_
        cases h
        exact r_ireti (pc := 21) C hq (Nat.zero_le _) (Nat.zero_le _) dX10_settingHere_21
def M_X10_settingHere_0 (k : Nat) (S : Nat → Nat → Int32) : Option (Int32) := M_X10_settingHere_2 k S k (0 : Int32)
set_option maxRecDepth 100000 in
set_option maxHeartbeats 4000000 in
theorem N_X10_settingHere_0 (C : CX E p l s m args meth c cX10_settingHere 2 RX10 (some .int) A) (a : Nat → Nat) (k : Nat) (S : Nat → Nat → Int32) {post : Int32 → va_W → Prop} :
    ∀ (q : Int32), M_X10_settingHere_0 k S = some q → post q (wMd E a S) →
      WW E p l e rm_X10_settingHere s m args below meth c A 0 0 (QI E below post args s rm_X10_settingHere A) (wMd E a S) 2 [some (.ref (a 0)), none] 0 [] := by
  intro  q  h hq
  unfold M_X10_settingHere_0 at h
  refine r_iconst (pc := 0) C (v := 0) dX10_settingHere_0 (by decide) ?_
  refine r_istore_n (pc := 1) C (i := 1) dX10_settingHere_1 rfl (by decide) rfl ?_
  refine r_weak (lSub_s (lSub_s lSub_e)) ?_
  exact N_X10_settingHere_2 C a k S k (0 : Int32) q  h hq
def M_X10_settingHere (k : Nat) (S : Nat → Nat → Int32) : Option (Int32) := M_X10_settingHere_0 k S
set_option maxRecDepth 100000 in
set_option maxHeartbeats 4000000 in
theorem c_X10_settingHere (E : ENV) (l : Launch) (k : Nat) (a : Nat → Nat) (S : Nat → Nat → Int32) {q : Int32} (hm : M_X10_settingHere k S = some q) : CI E l yX10_settingHere cX10_settingHere 2 (some .int) rm_X10_settingHere [.ref (a 0)] (wMd E a S) (fun r w' => r = q ∧ w' = (wMd E a S)) :=
  CI.of 1 (by decide) (Nat.le_of_ble_eq_true rfl) (fun p e s m below meth c A C _ => r_weak (lSub_s (lSub_n lSub_e)) (N_X10_settingHere_0 C a k S q  hm ⟨rfl, rfl⟩))
theorem hd_X10_leastOf : yX10_leastOf.cls = RX10 ∧ yX10_leastOf.cls ≠ "java/lang/invoke/MethodHandle" ∧ yX10_leastOf.cls ≠ "java/lang/invoke/VarHandle" ∧ (parseMethodDescriptor yX10_leastOf.desc).map (fun d => d.parameters.length) = some 1 := by decide +kernel
theorem g_X10_309 : GoodIn GW (va_wsS RX10 309 yX10_leastOf (wsG yX10_leastOf cX10_leastOf 1 (some .int))) := gw_S wm_7_155 wm_7_156 wm_1_9 wm_7_157
theorem hd_X10_mostOf : yX10_mostOf.cls = RX10 ∧ yX10_mostOf.cls ≠ "java/lang/invoke/MethodHandle" ∧ yX10_mostOf.cls ≠ "java/lang/invoke/VarHandle" ∧ (parseMethodDescriptor yX10_mostOf.desc).map (fun d => d.parameters.length) = some 1 := by decide +kernel
theorem g_X10_312 : GoodIn GW (va_wsS RX10 312 yX10_mostOf (wsG yX10_mostOf cX10_mostOf 1 (some .int))) := gw_S wm_7_158 wm_7_159 wm_1_9 wm_7_160
theorem hd_X10_readNumber : yX10_readNumber.cls = RX10 ∧ yX10_readNumber.cls ≠ "java/lang/invoke/MethodHandle" ∧ yX10_readNumber.cls ≠ "java/lang/invoke/VarHandle" ∧ (parseMethodDescriptor yX10_readNumber.desc).map (fun d => d.parameters.length) = some 2 := by decide +kernel
theorem g_X10_416 : GoodIn GW (wsV RX10 416 RX10 yX10_readNumber (wsG yX10_readNumber cX10_readNumber 4 (some .int))) := gw_V wm_8_24 wm_8_26 wm_0_89 wm_1_9 wm_8_27
theorem hd_X10_expect : yX10_expect.cls = RX10 ∧ yX10_expect.cls ≠ "java/lang/invoke/MethodHandle" ∧ yX10_expect.cls ≠ "java/lang/invoke/VarHandle" ∧ (parseMethodDescriptor yX10_expect.desc).map (fun d => d.parameters.length) = some 1 := by decide +kernel
theorem g_X10_419 : GoodIn GW (wsV RX10 419 RX10 yX10_expect (wsG yX10_expect cX10_expect 2 none)) := gw_V wm_8_39 wm_8_41 wm_0_91 wm_1_9 wm_8_42
-- ShardGuardModel.readSetting(I)V
theorem dX10_readSetting_0 : decode cX10_readSetting 0 = .ok (.aload_n 0, 1) := by decide +kernel
theorem dX10_readSetting_1 : decode cX10_readSetting 1 = .ok (.invokevirtual 398, 3) := by decide +kernel
theorem dX10_readSetting_4 : decode cX10_readSetting 4 = .ok (.aload_n 0, 1) := by decide +kernel
theorem dX10_readSetting_5 : decode cX10_readSetting 5 = .ok (.getfield 13, 3) := by decide +kernel
theorem dX10_readSetting_8 : decode cX10_readSetting 8 = .ok (.iconst 5, 1) := by decide +kernel
theorem dX10_readSetting_9 : decode cX10_readSetting 9 = .ok (.iload_n 1, 1) := by decide +kernel
theorem dX10_readSetting_10 : decode cX10_readSetting 10 = .ok (.iadd, 1) := by decide +kernel
theorem dX10_readSetting_11 : decode cX10_readSetting 11 = .ok (.aload_n 0, 1) := by decide +kernel
theorem dX10_readSetting_12 : decode cX10_readSetting 12 = .ok (.iload_n 1, 1) := by decide +kernel
theorem dX10_readSetting_13 : decode cX10_readSetting 13 = .ok (.invokestatic 309, 3) := by decide +kernel
theorem dX10_readSetting_16 : decode cX10_readSetting 16 = .ok (.iload_n 1, 1) := by decide +kernel
theorem dX10_readSetting_17 : decode cX10_readSetting 17 = .ok (.invokestatic 312, 3) := by decide +kernel
theorem dX10_readSetting_20 : decode cX10_readSetting 20 = .ok (.invokevirtual 416, 3) := by decide +kernel
theorem dX10_readSetting_23 : decode cX10_readSetting 23 = .ok (.iastore, 1) := by decide +kernel
theorem dX10_readSetting_24 : decode cX10_readSetting 24 = .ok (.aload_n 0, 1) := by decide +kernel
theorem dX10_readSetting_25 : decode cX10_readSetting 25 = .ok (.bipush 59, 2) := by decide +kernel
theorem dX10_readSetting_27 : decode cX10_readSetting 27 = .ok (.invokevirtual 419, 3) := by decide +kernel
theorem dX10_readSetting_30 : decode cX10_readSetting 30 = .ok (.return_, 1) := by decide +kernel
def rm_X10_readSetting : Room := { frames := 5, cells := 0, slots := 0, locals := 105 }
def M_X10_readSetting_0 (k : Nat) (p0 : Int32) (S : Nat → Nat → Int32) : Option ((Nat → Nat → Int32)) := (M_X10_advance k S).bind fun q1 => (M_X10_leastOf k p0).bind fun q2 => (M_X10_mostOf k p0).bind fun q3 => (M_X10_readNumber k q1 q2 q3).bind fun q4 => (if inb ((5 : Int32) + p0) 1692 = true then lt (va_up q4.2 2 (upd (q4.2 2) ((5 : Int32) + p0).toNatClampNeg q4.1)) fun F6 => (M_X10_expect k F6 (59 : Int32)).bind fun q7 => some q7 else none)
set_option maxRecDepth 100000 in
set_option maxHeartbeats 4000000 in
theorem N_X10_readSetting_0 (C : CX E p l s m args meth c cX10_readSetting 2 RX10 none A) (a : Nat → Nat) (k : Nat) {post : va_W → Prop} :
    ∀ (p0 : Int32) (S : Nat → Nat → Int32) (q : (Nat → Nat → Int32)), M_X10_readSetting_0 k p0 S = some q → post (wMd E a q) →
      WW E p l e rm_X10_readSetting s m args below meth c A 0 0 (QV E below post args s rm_X10_readSetting A) (wMd E a S) 2 [some (.ref (a 0)), some (.int p0)] 0 [] := by
  intro p0 S q  h hq
  unfold M_X10_readSetting_0 at h
  refine r_aload_n (pc := 0) C (i := 0) dX10_readSetting_0 rfl rfl ?_
  obtain ⟨q1, hq1, h⟩ := bnd h
  refine r_callV_CV (Cn := RX10) (pc := 1) C [] (c_X10_advance E l k a S hq1) [0, 1, 2, 3, 4, 5, 6, 7, 8, 9, 10, 11, 12] rfl (by decide) 0 rfl rfl rfl g_X10_398 hd_X10_advance ⟨Nat.le_of_ble_eq_true rfl, Nat.le_of_ble_eq_true rfl⟩ ⟨Nat.zero_le _, Nat.zero_le _⟩ (Nat.le_of_ble_eq_true rfl) rfl dX10_readSetting_1 (fun w1 hw1 => ?_)
  subst hw1
  refine ⟨(wMd E a q1), by rfl, ?_⟩
  refine r_aload_n (pc := 4) C (i := 0) dX10_readSetting_4 rfl rfl ?_
  refine r_get (pc := 5) C gwX10 0 rfl rfl 1 (by decide) wm_5_204 rfl dX10_readSetting_5 ?_
  refine r_iconst (pc := 8) C (v := 5) dX10_readSetting_8 (by decide) ?_
  refine r_iload_n (pc := 9) C (i := 1) dX10_readSetting_9 rfl rfl ?_
  refine r_iadd (pc := 10) C dX10_readSetting_10 ?_
  refine r_aload_n (pc := 11) C (i := 0) dX10_readSetting_11 rfl rfl ?_
  refine r_iload_n (pc := 12) C (i := 1) dX10_readSetting_12 rfl rfl ?_
  obtain ⟨q2, hq2, h⟩ := bnd h
  refine r_callSp_CI (pc := 13) C [.int p0] (c_X10_leastOf E l k p0 hq2) [] rfl (by decide) g_X10_309 hd_X10_leastOf.2 ⟨Nat.le_of_ble_eq_true rfl, Nat.le_of_ble_eq_true rfl⟩ ⟨Nat.zero_le _, Nat.zero_le _⟩ (Nat.le_of_ble_eq_true rfl) rfl dX10_readSetting_13 (fun r hr => ?_)
  have hr := hr.symm
  subst hr
  refine r_iload_n (pc := 16) C (i := 1) dX10_readSetting_16 rfl rfl ?_
  obtain ⟨q3, hq3, h⟩ := bnd h
  refine r_callSp_CI (pc := 17) C [.int p0] (c_X10_mostOf E l k p0 hq3) [] rfl (by decide) g_X10_312 hd_X10_mostOf.2 ⟨Nat.le_of_ble_eq_true rfl, Nat.le_of_ble_eq_true rfl⟩ ⟨Nat.zero_le _, Nat.zero_le _⟩ (Nat.le_of_ble_eq_true rfl) rfl dX10_readSetting_17 (fun r hr => ?_)
  have hr := hr.symm
  subst hr
  obtain ⟨q4, hq4, h⟩ := bnd h
  refine r_callV_CI (Cn := RX10) (pc := 20) C [.int q2, .int q3] (c_X10_readNumber E l k a q1 q2 q3 hq4) [0, 1, 2, 3, 4, 5, 6, 7, 8, 9, 10, 11, 12] rfl (by decide) 0 rfl rfl rfl g_X10_416 hd_X10_readNumber ⟨Nat.le_of_ble_eq_true rfl, Nat.le_of_ble_eq_true rfl⟩ ⟨Nat.zero_le _, Nat.zero_le _⟩ (Nat.le_of_ble_eq_true rfl) rfl dX10_readSetting_20 (fun r w1 hw1 => ?_)
  obtain ⟨hr1, hw1⟩ := hw1
  subst hr1 hw1
  refine ⟨(wMd E a q4.2), by rfl, ?_⟩
  obtain ⟨hi5, h⟩ := ifn h
  obtain ⟨F6, hF6, h⟩ := lt_e h
  refine r_iast (pc := 23) C 2 rfl hi5 (w' := (wMd E a F6)) (by rw [hF6]; rfl) dX10_readSetting_23 ?_
  refine r_aload_n (pc := 24) C (i := 0) dX10_readSetting_24 rfl rfl ?_
  refine r_bipush (pc := 25) C (v := 59) dX10_readSetting_25 (by decide) ?_
  obtain ⟨q7, hq7, h⟩ := bnd h
  refine r_callV_CV (Cn := RX10) (pc := 27) C [.int (59 : Int32)] (c_X10_expect E l k a F6 (59 : Int32) hq7) [0, 1, 2, 3, 4, 5, 6, 7, 8, 9, 10, 11, 12] rfl (by decide) 0 rfl rfl rfl g_X10_419 hd_X10_expect ⟨Nat.le_of_ble_eq_true rfl, Nat.le_of_ble_eq_true rfl⟩ ⟨Nat.zero_le _, Nat.zero_le _⟩ (Nat.le_of_ble_eq_true rfl) rfl dX10_readSetting_27 (fun w1 hw1 => ?_)
  subst hw1
  refine ⟨(wMd E a q7), by rfl, ?_⟩
  cases h
  exact r_vret (pc := 30) C hq (Nat.zero_le _) (Nat.zero_le _) dX10_readSetting_30
def M_X10_readSetting (k : Nat) (S : Nat → Nat → Int32) (p0 : Int32) : Option ((Nat → Nat → Int32)) := M_X10_readSetting_0 k p0 S
set_option maxRecDepth 100000 in
set_option maxHeartbeats 4000000 in
theorem c_X10_readSetting (E : ENV) (l : Launch) (k : Nat) (a : Nat → Nat) (S : Nat → Nat → Int32) (p0 : Int32) {q : (Nat → Nat → Int32)} (hm : M_X10_readSetting k S p0 = some q) : CV E l yX10_readSetting cX10_readSetting 2 none rm_X10_readSetting [.ref (a 0), .int p0] (wMd E a S) (fun w' => w' = (wMd E a q)) :=
  CV.of 0 (by decide) (Nat.le_of_ble_eq_true rfl) (fun p e s m below meth c A C _ => r_weak (lSub_s (lSub_s lSub_e)) (N_X10_readSetting_0 C a k p0 S q  hm rfl))
-- ShardGuardModel.readTenant()V
theorem dX10_readTenant_0 : decode cX10_readTenant 0 = .ok (.aload_n 0, 1) := by decide +kernel
theorem dX10_readTenant_1 : decode cX10_readTenant 1 = .ok (.aload_n 0, 1) := by decide +kernel
theorem dX10_readTenant_2 : decode cX10_readTenant 2 = .ok (.getfield 13, 3) := by decide +kernel
theorem dX10_readTenant_5 : decode cX10_readTenant 5 = .ok (.iconst 2, 1) := by decide +kernel
theorem dX10_readTenant_6 : decode cX10_readTenant 6 = .ok (.iaload, 1) := by decide +kernel
theorem dX10_readTenant_7 : decode cX10_readTenant 7 = .ok (.bipush 12, 2) := by decide +kernel
theorem dX10_readTenant_9 : decode cX10_readTenant 9 = .ok (.if_icmp .ge 7, 3) := by decide +kernel
theorem dX10_readTenant_12 : decode cX10_readTenant 12 = .ok (.iconst 1, 1) := by decide +kernel
theorem dX10_readTenant_13 : decode cX10_readTenant 13 = .ok (.goto 4, 3) := by decide +kernel
theorem dX10_readTenant_16 : decode cX10_readTenant 16 = .ok (.iconst 0, 1) := by decide +kernel
theorem dX10_readTenant_17 : decode cX10_readTenant 17 = .ok (.iconst 3, 1) := by decide +kernel
theorem dX10_readTenant_18 : decode cX10_readTenant 18 = .ok (.invokevirtual 394, 3) := by decide +kernel
theorem dX10_readTenant_21 : decode cX10_readTenant 21 = .ok (.aload_n 0, 1) := by decide +kernel
theorem dX10_readTenant_22 : decode cX10_readTenant 22 = .ok (.invokevirtual 398, 3) := by decide +kernel
theorem dX10_readTenant_25 : decode cX10_readTenant 25 = .ok (.iconst 0, 1) := by decide +kernel
theorem dX10_readTenant_26 : decode cX10_readTenant 26 = .ok (.istore_n 1, 1) := by decide +kernel
theorem dX10_readTenant_27 : decode cX10_readTenant 27 = .ok (.iconst 0, 1) := by decide +kernel
theorem dX10_readTenant_28 : decode cX10_readTenant 28 = .ok (.istore_n 2, 1) := by decide +kernel
theorem dX10_readTenant_29 : decode cX10_readTenant 29 = .ok (.iload_n 2, 1) := by decide +kernel
theorem dX10_readTenant_30 : decode cX10_readTenant 30 = .ok (.aload_n 0, 1) := by decide +kernel
theorem dX10_readTenant_31 : decode cX10_readTenant 31 = .ok (.getfield 13, 3) := by decide +kernel
theorem dX10_readTenant_34 : decode cX10_readTenant 34 = .ok (.iconst 1, 1) := by decide +kernel
theorem dX10_readTenant_35 : decode cX10_readTenant 35 = .ok (.iaload, 1) := by decide +kernel
theorem dX10_readTenant_36 : decode cX10_readTenant 36 = .ok (.if_icmp .ge 122, 3) := by decide +kernel
theorem dX10_readTenant_39 : decode cX10_readTenant 39 = .ok (.aload_n 0, 1) := by decide +kernel
theorem dX10_readTenant_40 : decode cX10_readTenant 40 = .ok (.getfield 375, 3) := by decide +kernel
theorem dX10_readTenant_43 : decode cX10_readTenant 43 = .ok (.ifCond .ne 115, 3) := by decide +kernel
theorem dX10_readTenant_46 : decode cX10_readTenant 46 = .ok (.aload_n 0, 1) := by decide +kernel
theorem dX10_readTenant_47 : decode cX10_readTenant 47 = .ok (.aload_n 0, 1) := by decide +kernel
theorem dX10_readTenant_48 : decode cX10_readTenant 48 = .ok (.getfield 366, 3) := by decide +kernel
theorem dX10_readTenant_51 : decode cX10_readTenant 51 = .ok (.iconst 2, 1) := by decide +kernel
theorem dX10_readTenant_52 : decode cX10_readTenant 52 = .ok (.if_icmp .ne 7, 3) := by decide +kernel
theorem dX10_readTenant_55 : decode cX10_readTenant 55 = .ok (.iconst 1, 1) := by decide +kernel
theorem dX10_readTenant_56 : decode cX10_readTenant 56 = .ok (.goto 4, 3) := by decide +kernel
theorem dX10_readTenant_59 : decode cX10_readTenant 59 = .ok (.iconst 0, 1) := by decide +kernel
theorem dX10_readTenant_60 : decode cX10_readTenant 60 = .ok (.iconst 1, 1) := by decide +kernel
theorem dX10_readTenant_61 : decode cX10_readTenant 61 = .ok (.invokevirtual 394, 3) := by decide +kernel
theorem dX10_readTenant_64 : decode cX10_readTenant 64 = .ok (.aload_n 0, 1) := by decide +kernel
theorem dX10_readTenant_65 : decode cX10_readTenant 65 = .ok (.aload_n 0, 1) := by decide +kernel
theorem dX10_readTenant_66 : decode cX10_readTenant 66 = .ok (.getfield 375, 3) := by decide +kernel
theorem dX10_readTenant_69 : decode cX10_readTenant 69 = .ok (.ifCond .ne 22, 3) := by decide +kernel
theorem dX10_readTenant_72 : decode cX10_readTenant 72 = .ok (.aload_n 0, 1) := by decide +kernel
theorem dX10_readTenant_73 : decode cX10_readTenant 73 = .ok (.invokevirtual 413, 3) := by decide +kernel
theorem dX10_readTenant_76 : decode cX10_readTenant 76 = .ok (.iconst 0, 1) := by decide +kernel
theorem dX10_readTenant_77 : decode cX10_readTenant 77 = .ok (.aload_n 0, 1) := by decide +kernel
theorem dX10_readTenant_78 : decode cX10_readTenant 78 = .ok (.getfield 13, 3) := by decide +kernel
theorem dX10_readTenant_81 : decode cX10_readTenant 81 = .ok (.iconst 0, 1) := by decide +kernel
theorem dX10_readTenant_82 : decode cX10_readTenant 82 = .ok (.iaload, 1) := by decide +kernel
theorem dX10_readTenant_83 : decode cX10_readTenant 83 = .ok (.iconst 1, 1) := by decide +kernel
theorem dX10_readTenant_84 : decode cX10_readTenant 84 = .ok (.isub, 1) := by decide +kernel
theorem dX10_readTenant_85 : decode cX10_readTenant 85 = .ok (.invokestatic 110, 3) := by decide +kernel
theorem dX10_readTenant_88 : decode cX10_readTenant 88 = .ok (.ifCond .eq 7, 3) := by decide +kernel
theorem dX10_readTenant_91 : decode cX10_readTenant 91 = .ok (.iconst 1, 1) := by decide +kernel
theorem dX10_readTenant_92 : decode cX10_readTenant 92 = .ok (.goto 4, 3) := by decide +kernel
theorem dX10_readTenant_95 : decode cX10_readTenant 95 = .ok (.iconst 0, 1) := by decide +kernel
theorem dX10_readTenant_96 : decode cX10_readTenant 96 = .ok (.iconst 2, 1) := by decide +kernel
theorem dX10_readTenant_97 : decode cX10_readTenant 97 = .ok (.invokevirtual 394, 3) := by decide +kernel
theorem dX10_readTenant_100 : decode cX10_readTenant 100 = .ok (.aload_n 0, 1) := by decide +kernel
theorem dX10_readTenant_101 : decode cX10_readTenant 101 = .ok (.aload_n 0, 1) := by decide +kernel
theorem dX10_readTenant_102 : decode cX10_readTenant 102 = .ok (.getfield 375, 3) := by decide +kernel
theorem dX10_readTenant_105 : decode cX10_readTenant 105 = .ok (.ifCond .ne 14, 3) := by decide +kernel
theorem dX10_readTenant_108 : decode cX10_readTenant 108 = .ok (.iload_n 1, 1) := by decide +kernel
theorem dX10_readTenant_109 : decode cX10_readTenant 109 = .ok (.aload_n 0, 1) := by decide +kernel
theorem dX10_readTenant_110 : decode cX10_readTenant 110 = .ok (.invokevirtual 413, 3) := by decide +kernel
theorem dX10_readTenant_113 : decode cX10_readTenant 113 = .ok (.invokestatic 133, 3) := by decide +kernel
theorem dX10_readTenant_116 : decode cX10_readTenant 116 = .ok (.ifCond .ne 7, 3) := by decide +kernel
theorem dX10_readTenant_119 : decode cX10_readTenant 119 = .ok (.iconst 1, 1) := by decide +kernel
theorem dX10_readTenant_120 : decode cX10_readTenant 120 = .ok (.goto 4, 3) := by decide +kernel
theorem dX10_readTenant_123 : decode cX10_readTenant 123 = .ok (.iconst 0, 1) := by decide +kernel
theorem dX10_readTenant_124 : decode cX10_readTenant 124 = .ok (.iconst 4, 1) := by decide +kernel
theorem dX10_readTenant_125 : decode cX10_readTenant 125 = .ok (.invokevirtual 394, 3) := by decide +kernel
theorem dX10_readTenant_128 : decode cX10_readTenant 128 = .ok (.iload_n 1, 1) := by decide +kernel
theorem dX10_readTenant_129 : decode cX10_readTenant 129 = .ok (.aload_n 0, 1) := by decide +kernel
theorem dX10_readTenant_130 : decode cX10_readTenant 130 = .ok (.getfield 375, 3) := by decide +kernel
theorem dX10_readTenant_133 : decode cX10_readTenant 133 = .ok (.ifCond .ne 12, 3) := by decide +kernel
theorem dX10_readTenant_136 : decode cX10_readTenant 136 = .ok (.iconst 1, 1) := by decide +kernel
theorem dX10_readTenant_137 : decode cX10_readTenant 137 = .ok (.aload_n 0, 1) := by decide +kernel
theorem dX10_readTenant_138 : decode cX10_readTenant 138 = .ok (.invokevirtual 413, 3) := by decide +kernel
theorem dX10_readTenant_141 : decode cX10_readTenant 141 = .ok (.ishl, 1) := by decide +kernel
theorem dX10_readTenant_142 : decode cX10_readTenant 142 = .ok (.goto 4, 3) := by decide +kernel
theorem dX10_readTenant_145 : decode cX10_readTenant 145 = .ok (.iconst 0, 1) := by decide +kernel
theorem dX10_readTenant_146 : decode cX10_readTenant 146 = .ok (.ior, 1) := by decide +kernel
theorem dX10_readTenant_147 : decode cX10_readTenant 147 = .ok (.istore_n 1, 1) := by decide +kernel
theorem dX10_readTenant_148 : decode cX10_readTenant 148 = .ok (.aload_n 0, 1) := by decide +kernel
theorem dX10_readTenant_149 : decode cX10_readTenant 149 = .ok (.invokevirtual 398, 3) := by decide +kernel
theorem dX10_readTenant_152 : decode cX10_readTenant 152 = .ok (.iinc 2 1, 3) := by decide +kernel
theorem dX10_readTenant_155 : decode cX10_readTenant 155 = .ok (.goto (-126), 3) := by decide +kernel
theorem dX10_readTenant_158 : decode cX10_readTenant 158 = .ok (.aload_n 0, 1) := by decide +kernel
theorem dX10_readTenant_159 : decode cX10_readTenant 159 = .ok (.bipush 59, 2) := by decide +kernel
theorem dX10_readTenant_161 : decode cX10_readTenant 161 = .ok (.invokevirtual 419, 3) := by decide +kernel
theorem dX10_readTenant_164 : decode cX10_readTenant 164 = .ok (.aload_n 0, 1) := by decide +kernel
theorem dX10_readTenant_165 : decode cX10_readTenant 165 = .ok (.getfield 375, 3) := by decide +kernel
theorem dX10_readTenant_168 : decode cX10_readTenant 168 = .ok (.ifCond .ne 53, 3) := by decide +kernel
theorem dX10_readTenant_171 : decode cX10_readTenant 171 = .ok (.aload_n 0, 1) := by decide +kernel
theorem dX10_readTenant_172 : decode cX10_readTenant 172 = .ok (.getfield 13, 3) := by decide +kernel
theorem dX10_readTenant_175 : decode cX10_readTenant 175 = .ok (.iconst 2, 1) := by decide +kernel
theorem dX10_readTenant_176 : decode cX10_readTenant 176 = .ok (.iaload, 1) := by decide +kernel
theorem dX10_readTenant_177 : decode cX10_readTenant 177 = .ok (.istore_n 2, 1) := by decide +kernel
theorem dX10_readTenant_178 : decode cX10_readTenant 178 = .ok (.aload_n 0, 1) := by decide +kernel
theorem dX10_readTenant_179 : decode cX10_readTenant 179 = .ok (.getfield 13, 3) := by decide +kernel
theorem dX10_readTenant_182 : decode cX10_readTenant 182 = .ok (.iload_n 2, 1) := by decide +kernel
theorem dX10_readTenant_183 : decode cX10_readTenant 183 = .ok (.iconst 0, 1) := by decide +kernel
theorem dX10_readTenant_184 : decode cX10_readTenant 184 = .ok (.invokestatic 100, 3) := by decide +kernel
theorem dX10_readTenant_187 : decode cX10_readTenant 187 = .ok (.iload_n 1, 1) := by decide +kernel
theorem dX10_readTenant_188 : decode cX10_readTenant 188 = .ok (.iastore, 1) := by decide +kernel
theorem dX10_readTenant_189 : decode cX10_readTenant 189 = .ok (.aload_n 0, 1) := by decide +kernel
theorem dX10_readTenant_190 : decode cX10_readTenant 190 = .ok (.getfield 13, 3) := by decide +kernel
theorem dX10_readTenant_193 : decode cX10_readTenant 193 = .ok (.iload_n 2, 1) := by decide +kernel
theorem dX10_readTenant_194 : decode cX10_readTenant 194 = .ok (.iconst 1, 1) := by decide +kernel
theorem dX10_readTenant_195 : decode cX10_readTenant 195 = .ok (.invokestatic 100, 3) := by decide +kernel
theorem dX10_readTenant_198 : decode cX10_readTenant 198 = .ok (.iconst (-1), 1) := by decide +kernel
theorem dX10_readTenant_199 : decode cX10_readTenant 199 = .ok (.iastore, 1) := by decide +kernel
theorem dX10_readTenant_200 : decode cX10_readTenant 200 = .ok (.aload_n 0, 1) := by decide +kernel
theorem dX10_readTenant_201 : decode cX10_readTenant 201 = .ok (.getfield 13, 3) := by decide +kernel
theorem dX10_readTenant_204 : decode cX10_readTenant 204 = .ok (.iload_n 2, 1) := by decide +kernel
theorem dX10_readTenant_205 : decode cX10_readTenant 205 = .ok (.iconst 2, 1) := by decide +kernel
theorem dX10_readTenant_206 : decode cX10_readTenant 206 = .ok (.invokestatic 100, 3) := by decide +kernel
theorem dX10_readTenant_209 : decode cX10_readTenant 209 = .ok (.iconst 0, 1) := by decide +kernel
theorem dX10_readTenant_210 : decode cX10_readTenant 210 = .ok (.iastore, 1) := by decide +kernel
theorem dX10_readTenant_211 : decode cX10_readTenant 211 = .ok (.aload_n 0, 1) := by decide +kernel
theorem dX10_readTenant_212 : decode cX10_readTenant 212 = .ok (.getfield 13, 3) := by decide +kernel
theorem dX10_readTenant_215 : decode cX10_readTenant 215 = .ok (.iconst 2, 1) := by decide +kernel
theorem dX10_readTenant_216 : decode cX10_readTenant 216 = .ok (.dup2, 1) := by decide +kernel
theorem dX10_readTenant_217 : decode cX10_readTenant 217 = .ok (.iaload, 1) := by decide +kernel
theorem dX10_readTenant_218 : decode cX10_readTenant 218 = .ok (.iconst 1, 1) := by decide +kernel
theorem dX10_readTenant_219 : decode cX10_readTenant 219 = .ok (.iadd, 1) := by decide +kernel
theorem dX10_readTenant_220 : decode cX10_readTenant 220 = .ok (.iastore, 1) := by decide +kernel
theorem dX10_readTenant_221 : decode cX10_readTenant 221 = .ok (.return_, 1) := by decide +kernel
def rm_X10_readTenant : Room := { frames := 5, cells := 0, slots := 0, locals := 103 }
def M_X10_readTenant_158 (k : Nat) (x1 : Int32) (S : Nat → Nat → Int32) : Option ((Nat → Nat → Int32)) := (M_X10_expect k S (59 : Int32)).bind fun q1 => if (q1 0 11) = 0 then ((if inb (2 : Int32) 1692 = true then lt ((q1 2) (2 : Int32).toNatClampNeg) fun v4 => (M_X10_tenantAt k v4 (0 : Int32)).bind fun q5 => (if inb q5 1692 = true then lt (va_up q1 2 (upd (q1 2) q5.toNatClampNeg x1)) fun F7 => (M_X10_tenantAt k v4 (1 : Int32)).bind fun q8 => (if inb q8 1692 = true then lt (va_up F7 2 (upd (F7 2) q8.toNatClampNeg (-1 : Int32))) fun F10 => (M_X10_tenantAt k v4 (2 : Int32)).bind fun q11 => (if inb q11 1692 = true then lt (va_up F10 2 (upd (F10 2) q11.toNatClampNeg (0 : Int32))) fun F13 => (if inb (2 : Int32) 1692 = true then (if inb (2 : Int32) 1692 = true then lt (va_up F13 2 (upd (F13 2) (2 : Int32).toNatClampNeg (((F13 2) (2 : Int32).toNatClampNeg) + (1 : Int32)))) fun F16 => some F16 else none) else none) else none) else none) else none) else none)) else (some q1)
set_option maxRecDepth 100000 in
set_option maxHeartbeats 4000000 in
theorem N_X10_readTenant_158 (C : CX E p l s m args meth c cX10_readTenant 3 RX10 none A) (a : Nat → Nat) (k : Nat) {post : va_W → Prop} :
    ∀ (x1 : Int32) (S : Nat → Nat → Int32) (q : (Nat → Nat → Int32)), M_X10_readTenant_158 k x1 S = some q → post (wMd E a q) →
      WW E p l e rm_X10_readTenant s m args below meth c A 0 0 (QV E below post args s rm_X10_readTenant A) (wMd E a S) 3 [some (.ref (a 0)), some (.int x1), none] 158 [] := by
  intro x1 S q  h hq
  unfold M_X10_readTenant_158 at h
  refine r_aload_n (pc := 158) C (i := 0) dX10_readTenant_158 rfl rfl ?_
  refine r_bipush (pc := 159) C (v := 59) dX10_readTenant_159 (by decide) ?_
  obtain ⟨q1, hq1, h⟩ := bnd h
  refine r_callV_CV (Cn := RX10) (pc := 161) C [.int (59 : Int32)] (c_X10_expect E l k a S (59 : Int32) hq1) [0, 1, 2, 3, 4, 5, 6, 7, 8, 9, 10, 11, 12] rfl (by decide) 0 rfl rfl rfl g_X10_419 hd_X10_expect ⟨Nat.le_of_ble_eq_true rfl, Nat.le_of_ble_eq_true rfl⟩ ⟨Nat.zero_le _, Nat.zero_le _⟩ (Nat.le_of_ble_eq_true rfl) rfl dX10_readTenant_161 (fun w1 hw1 => ?_)
  subst hw1
  refine ⟨(wMd E a q1), by rfl, ?_⟩
  refine r_aload_n (pc := 164) C (i := 0) dX10_readTenant_164 rfl rfl ?_
  refine r_get (pc := 165) C gwX10 0 rfl rfl 19 (by decide) wm_5_222 rfl dX10_readTenant_165 ?_
  refine r_if_ne (pc := 168) C (tgt := 221) dX10_readTenant_168 rfl (fun c2 => ?_) (fun c2 => ?_)
  · rw [if_neg c2] at h
    cases h
    exact r_vret (pc := 221) C hq (Nat.zero_le _) (Nat.zero_le _) dX10_readTenant_221
  · rw [if_pos c2] at h
    refine r_aload_n (pc := 171) C (i := 0) dX10_readTenant_171 rfl rfl ?_
    refine r_get (pc := 172) C gwX10 0 rfl rfl 1 (by decide) wm_5_204 rfl dX10_readTenant_172 ?_
    refine r_iconst (pc := 175) C (v := 2) dX10_readTenant_175 (by decide) ?_
    obtain ⟨hi3, h⟩ := ifn h
    refine r_iald (pc := 176) C 2 rfl hi3 dX10_readTenant_176 ?_
    obtain ⟨v4, hv4, h⟩ := lt_e h
    refine r_topi hv4 ?_
    refine r_istore_n (pc := 177) C (i := 2) dX10_readTenant_177 rfl (by decide) rfl ?_
    refine r_aload_n (pc := 178) C (i := 0) dX10_readTenant_178 rfl rfl ?_
    refine r_get (pc := 179) C gwX10 0 rfl rfl 1 (by decide) wm_5_204 rfl dX10_readTenant_179 ?_
    refine r_iload_n (pc := 182) C (i := 2) dX10_readTenant_182 rfl rfl ?_
    refine r_iconst (pc := 183) C (v := 0) dX10_readTenant_183 (by decide) ?_
    obtain ⟨q5, hq5, h⟩ := bnd h
    refine r_callSp_CI (pc := 184) C [.int v4, .int (0 : Int32)] (c_X10_tenantAt E l k v4 (0 : Int32) hq5) [] rfl (by decide) g_X10_100 hd_X10_tenantAt.2 ⟨Nat.le_of_ble_eq_true rfl, Nat.le_of_ble_eq_true rfl⟩ ⟨Nat.zero_le _, Nat.zero_le _⟩ (Nat.le_of_ble_eq_true rfl) rfl dX10_readTenant_184 (fun r hr => ?_)
    have hr := hr.symm
    subst hr
    refine r_iload_n (pc := 187) C (i := 1) dX10_readTenant_187 rfl rfl ?_
    obtain ⟨hi6, h⟩ := ifn h
    obtain ⟨F7, hF7, h⟩ := lt_e h
    refine r_iast (pc := 188) C 2 rfl hi6 (w' := (wMd E a F7)) (by rw [hF7]; rfl) dX10_readTenant_188 ?_
    refine r_aload_n (pc := 189) C (i := 0) dX10_readTenant_189 rfl rfl ?_
    refine r_get (pc := 190) C gwX10 0 rfl rfl 1 (by decide) wm_5_204 rfl dX10_readTenant_190 ?_
    refine r_iload_n (pc := 193) C (i := 2) dX10_readTenant_193 rfl rfl ?_
    refine r_iconst (pc := 194) C (v := 1) dX10_readTenant_194 (by decide) ?_
    obtain ⟨q8, hq8, h⟩ := bnd h
    refine r_callSp_CI (pc := 195) C [.int v4, .int (1 : Int32)] (c_X10_tenantAt E l k v4 (1 : Int32) hq8) [] rfl (by decide) g_X10_100 hd_X10_tenantAt.2 ⟨Nat.le_of_ble_eq_true rfl, Nat.le_of_ble_eq_true rfl⟩ ⟨Nat.zero_le _, Nat.zero_le _⟩ (Nat.le_of_ble_eq_true rfl) rfl dX10_readTenant_195 (fun r hr => ?_)
    have hr := hr.symm
    subst hr
    refine r_iconst (pc := 198) C (v := (-1)) dX10_readTenant_198 (by decide) ?_
    obtain ⟨hi9, h⟩ := ifn h
    obtain ⟨F10, hF10, h⟩ := lt_e h
    refine r_iast (pc := 199) C 2 rfl hi9 (w' := (wMd E a F10)) (by rw [hF10]; rfl) dX10_readTenant_199 ?_
    refine r_aload_n (pc := 200) C (i := 0) dX10_readTenant_200 rfl rfl ?_
    refine r_get (pc := 201) C gwX10 0 rfl rfl 1 (by decide) wm_5_204 rfl dX10_readTenant_201 ?_
    refine r_iload_n (pc := 204) C (i := 2) dX10_readTenant_204 rfl rfl ?_
    refine r_iconst (pc := 205) C (v := 2) dX10_readTenant_205 (by decide) ?_
    obtain ⟨q11, hq11, h⟩ := bnd h
    refine r_callSp_CI (pc := 206) C [.int v4, .int (2 : Int32)] (c_X10_tenantAt E l k v4 (2 : Int32) hq11) [] rfl (by decide) g_X10_100 hd_X10_tenantAt.2 ⟨Nat.le_of_ble_eq_true rfl, Nat.le_of_ble_eq_true rfl⟩ ⟨Nat.zero_le _, Nat.zero_le _⟩ (Nat.le_of_ble_eq_true rfl) rfl dX10_readTenant_206 (fun r hr => ?_)
    have hr := hr.symm
    subst hr
    refine r_iconst (pc := 209) C (v := 0) dX10_readTenant_209 (by decide) ?_
    obtain ⟨hi12, h⟩ := ifn h
    obtain ⟨F13, hF13, h⟩ := lt_e h
    refine r_iast (pc := 210) C 2 rfl hi12 (w' := (wMd E a F13)) (by rw [hF13]; rfl) dX10_readTenant_210 ?_
    refine r_aload_n (pc := 211) C (i := 0) dX10_readTenant_211 rfl rfl ?_
    refine r_get (pc := 212) C gwX10 0 rfl rfl 1 (by decide) wm_5_204 rfl dX10_readTenant_212 ?_
    refine r_iconst (pc := 215) C (v := 2) dX10_readTenant_215 (by decide) ?_
    refine r_dup2_11 (pc := 216) C dX10_readTenant_216 rfl rfl ?_
    obtain ⟨hi14, h⟩ := ifn h
    refine r_iald (pc := 217) C 2 rfl hi14 dX10_readTenant_217 ?_
    refine r_iconst (pc := 218) C (v := 1) dX10_readTenant_218 (by decide) ?_
    refine r_iadd (pc := 219) C dX10_readTenant_219 ?_
    obtain ⟨hi15, h⟩ := ifn h
    obtain ⟨F16, hF16, h⟩ := lt_e h
    refine r_iast (pc := 220) C 2 rfl hi15 (w' := (wMd E a F16)) (by rw [hF16]; rfl) dX10_readTenant_220 ?_
    cases h
    exact r_vret (pc := 221) C hq (Nat.zero_le _) (Nat.zero_le _) dX10_readTenant_221
def M_X10_readTenant_124 (k : Nat) (κ29 : Int32 → Int32 → (Nat → Nat → Int32) → Option ((Nat → Nat → Int32))) (x1 : Int32) (x2 : Int32) (y1 : Int32) (S : Nat → Nat → Int32) : Option ((Nat → Nat → Int32)) := (M_X10_check k S y1 (4 : Int32)).bind fun q17 => if (q17 0 11) = 0 then ((M_X10_value k q17).bind fun q21 => lt (x1 ||| ((1 : Int32) <<< (q21 &&& 31))) fun v22 => (M_X10_advance k q17).bind fun q23 => κ29 v22 (x2 + 1) q23) else (lt (x1 ||| (0 : Int32)) fun v19 => (M_X10_advance k q17).bind fun q20 => κ29 v19 (x2 + 1) q20)
set_option maxRecDepth 100000 in
set_option maxHeartbeats 4000000 in
theorem N_X10_readTenant_124 (C : CX E p l s m args meth c cX10_readTenant 3 RX10 none A) (a : Nat → Nat) (k : Nat) {post : va_W → Prop} (κ29 : Int32 → Int32 → (Nat → Nat → Int32) → Option ((Nat → Nat → Int32))) (hκ29 : ∀ (x1 : Int32) (x2 : Int32) (S : Nat → Nat → Int32) (q : (Nat → Nat → Int32)), κ29 x1 x2 S = some q → post (wMd E a q) → WW E p l e rm_X10_readTenant s m args below meth c A 0 0 (QV E below post args s rm_X10_readTenant A) (wMd E a S) 3 [some (.ref (a 0)), some (.int x1), some (.int x2)] 29 []) :
    ∀ (x1 : Int32) (x2 : Int32) (y1 : Int32) (S : Nat → Nat → Int32) (q : (Nat → Nat → Int32)), M_X10_readTenant_124 k κ29 x1 x2 y1 S = some q → post (wMd E a q) →
      WW E p l e rm_X10_readTenant s m args below meth c A 0 0 (QV E below post args s rm_X10_readTenant A) (wMd E a S) 3 [some (.ref (a 0)), some (.int x1), some (.int x2)] 124 [.int y1, .ref (a 0)] := by
  intro x1 x2 y1 S q  h hq
  unfold M_X10_readTenant_124 at h
  refine r_iconst (pc := 124) C (v := 4) dX10_readTenant_124 (by decide) ?_
  obtain ⟨q17, hq17, h⟩ := bnd h
  refine r_callV_CV (Cn := RX10) (pc := 125) C [.int y1, .int (4 : Int32)] (c_X10_check E l k a S y1 (4 : Int32) hq17) [0, 1, 2, 3, 4, 5, 6, 7, 8, 9, 10, 11, 12] rfl (by decide) 0 rfl rfl rfl g_X10_394 hd_X10_check ⟨Nat.le_of_ble_eq_true rfl, Nat.le_of_ble_eq_true rfl⟩ ⟨Nat.zero_le _, Nat.zero_le _⟩ (Nat.le_of_ble_eq_true rfl) rfl dX10_readTenant_125 (fun w1 hw1 => ?_)
  subst hw1
  refine ⟨(wMd E a q17), by rfl, ?_⟩
  refine r_iload_n (pc := 128) C (i := 1) dX10_readTenant_128 rfl rfl ?_
  refine r_aload_n (pc := 129) C (i := 0) dX10_readTenant_129 rfl rfl ?_
  refine r_get (pc := 130) C gwX10 0 rfl rfl 19 (by decide) wm_5_222 rfl dX10_readTenant_130 ?_
  refine r_if_ne (pc := 133) C (tgt := 145) dX10_readTenant_133 rfl (fun c18 => ?_) (fun c18 => ?_)
  · rw [if_neg c18] at h
    refine r_iconst (pc := 145) C (v := 0) dX10_readTenant_145 (by decide) ?_
    refine r_ior (pc := 146) C dX10_readTenant_146 ?_
    obtain ⟨v19, hv19, h⟩ := lt_e h
    refine r_topi hv19 ?_
    refine r_istore_n (pc := 147) C (i := 1) dX10_readTenant_147 rfl (by decide) rfl ?_
    refine r_aload_n (pc := 148) C (i := 0) dX10_readTenant_148 rfl rfl ?_
    obtain ⟨q20, hq20, h⟩ := bnd h
    refine r_callV_CV (Cn := RX10) (pc := 149) C [] (c_X10_advance E l k a q17 hq20) [0, 1, 2, 3, 4, 5, 6, 7, 8, 9, 10, 11, 12] rfl (by decide) 0 rfl rfl rfl g_X10_398 hd_X10_advance ⟨Nat.le_of_ble_eq_true rfl, Nat.le_of_ble_eq_true rfl⟩ ⟨Nat.zero_le _, Nat.zero_le _⟩ (Nat.le_of_ble_eq_true rfl) rfl dX10_readTenant_149 (fun w1 hw1 => ?_)
    subst hw1
    refine ⟨(wMd E a q20), by rfl, ?_⟩
    refine r_iinc (pc := 152) C (v := (x2 + 1)) dX10_readTenant_152 rfl rfl (by decide) rfl ?_
    refine r_goto (pc := 155) C (tgt := 29) dX10_readTenant_155 rfl ?_
    refine r_weak (lSub_s (lSub_s (lSub_s lSub_e))) ?_
    exact hκ29 v19 (x2 + 1) q20 q  h hq
  · rw [if_pos c18] at h
    refine r_iconst (pc := 136) C (v := 1) dX10_readTenant_136 (by decide) ?_
    refine r_aload_n (pc := 137) C (i := 0) dX10_readTenant_137 rfl rfl ?_
    obtain ⟨q21, hq21, h⟩ := bnd h
    refine r_callVp_CI (Cn := RX10) (pc := 138) C [] (c_X10_value E l k a q17 hq21) [0, 1, 2, 3, 4, 5, 6, 7, 8, 9, 10, 11, 12] rfl (by decide) 0 rfl rfl rfl g_X10_413 hd_X10_value ⟨Nat.le_of_ble_eq_true rfl, Nat.le_of_ble_eq_true rfl⟩ ⟨Nat.zero_le _, Nat.zero_le _⟩ (Nat.le_of_ble_eq_true rfl) rfl dX10_readTenant_138 (fun r hr => ?_)
    have hr := hr.symm
    subst hr
    refine r_ishl (pc := 141) C dX10_readTenant_141 ?_
    refine r_goto (pc := 142) C (tgt := 146) dX10_readTenant_142 rfl ?_
    refine r_ior (pc := 146) C dX10_readTenant_146 ?_
    obtain ⟨v22, hv22, h⟩ := lt_e h
    refine r_topi hv22 ?_
    refine r_istore_n (pc := 147) C (i := 1) dX10_readTenant_147 rfl (by decide) rfl ?_
    refine r_aload_n (pc := 148) C (i := 0) dX10_readTenant_148 rfl rfl ?_
    obtain ⟨q23, hq23, h⟩ := bnd h
    refine r_callV_CV (Cn := RX10) (pc := 149) C [] (c_X10_advance E l k a q17 hq23) [0, 1, 2, 3, 4, 5, 6, 7, 8, 9, 10, 11, 12] rfl (by decide) 0 rfl rfl rfl g_X10_398 hd_X10_advance ⟨Nat.le_of_ble_eq_true rfl, Nat.le_of_ble_eq_true rfl⟩ ⟨Nat.zero_le _, Nat.zero_le _⟩ (Nat.le_of_ble_eq_true rfl) rfl dX10_readTenant_149 (fun w1 hw1 => ?_)
    subst hw1
    refine ⟨(wMd E a q23), by rfl, ?_⟩
    refine r_iinc (pc := 152) C (v := (x2 + 1)) dX10_readTenant_152 rfl rfl (by decide) rfl ?_
    refine r_goto (pc := 155) C (tgt := 29) dX10_readTenant_155 rfl ?_
    refine r_weak (lSub_s (lSub_s (lSub_s lSub_e))) ?_
    exact hκ29 v22 (x2 + 1) q23 q  h hq
def M_X10_readTenant_96 (k : Nat) (κ29 : Int32 → Int32 → (Nat → Nat → Int32) → Option ((Nat → Nat → Int32))) (x1 : Int32) (x2 : Int32) (y1 : Int32) (S : Nat → Nat → Int32) : Option ((Nat → Nat → Int32)) := (M_X10_check k S y1 (2 : Int32)).bind fun q24 => if (q24 0 11) = 0 then ((M_X10_value k q24).bind fun q26 => (M_X10_has k x1 q26).bind fun q27 => if q27 = 0 then (M_X10_readTenant_124 k κ29 x1 x2 (1 : Int32) q24) else (M_X10_readTenant_124 k κ29 x1 x2 (0 : Int32) q24)) else (M_X10_readTenant_124 k κ29 x1 x2 (1 : Int32) q24)
set_option maxRecDepth 100000 in
set_option maxHeartbeats 4000000 in
theorem N_X10_readTenant_96 (C : CX E p l s m args meth c cX10_readTenant 3 RX10 none A) (a : Nat → Nat) (k : Nat) {post : va_W → Prop} (κ29 : Int32 → Int32 → (Nat → Nat → Int32) → Option ((Nat → Nat → Int32))) (hκ29 : ∀ (x1 : Int32) (x2 : Int32) (S : Nat → Nat → Int32) (q : (Nat → Nat → Int32)), κ29 x1 x2 S = some q → post (wMd E a q) → WW E p l e rm_X10_readTenant s m args below meth c A 0 0 (QV E below post args s rm_X10_readTenant A) (wMd E a S) 3 [some (.ref (a 0)), some (.int x1), some (.int x2)] 29 []) :
    ∀ (x1 : Int32) (x2 : Int32) (y1 : Int32) (S : Nat → Nat → Int32) (q : (Nat → Nat → Int32)), M_X10_readTenant_96 k κ29 x1 x2 y1 S = some q → post (wMd E a q) →
      WW E p l e rm_X10_readTenant s m args below meth c A 0 0 (QV E below post args s rm_X10_readTenant A) (wMd E a S) 3 [some (.ref (a 0)), some (.int x1), some (.int x2)] 96 [.int y1, .ref (a 0)] := by
  intro x1 x2 y1 S q  h hq
  unfold M_X10_readTenant_96 at h
  refine r_iconst (pc := 96) C (v := 2) dX10_readTenant_96 (by decide) ?_
  obtain ⟨q24, hq24, h⟩ := bnd h
  refine r_callV_CV (Cn := RX10) (pc := 97) C [.int y1, .int (2 : Int32)] (c_X10_check E l k a S y1 (2 : Int32) hq24) [0, 1, 2, 3, 4, 5, 6, 7, 8, 9, 10, 11, 12] rfl (by decide) 0 rfl rfl rfl g_X10_394 hd_X10_check ⟨Nat.le_of_ble_eq_true rfl, Nat.le_of_ble_eq_true rfl⟩ ⟨Nat.zero_le _, Nat.zero_le _⟩ (Nat.le_of_ble_eq_true rfl) rfl dX10_readTenant_97 (fun w1 hw1 => ?_)
  subst hw1
  refine ⟨(wMd E a q24), by rfl, ?_⟩
  refine r_aload_n (pc := 100) C (i := 0) dX10_readTenant_100 rfl rfl ?_
  refine r_aload_n (pc := 101) C (i := 0) dX10_readTenant_101 rfl rfl ?_
  refine r_get (pc := 102) C gwX10 0 rfl rfl 19 (by decide) wm_5_222 rfl dX10_readTenant_102 ?_
  refine r_if_ne (pc := 105) C (tgt := 119) dX10_readTenant_105 rfl (fun c25 => ?_) (fun c25 => ?_)
  · rw [if_neg c25] at h
    refine r_iconst (pc := 119) C (v := 1) dX10_readTenant_119 (by decide) ?_
    refine r_goto (pc := 120) C (tgt := 124) dX10_readTenant_120 rfl ?_
    refine r_weak (lSub_s (lSub_s (lSub_s lSub_e))) ?_
    exact N_X10_readTenant_124 C a k κ29 hκ29 x1 x2 (1 : Int32) q24 q  h hq
  · rw [if_pos c25] at h
    refine r_iload_n (pc := 108) C (i := 1) dX10_readTenant_108 rfl rfl ?_
    refine r_aload_n (pc := 109) C (i := 0) dX10_readTenant_109 rfl rfl ?_
    obtain ⟨q26, hq26, h⟩ := bnd h
    refine r_callVp_CI (Cn := RX10) (pc := 110) C [] (c_X10_value E l k a q24 hq26) [0, 1, 2, 3, 4, 5, 6, 7, 8, 9, 10, 11, 12] rfl (by decide) 0 rfl rfl rfl g_X10_413 hd_X10_value ⟨Nat.le_of_ble_eq_true rfl, Nat.le_of_ble_eq_true rfl⟩ ⟨Nat.zero_le _, Nat.zero_le _⟩ (Nat.le_of_ble_eq_true rfl) rfl dX10_readTenant_110 (fun r hr => ?_)
    have hr := hr.symm
    subst hr
    obtain ⟨q27, hq27, h⟩ := bnd h
    refine r_callSp_CI (pc := 113) C [.int x1, .int q26] (c_X10_has E l k x1 q26 hq27) [] rfl (by decide) g_X10_133 hd_X10_has.2 ⟨Nat.le_of_ble_eq_true rfl, Nat.le_of_ble_eq_true rfl⟩ ⟨Nat.zero_le _, Nat.zero_le _⟩ (Nat.le_of_ble_eq_true rfl) rfl dX10_readTenant_113 (fun r hr => ?_)
    have hr := hr.symm
    subst hr
    refine r_if_ne (pc := 116) C (tgt := 123) dX10_readTenant_116 rfl (fun c28 => ?_) (fun c28 => ?_)
    · rw [if_neg c28] at h
      refine r_iconst (pc := 123) C (v := 0) dX10_readTenant_123 (by decide) ?_
      refine r_weak (lSub_s (lSub_s (lSub_s lSub_e))) ?_
      exact N_X10_readTenant_124 C a k κ29 hκ29 x1 x2 (0 : Int32) q24 q  h hq
    · rw [if_pos c28] at h
      refine r_iconst (pc := 119) C (v := 1) dX10_readTenant_119 (by decide) ?_
      refine r_goto (pc := 120) C (tgt := 124) dX10_readTenant_120 rfl ?_
      refine r_weak (lSub_s (lSub_s (lSub_s lSub_e))) ?_
      exact N_X10_readTenant_124 C a k κ29 hκ29 x1 x2 (1 : Int32) q24 q  h hq
def M_X10_readTenant_60 (k : Nat) (κ29 : Int32 → Int32 → (Nat → Nat → Int32) → Option ((Nat → Nat → Int32))) (x1 : Int32) (x2 : Int32) (y1 : Int32) (S : Nat → Nat → Int32) : Option ((Nat → Nat → Int32)) := (M_X10_check k S y1 (1 : Int32)).bind fun q29 => if (q29 0 11) = 0 then ((M_X10_value k q29).bind fun q31 => (if inb (0 : Int32) 1692 = true then (M_X10_inRange k q31 (0 : Int32) (((q29 2) (0 : Int32).toNatClampNeg) - (1 : Int32))).bind fun q33 => if q33 = 0 then (M_X10_readTenant_96 k κ29 x1 x2 (0 : Int32) q29) else (M_X10_readTenant_96 k κ29 x1 x2 (1 : Int32) q29) else none)) else (M_X10_readTenant_96 k κ29 x1 x2 (1 : Int32) q29)
set_option maxRecDepth 100000 in
set_option maxHeartbeats 4000000 in
theorem N_X10_readTenant_60 (C : CX E p l s m args meth c cX10_readTenant 3 RX10 none A) (a : Nat → Nat) (k : Nat) {post : va_W → Prop} (κ29 : Int32 → Int32 → (Nat → Nat → Int32) → Option ((Nat → Nat → Int32))) (hκ29 : ∀ (x1 : Int32) (x2 : Int32) (S : Nat → Nat → Int32) (q : (Nat → Nat → Int32)), κ29 x1 x2 S = some q → post (wMd E a q) → WW E p l e rm_X10_readTenant s m args below meth c A 0 0 (QV E below post args s rm_X10_readTenant A) (wMd E a S) 3 [some (.ref (a 0)), some (.int x1), some (.int x2)] 29 []) :
    ∀ (x1 : Int32) (x2 : Int32) (y1 : Int32) (S : Nat → Nat → Int32) (q : (Nat → Nat → Int32)), M_X10_readTenant_60 k κ29 x1 x2 y1 S = some q → post (wMd E a q) →
      WW E p l e rm_X10_readTenant s m args below meth c A 0 0 (QV E below post args s rm_X10_readTenant A) (wMd E a S) 3 [some (.ref (a 0)), some (.int x1), some (.int x2)] 60 [.int y1, .ref (a 0)] := by
  intro x1 x2 y1 S q  h hq
  unfold M_X10_readTenant_60 at h
  refine r_iconst (pc := 60) C (v := 1) dX10_readTenant_60 (by decide) ?_
  obtain ⟨q29, hq29, h⟩ := bnd h
  refine r_callV_CV (Cn := RX10) (pc := 61) C [.int y1, .int (1 : Int32)] (c_X10_check E l k a S y1 (1 : Int32) hq29) [0, 1, 2, 3, 4, 5, 6, 7, 8, 9, 10, 11, 12] rfl (by decide) 0 rfl rfl rfl g_X10_394 hd_X10_check ⟨Nat.le_of_ble_eq_true rfl, Nat.le_of_ble_eq_true rfl⟩ ⟨Nat.zero_le _, Nat.zero_le _⟩ (Nat.le_of_ble_eq_true rfl) rfl dX10_readTenant_61 (fun w1 hw1 => ?_)
  subst hw1
  refine ⟨(wMd E a q29), by rfl, ?_⟩
  refine r_aload_n (pc := 64) C (i := 0) dX10_readTenant_64 rfl rfl ?_
  refine r_aload_n (pc := 65) C (i := 0) dX10_readTenant_65 rfl rfl ?_
  refine r_get (pc := 66) C gwX10 0 rfl rfl 19 (by decide) wm_5_222 rfl dX10_readTenant_66 ?_
  refine r_if_ne (pc := 69) C (tgt := 91) dX10_readTenant_69 rfl (fun c30 => ?_) (fun c30 => ?_)
  · rw [if_neg c30] at h
    refine r_iconst (pc := 91) C (v := 1) dX10_readTenant_91 (by decide) ?_
    refine r_goto (pc := 92) C (tgt := 96) dX10_readTenant_92 rfl ?_
    refine r_weak (lSub_s (lSub_s (lSub_s lSub_e))) ?_
    exact N_X10_readTenant_96 C a k κ29 hκ29 x1 x2 (1 : Int32) q29 q  h hq
  · rw [if_pos c30] at h
    refine r_aload_n (pc := 72) C (i := 0) dX10_readTenant_72 rfl rfl ?_
    obtain ⟨q31, hq31, h⟩ := bnd h
    refine r_callVp_CI (Cn := RX10) (pc := 73) C [] (c_X10_value E l k a q29 hq31) [0, 1, 2, 3, 4, 5, 6, 7, 8, 9, 10, 11, 12] rfl (by decide) 0 rfl rfl rfl g_X10_413 hd_X10_value ⟨Nat.le_of_ble_eq_true rfl, Nat.le_of_ble_eq_true rfl⟩ ⟨Nat.zero_le _, Nat.zero_le _⟩ (Nat.le_of_ble_eq_true rfl) rfl dX10_readTenant_73 (fun r hr => ?_)
    have hr := hr.symm
    subst hr
    refine r_iconst (pc := 76) C (v := 0) dX10_readTenant_76 (by decide) ?_
    refine r_aload_n (pc := 77) C (i := 0) dX10_readTenant_77 rfl rfl ?_
    refine r_get (pc := 78) C gwX10 0 rfl rfl 1 (by decide) wm_5_204 rfl dX10_readTenant_78 ?_
    refine r_iconst (pc := 81) C (v := 0) dX10_readTenant_81 (by decide) ?_
    obtain ⟨hi32, h⟩ := ifn h
    refine r_iald (pc := 82) C 2 rfl hi32 dX10_readTenant_82 ?_
    refine r_iconst (pc := 83) C (v := 1) dX10_readTenant_83 (by decide) ?_
    refine r_isub (pc := 84) C dX10_readTenant_84 ?_
    obtain ⟨q33, hq33, h⟩ := bnd h
    refine r_callSp_CI (pc := 85) C [.int q31, .int (0 : Int32), .int (((q29 2) (0 : Int32).toNatClampNeg) - (1 : Int32))] (c_X10_inRange E l k q31 (0 : Int32) (((q29 2) (0 : Int32).toNatClampNeg) - (1 : Int32)) hq33) [] rfl (by decide) g_X10_110 hd_X10_inRange.2 ⟨Nat.le_of_ble_eq_true rfl, Nat.le_of_ble_eq_true rfl⟩ ⟨Nat.zero_le _, Nat.zero_le _⟩ (Nat.le_of_ble_eq_true rfl) rfl dX10_readTenant_85 (fun r hr => ?_)
    have hr := hr.symm
    subst hr
    refine r_if_eq (pc := 88) C (tgt := 95) dX10_readTenant_88 rfl (fun c34 => ?_) (fun c34 => ?_)
    · rw [if_pos c34] at h
      refine r_iconst (pc := 95) C (v := 0) dX10_readTenant_95 (by decide) ?_
      refine r_weak (lSub_s (lSub_s (lSub_s lSub_e))) ?_
      exact N_X10_readTenant_96 C a k κ29 hκ29 x1 x2 (0 : Int32) q29 q  h hq
    · rw [if_neg c34] at h
      refine r_iconst (pc := 91) C (v := 1) dX10_readTenant_91 (by decide) ?_
      refine r_goto (pc := 92) C (tgt := 96) dX10_readTenant_92 rfl ?_
      refine r_weak (lSub_s (lSub_s (lSub_s lSub_e))) ?_
      exact N_X10_readTenant_96 C a k κ29 hκ29 x1 x2 (1 : Int32) q29 q  h hq
def M_X10_readTenant_29 (k : Nat) : Nat → (Int32) → (Int32) → (Nat → Nat → Int32) → Option ((Nat → Nat → Int32))
  | 0, _, _, _ => none
  | n + 1, x1, x2, S => (if inb (1 : Int32) 1692 = true then if ((S 2) (1 : Int32).toNatClampNeg) ≤ x2 then (M_X10_readTenant_158 k x1 S) else (if (S 0 11) = 0 then (if (S 0 10) = (2 : Int32) then (M_X10_readTenant_60 k (M_X10_readTenant_29 k n) x1 x2 (1 : Int32) S) else (M_X10_readTenant_60 k (M_X10_readTenant_29 k n) x1 x2 (0 : Int32) S)) else (M_X10_readTenant_158 k x1 S)) else none)
theorem M_X10_readTenant_29_s (k : Nat) (n : Nat) (x1 : Int32) (x2 : Int32) (S : Nat → Nat → Int32) : M_X10_readTenant_29 k (n + 1) x1 x2 S = ((if inb (1 : Int32) 1692 = true then if ((S 2) (1 : Int32).toNatClampNeg) ≤ x2 then (M_X10_readTenant_158 k x1 S) else (if (S 0 11) = 0 then (if (S 0 10) = (2 : Int32) then (M_X10_readTenant_60 k (M_X10_readTenant_29 k n) x1 x2 (1 : Int32) S) else (M_X10_readTenant_60 k (M_X10_readTenant_29 k n) x1 x2 (0 : Int32) S)) else (M_X10_readTenant_158 k x1 S)) else none)) := rfl
set_option maxRecDepth 100000 in
set_option maxHeartbeats 4000000 in
theorem N_X10_readTenant_29 (C : CX E p l s m args meth c cX10_readTenant 3 RX10 none A) (a : Nat → Nat) (k : Nat) {post : va_W → Prop} :
    ∀ (n : Nat) (x1 : Int32) (x2 : Int32) (S : Nat → Nat → Int32) (q : (Nat → Nat → Int32)), M_X10_readTenant_29 k n x1 x2 S = some q → post (wMd E a q) →
      WW E p l e rm_X10_readTenant s m args below meth c A 0 0 (QV E below post args s rm_X10_readTenant A) (wMd E a S) 3 [some (.ref (a 0)), some (.int x1), some (.int x2)] 29 [] := by
  intro n
  induction n with
  | zero => intro x1 x2 S q  h _; cases h
  | succ n ih =>
    intro x1 x2 S q  h hq
    rw [M_X10_readTenant_29_s] at h
    refine r_iload_n (pc := 29) C (i := 2) dX10_readTenant_29 rfl rfl ?_
    refine r_aload_n (pc := 30) C (i := 0) dX10_readTenant_30 rfl rfl ?_
    refine r_get (pc := 31) C gwX10 0 rfl rfl 1 (by decide) wm_5_204 rfl dX10_readTenant_31 ?_
    refine r_iconst (pc := 34) C (v := 1) dX10_readTenant_34 (by decide) ?_
    obtain ⟨hi35, h⟩ := ifn h
    refine r_iald (pc := 35) C 2 rfl hi35 dX10_readTenant_35 ?_
    refine r_icmp_ge (pc := 36) C (tgt := 158) dX10_readTenant_36 rfl (fun c36 => ?_) (fun c36 => ?_)
    · rw [if_pos c36] at h
      refine r_weak (lSub_s (lSub_s (lSub_n lSub_e))) ?_
      exact N_X10_readTenant_158 C a k x1 S q  h hq
    · rw [if_neg c36] at h
      refine r_aload_n (pc := 39) C (i := 0) dX10_readTenant_39 rfl rfl ?_
      refine r_get (pc := 40) C gwX10 0 rfl rfl 19 (by decide) wm_5_222 rfl dX10_readTenant_40 ?_
      refine r_if_ne (pc := 43) C (tgt := 158) dX10_readTenant_43 rfl (fun c37 => ?_) (fun c37 => ?_)
      · rw [if_neg c37] at h
        refine r_weak (lSub_s (lSub_s (lSub_n lSub_e))) ?_
        exact N_X10_readTenant_158 C a k x1 S q  h hq
      · rw [if_pos c37] at h
        refine r_aload_n (pc := 46) C (i := 0) dX10_readTenant_46 rfl rfl ?_
        refine r_aload_n (pc := 47) C (i := 0) dX10_readTenant_47 rfl rfl ?_
        refine r_get (pc := 48) C gwX10 0 rfl rfl 18 (by decide) wm_5_221 rfl dX10_readTenant_48 ?_
        refine r_iconst (pc := 51) C (v := 2) dX10_readTenant_51 (by decide) ?_
        refine r_icmp_ne (pc := 52) C (tgt := 59) dX10_readTenant_52 rfl (fun c38 => ?_) (fun c38 => ?_)
        · rw [if_neg c38] at h
          refine r_iconst (pc := 59) C (v := 0) dX10_readTenant_59 (by decide) ?_
          refine r_weak (lSub_s (lSub_s (lSub_s lSub_e))) ?_
          exact N_X10_readTenant_60 C a k (M_X10_readTenant_29 k n) ih x1 x2 (0 : Int32) S q  h hq
        · rw [if_pos c38] at h
          refine r_iconst (pc := 55) C (v := 1) dX10_readTenant_55 (by decide) ?_
          refine r_goto (pc := 56) C (tgt := 60) dX10_readTenant_56 rfl ?_
          refine r_weak (lSub_s (lSub_s (lSub_s lSub_e))) ?_
          exact N_X10_readTenant_60 C a k (M_X10_readTenant_29 k n) ih x1 x2 (1 : Int32) S q  h hq
def M_X10_readTenant_17 (k : Nat) (y1 : Int32) (S : Nat → Nat → Int32) : Option ((Nat → Nat → Int32)) := (M_X10_check k S y1 (3 : Int32)).bind fun q39 => (M_X10_advance k q39).bind fun q40 => M_X10_readTenant_29 k k (0 : Int32) (0 : Int32) q40
set_option maxRecDepth 100000 in
set_option maxHeartbeats 4000000 in
theorem N_X10_readTenant_17 (C : CX E p l s m args meth c cX10_readTenant 3 RX10 none A) (a : Nat → Nat) (k : Nat) {post : va_W → Prop} :
    ∀ (y1 : Int32) (S : Nat → Nat → Int32) (q : (Nat → Nat → Int32)), M_X10_readTenant_17 k y1 S = some q → post (wMd E a q) →
      WW E p l e rm_X10_readTenant s m args below meth c A 0 0 (QV E below post args s rm_X10_readTenant A) (wMd E a S) 3 [some (.ref (a 0)), none, none] 17 [.int y1, .ref (a 0)] := by
  intro y1 S q  h hq
  unfold M_X10_readTenant_17 at h
  refine r_iconst (pc := 17) C (v := 3) dX10_readTenant_17 (by decide) ?_
  obtain ⟨q39, hq39, h⟩ := bnd h
  refine r_callV_CV (Cn := RX10) (pc := 18) C [.int y1, .int (3 : Int32)] (c_X10_check E l k a S y1 (3 : Int32) hq39) [0, 1, 2, 3, 4, 5, 6, 7, 8, 9, 10, 11, 12] rfl (by decide) 0 rfl rfl rfl g_X10_394 hd_X10_check ⟨Nat.le_of_ble_eq_true rfl, Nat.le_of_ble_eq_true rfl⟩ ⟨Nat.zero_le _, Nat.zero_le _⟩ (Nat.le_of_ble_eq_true rfl) rfl dX10_readTenant_18 (fun w1 hw1 => ?_)
  subst hw1
  refine ⟨(wMd E a q39), by rfl, ?_⟩
  refine r_aload_n (pc := 21) C (i := 0) dX10_readTenant_21 rfl rfl ?_
  obtain ⟨q40, hq40, h⟩ := bnd h
  refine r_callV_CV (Cn := RX10) (pc := 22) C [] (c_X10_advance E l k a q39 hq40) [0, 1, 2, 3, 4, 5, 6, 7, 8, 9, 10, 11, 12] rfl (by decide) 0 rfl rfl rfl g_X10_398 hd_X10_advance ⟨Nat.le_of_ble_eq_true rfl, Nat.le_of_ble_eq_true rfl⟩ ⟨Nat.zero_le _, Nat.zero_le _⟩ (Nat.le_of_ble_eq_true rfl) rfl dX10_readTenant_22 (fun w1 hw1 => ?_)
  subst hw1
  refine ⟨(wMd E a q40), by rfl, ?_⟩
  refine r_iconst (pc := 25) C (v := 0) dX10_readTenant_25 (by decide) ?_
  refine r_istore_n (pc := 26) C (i := 1) dX10_readTenant_26 rfl (by decide) rfl ?_
  refine r_iconst (pc := 27) C (v := 0) dX10_readTenant_27 (by decide) ?_
  refine r_istore_n (pc := 28) C (i := 2) dX10_readTenant_28 rfl (by decide) rfl ?_
  refine r_weak (lSub_s (lSub_s (lSub_s lSub_e))) ?_
  exact N_X10_readTenant_29 C a k k (0 : Int32) (0 : Int32) q40 q  h hq
def M_X10_readTenant_0 (k : Nat) (S : Nat → Nat → Int32) : Option ((Nat → Nat → Int32)) := (if inb (2 : Int32) 1692 = true then if (12 : Int32) ≤ ((S 2) (2 : Int32).toNatClampNeg) then (M_X10_readTenant_17 k (0 : Int32) S) else (M_X10_readTenant_17 k (1 : Int32) S) else none)
set_option maxRecDepth 100000 in
set_option maxHeartbeats 4000000 in
theorem N_X10_readTenant_0 (C : CX E p l s m args meth c cX10_readTenant 3 RX10 none A) (a : Nat → Nat) (k : Nat) {post : va_W → Prop} :
    ∀ (S : Nat → Nat → Int32) (q : (Nat → Nat → Int32)), M_X10_readTenant_0 k S = some q → post (wMd E a q) →
      WW E p l e rm_X10_readTenant s m args below meth c A 0 0 (QV E below post args s rm_X10_readTenant A) (wMd E a S) 3 [some (.ref (a 0)), none, none] 0 [] := by
  intro S q  h hq
  unfold M_X10_readTenant_0 at h
  refine r_aload_n (pc := 0) C (i := 0) dX10_readTenant_0 rfl rfl ?_
  refine r_aload_n (pc := 1) C (i := 0) dX10_readTenant_1 rfl rfl ?_
  refine r_get (pc := 2) C gwX10 0 rfl rfl 1 (by decide) wm_5_204 rfl dX10_readTenant_2 ?_
  refine r_iconst (pc := 5) C (v := 2) dX10_readTenant_5 (by decide) ?_
  obtain ⟨hi41, h⟩ := ifn h
  refine r_iald (pc := 6) C 2 rfl hi41 dX10_readTenant_6 ?_
  refine r_bipush (pc := 7) C (v := 12) dX10_readTenant_7 (by decide) ?_
  refine r_icmp_ge (pc := 9) C (tgt := 16) dX10_readTenant_9 rfl (fun c42 => ?_) (fun c42 => ?_)
  · rw [if_pos c42] at h
    refine r_iconst (pc := 16) C (v := 0) dX10_readTenant_16 (by decide) ?_
    refine r_weak (lSub_s (lSub_n (lSub_n lSub_e))) ?_
    exact N_X10_readTenant_17 C a k (0 : Int32) S q  h hq
  · rw [if_neg c42] at h
    refine r_iconst (pc := 12) C (v := 1) dX10_readTenant_12 (by decide) ?_
    refine r_goto (pc := 13) C (tgt := 17) dX10_readTenant_13 rfl ?_
    refine r_weak (lSub_s (lSub_n (lSub_n lSub_e))) ?_
    exact N_X10_readTenant_17 C a k (1 : Int32) S q  h hq
def M_X10_readTenant (k : Nat) (S : Nat → Nat → Int32) : Option ((Nat → Nat → Int32)) := M_X10_readTenant_0 k S
set_option maxRecDepth 100000 in
set_option maxHeartbeats 4000000 in
theorem c_X10_readTenant (E : ENV) (l : Launch) (k : Nat) (a : Nat → Nat) (S : Nat → Nat → Int32) {q : (Nat → Nat → Int32)} (hm : M_X10_readTenant k S = some q) : CV E l yX10_readTenant cX10_readTenant 3 none rm_X10_readTenant [.ref (a 0)] (wMd E a S) (fun w' => w' = (wMd E a q)) :=
  CV.of 2 (by decide) (Nat.le_of_ble_eq_true rfl) (fun p e s m below meth c A C _ => r_weak (lSub_s (lSub_n (lSub_n lSub_e))) (N_X10_readTenant_0 C a k S q  hm rfl))
end WALKS
