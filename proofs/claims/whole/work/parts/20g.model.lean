section WALKS
variable {E : ENV} {p : Program} {l : Launch} {e : Env} {s : State} {m : MethodId} {args : Array Value} {below : List Frame} {meth : Method} {c : Code} {A : Nat → Prop}
theorem hd_X10_refuseAll : yX10_refuseAll.cls = RX10 ∧ yX10_refuseAll.cls ≠ "java/lang/invoke/MethodHandle" ∧ yX10_refuseAll.cls ≠ "java/lang/invoke/VarHandle" ∧ (parseMethodDescriptor yX10_refuseAll.desc).map (fun d => d.parameters.length) = some 1 := by decide +kernel
theorem g_X10_184 : GoodIn GW (wsV RX10 184 RX10 yX10_refuseAll (wsG yX10_refuseAll cX10_refuseAll 3 none)) := gw_V wm_7_103 wm_7_105 wm_0_72 wm_1_9 wm_7_106
-- ShardGuardModel.shut(I)V
theorem dX10_shut_0 : decode cX10_shut 0 = .ok (.aload_n 0, 1) := by decide +kernel
theorem dX10_shut_1 : decode cX10_shut 1 = .ok (.getfield 25, 3) := by decide +kernel
theorem dX10_shut_4 : decode cX10_shut 4 = .ok (.iload_n 1, 1) := by decide +kernel
theorem dX10_shut_5 : decode cX10_shut 5 = .ok (.iconst 1, 1) := by decide +kernel
theorem dX10_shut_6 : decode cX10_shut 6 = .ok (.invokestatic 100, 3) := by decide +kernel
theorem dX10_shut_9 : decode cX10_shut 9 = .ok (.aload_n 0, 1) := by decide +kernel
theorem dX10_shut_10 : decode cX10_shut 10 = .ok (.getfield 25, 3) := by decide +kernel
theorem dX10_shut_13 : decode cX10_shut 13 = .ok (.iconst 4, 1) := by decide +kernel
theorem dX10_shut_14 : decode cX10_shut 14 = .ok (.iaload, 1) := by decide +kernel
theorem dX10_shut_15 : decode cX10_shut 15 = .ok (.aload_n 0, 1) := by decide +kernel
theorem dX10_shut_16 : decode cX10_shut 16 = .ok (.iconst 4, 1) := by decide +kernel
theorem dX10_shut_17 : decode cX10_shut 17 = .ok (.invokevirtual 162, 3) := by decide +kernel
theorem dX10_shut_20 : decode cX10_shut 20 = .ok (.iadd, 1) := by decide +kernel
theorem dX10_shut_21 : decode cX10_shut 21 = .ok (.iastore, 1) := by decide +kernel
theorem dX10_shut_22 : decode cX10_shut 22 = .ok (.aload_n 0, 1) := by decide +kernel
theorem dX10_shut_23 : decode cX10_shut 23 = .ok (.getfield 25, 3) := by decide +kernel
theorem dX10_shut_26 : decode cX10_shut 26 = .ok (.iload_n 1, 1) := by decide +kernel
theorem dX10_shut_27 : decode cX10_shut 27 = .ok (.iconst 2, 1) := by decide +kernel
theorem dX10_shut_28 : decode cX10_shut 28 = .ok (.invokestatic 100, 3) := by decide +kernel
theorem dX10_shut_31 : decode cX10_shut 31 = .ok (.aload_n 0, 1) := by decide +kernel
theorem dX10_shut_32 : decode cX10_shut 32 = .ok (.getfield 25, 3) := by decide +kernel
theorem dX10_shut_35 : decode cX10_shut 35 = .ok (.bipush 11, 2) := by decide +kernel
theorem dX10_shut_37 : decode cX10_shut 37 = .ok (.iaload, 1) := by decide +kernel
theorem dX10_shut_38 : decode cX10_shut 38 = .ok (.iastore, 1) := by decide +kernel
theorem dX10_shut_39 : decode cX10_shut 39 = .ok (.aload_n 0, 1) := by decide +kernel
theorem dX10_shut_40 : decode cX10_shut 40 = .ok (.iload_n 1, 1) := by decide +kernel
theorem dX10_shut_41 : decode cX10_shut 41 = .ok (.invokevirtual 184, 3) := by decide +kernel
theorem dX10_shut_44 : decode cX10_shut 44 = .ok (.return_, 1) := by decide +kernel
def rm_X10_shut : Room := { frames := 4, cells := 0, slots := 0, locals := 88 }
def M_X10_shut_0 (k : Nat) (p0 : Int32) (S : Nat → Nat → Int32) : Option ((Nat → Nat → Int32)) := lt (gsel S) fun g1 => (if gokN g1 = true then (M_X10_tenantAt k p0 (1 : Int32)).bind fun q2 => lt (gsel S) fun g3 => (if gokN g3 = true then (if inb (4 : Int32) 1692 = true then (M_X10_told k S (4 : Int32)).bind fun q5 => (if inb q2 1692 = true then lt (va_up S g1 (upd (S g1) q2.toNatClampNeg ((S g3 (4 : Int32).toNatClampNeg) + q5))) fun F7 => lt (gsel F7) fun g8 => (if gokN g8 = true then (M_X10_tenantAt k p0 (2 : Int32)).bind fun q9 => lt (gsel F7) fun g10 => (if gokN g10 = true then (if inb (11 : Int32) 1692 = true then (if inb q9 1692 = true then lt (va_up F7 g8 (upd (F7 g8) q9.toNatClampNeg (F7 g10 (11 : Int32).toNatClampNeg))) fun F13 => (M_X10_refuseAll k F13 p0).bind fun q14 => some q14 else none) else none) else none) else none) else none) else none) else none) else none)
set_option maxRecDepth 100000 in
set_option maxHeartbeats 4000000 in
theorem N_X10_shut_0 (C : CX E p l s m args meth c cX10_shut 2 RX10 none A) (a : Nat → Nat) (k : Nat) {post : va_W → Prop} :
    ∀ (p0 : Int32) (S : Nat → Nat → Int32) (q : (Nat → Nat → Int32)), M_X10_shut_0 k p0 S = some q → post (wMd E a q) →
      WW E p l e rm_X10_shut s m args below meth c A 0 0 (QV E below post args s rm_X10_shut A) (wMd E a S) 2 [some (.ref (a 0)), some (.int p0)] 0 [] := by
  intro p0 S q  h hq
  unfold M_X10_shut_0 at h
  refine r_aload_n (pc := 0) C (i := 0) dX10_shut_0 rfl rfl ?_
  obtain ⟨g1, hg1, h⟩ := lt_e h
  obtain ⟨kg1, h⟩ := ifn h
  refine r_get (pc := 1) C gwX10 0 rfl rfl 8 (by decide) wm_5_211 rfl dX10_shut_1 ?_
  refine r_topg (a := a) hg1 ?_
  refine r_iload_n (pc := 4) C (i := 1) dX10_shut_4 rfl rfl ?_
  refine r_iconst (pc := 5) C (v := 1) dX10_shut_5 (by decide) ?_
  obtain ⟨q2, hq2, h⟩ := bnd h
  refine r_callSp_CI (pc := 6) C [.int p0, .int (1 : Int32)] (c_X10_tenantAt E l k p0 (1 : Int32) hq2) [] rfl (by decide) g_X10_100 hd_X10_tenantAt.2 ⟨Nat.le_of_ble_eq_true rfl, Nat.le_of_ble_eq_true rfl⟩ ⟨Nat.zero_le _, Nat.zero_le _⟩ (Nat.le_of_ble_eq_true rfl) rfl dX10_shut_6 (fun r hr => ?_)
  have hr := hr.symm
  subst hr
  refine r_aload_n (pc := 9) C (i := 0) dX10_shut_9 rfl rfl ?_
  obtain ⟨g3, hg3, h⟩ := lt_e h
  obtain ⟨kg3, h⟩ := ifn h
  refine r_get (pc := 10) C gwX10 0 rfl rfl 8 (by decide) wm_5_211 rfl dX10_shut_10 ?_
  refine r_topg (a := a) hg3 ?_
  refine r_iconst (pc := 13) C (v := 4) dX10_shut_13 (by decide) ?_
  obtain ⟨hi4, h⟩ := ifn h
  refine r_iald (pc := 14) C g3 (wMd_at kg3) hi4 dX10_shut_14 ?_
  refine r_aload_n (pc := 15) C (i := 0) dX10_shut_15 rfl rfl ?_
  refine r_iconst (pc := 16) C (v := 4) dX10_shut_16 (by decide) ?_
  obtain ⟨q5, hq5, h⟩ := bnd h
  refine r_callVp_CI (Cn := RX10) (pc := 17) C [.int (4 : Int32)] (c_X10_told E l k a S (4 : Int32) hq5) [0, 1, 2, 3, 4, 5, 6, 7, 8, 9, 10, 11, 12] rfl (by decide) 0 rfl rfl rfl g_X10_162 hd_X10_told ⟨Nat.le_of_ble_eq_true rfl, Nat.le_of_ble_eq_true rfl⟩ ⟨Nat.zero_le _, Nat.zero_le _⟩ (Nat.le_of_ble_eq_true rfl) rfl dX10_shut_17 (fun r hr => ?_)
  have hr := hr.symm
  subst hr
  refine r_iadd (pc := 20) C dX10_shut_20 ?_
  obtain ⟨hi6, h⟩ := ifn h
  obtain ⟨F7, hF7, h⟩ := lt_e h
  refine r_iast (pc := 21) C g1 (wMd_at kg1) hi6 (w' := (wMd E a F7)) (by rw [hF7]; exact wMd_set kg1) dX10_shut_21 ?_
  refine r_aload_n (pc := 22) C (i := 0) dX10_shut_22 rfl rfl ?_
  obtain ⟨g8, hg8, h⟩ := lt_e h
  obtain ⟨kg8, h⟩ := ifn h
  refine r_get (pc := 23) C gwX10 0 rfl rfl 8 (by decide) wm_5_211 rfl dX10_shut_23 ?_
  refine r_topg (a := a) hg8 ?_
  refine r_iload_n (pc := 26) C (i := 1) dX10_shut_26 rfl rfl ?_
  refine r_iconst (pc := 27) C (v := 2) dX10_shut_27 (by decide) ?_
  obtain ⟨q9, hq9, h⟩ := bnd h
  refine r_callSp_CI (pc := 28) C [.int p0, .int (2 : Int32)] (c_X10_tenantAt E l k p0 (2 : Int32) hq9) [] rfl (by decide) g_X10_100 hd_X10_tenantAt.2 ⟨Nat.le_of_ble_eq_true rfl, Nat.le_of_ble_eq_true rfl⟩ ⟨Nat.zero_le _, Nat.zero_le _⟩ (Nat.le_of_ble_eq_true rfl) rfl dX10_shut_28 (fun r hr => ?_)
  have hr := hr.symm
  subst hr
  refine r_aload_n (pc := 31) C (i := 0) dX10_shut_31 rfl rfl ?_
  obtain ⟨g10, hg10, h⟩ := lt_e h
  obtain ⟨kg10, h⟩ := ifn h
  refine r_get (pc := 32) C gwX10 0 rfl rfl 8 (by decide) wm_5_211 rfl dX10_shut_32 ?_
  refine r_topg (a := a) hg10 ?_
  refine r_bipush (pc := 35) C (v := 11) dX10_shut_35 (by decide) ?_
  obtain ⟨hi11, h⟩ := ifn h
  refine r_iald (pc := 37) C g10 (wMd_at kg10) hi11 dX10_shut_37 ?_
  obtain ⟨hi12, h⟩ := ifn h
  obtain ⟨F13, hF13, h⟩ := lt_e h
  refine r_iast (pc := 38) C g8 (wMd_at kg8) hi12 (w' := (wMd E a F13)) (by rw [hF13]; exact wMd_set kg8) dX10_shut_38 ?_
  refine r_aload_n (pc := 39) C (i := 0) dX10_shut_39 rfl rfl ?_
  refine r_iload_n (pc := 40) C (i := 1) dX10_shut_40 rfl rfl ?_
  obtain ⟨q14, hq14, h⟩ := bnd h
  refine r_callV_CV (Cn := RX10) (pc := 41) C [.int p0] (c_X10_refuseAll E l k a F13 p0 hq14) [0, 1, 2, 3, 4, 5, 6, 7, 8, 9, 10, 11, 12] rfl (by decide) 0 rfl rfl rfl g_X10_184 hd_X10_refuseAll ⟨Nat.le_of_ble_eq_true rfl, Nat.le_of_ble_eq_true rfl⟩ ⟨Nat.zero_le _, Nat.zero_le _⟩ (Nat.le_of_ble_eq_true rfl) rfl dX10_shut_41 (fun w1 hw1 => ?_)
  subst hw1
  refine ⟨(wMd E a q14), by rfl, ?_⟩
  cases h
  exact r_vret (pc := 44) C hq (Nat.zero_le _) (Nat.zero_le _) dX10_shut_44
def M_X10_shut (k : Nat) (S : Nat → Nat → Int32) (p0 : Int32) : Option ((Nat → Nat → Int32)) := M_X10_shut_0 k p0 S
set_option maxRecDepth 100000 in
set_option maxHeartbeats 4000000 in
theorem c_X10_shut (E : ENV) (l : Launch) (k : Nat) (a : Nat → Nat) (S : Nat → Nat → Int32) (p0 : Int32) {q : (Nat → Nat → Int32)} (hm : M_X10_shut k S p0 = some q) : CV E l yX10_shut cX10_shut 2 none rm_X10_shut [.ref (a 0), .int p0] (wMd E a S) (fun w' => w' = (wMd E a q)) :=
  CV.of 0 (by decide) (Nat.le_of_ble_eq_true rfl) (fun p e s m below meth c A C _ => r_weak (lSub_s (lSub_s lSub_e)) (N_X10_shut_0 C a k p0 S q  hm rfl))
-- ShardGuardModel.upWorkers()I
theorem dX10_upWorkers_0 : decode cX10_upWorkers 0 = .ok (.iconst 0, 1) := by decide +kernel
theorem dX10_upWorkers_1 : decode cX10_upWorkers 1 = .ok (.istore_n 1, 1) := by decide +kernel
theorem dX10_upWorkers_2 : decode cX10_upWorkers 2 = .ok (.iconst 0, 1) := by decide +kernel
theorem dX10_upWorkers_3 : decode cX10_upWorkers 3 = .ok (.istore_n 2, 1) := by decide +kernel
theorem dX10_upWorkers_4 : decode cX10_upWorkers 4 = .ok (.iload_n 2, 1) := by decide +kernel
theorem dX10_upWorkers_5 : decode cX10_upWorkers 5 = .ok (.aload_n 0, 1) := by decide +kernel
theorem dX10_upWorkers_6 : decode cX10_upWorkers 6 = .ok (.invokevirtual 106, 3) := by decide +kernel
theorem dX10_upWorkers_9 : decode cX10_upWorkers 9 = .ok (.if_icmp .ge 27, 3) := by decide +kernel
theorem dX10_upWorkers_12 : decode cX10_upWorkers 12 = .ok (.iload_n 1, 1) := by decide +kernel
theorem dX10_upWorkers_13 : decode cX10_upWorkers 13 = .ok (.aload_n 0, 1) := by decide +kernel
theorem dX10_upWorkers_14 : decode cX10_upWorkers 14 = .ok (.iload_n 2, 1) := by decide +kernel
theorem dX10_upWorkers_15 : decode cX10_upWorkers 15 = .ok (.invokevirtual 137, 3) := by decide +kernel
theorem dX10_upWorkers_18 : decode cX10_upWorkers 18 = .ok (.ifCond .eq 9, 3) := by decide +kernel
theorem dX10_upWorkers_21 : decode cX10_upWorkers 21 = .ok (.iconst 1, 1) := by decide +kernel
theorem dX10_upWorkers_22 : decode cX10_upWorkers 22 = .ok (.iload_n 2, 1) := by decide +kernel
theorem dX10_upWorkers_23 : decode cX10_upWorkers 23 = .ok (.ishl, 1) := by decide +kernel
theorem dX10_upWorkers_24 : decode cX10_upWorkers 24 = .ok (.goto 4, 3) := by decide +kernel
theorem dX10_upWorkers_27 : decode cX10_upWorkers 27 = .ok (.iconst 0, 1) := by decide +kernel
theorem dX10_upWorkers_28 : decode cX10_upWorkers 28 = .ok (.ior, 1) := by decide +kernel
theorem dX10_upWorkers_29 : decode cX10_upWorkers 29 = .ok (.istore_n 1, 1) := by decide +kernel
theorem dX10_upWorkers_30 : decode cX10_upWorkers 30 = .ok (.iinc 2 1, 3) := by decide +kernel
theorem dX10_upWorkers_33 : decode cX10_upWorkers 33 = .ok (.goto (-29), 3) := by decide +kernel
theorem dX10_upWorkers_36 : decode cX10_upWorkers 36 = .ok (.iload_n 1, 1) := by decide +kernel
theorem dX10_upWorkers_37 : decode cX10_upWorkers 37 = .ok (.ireturn, 1) := by decide +kernel
def rm_X10_upWorkers : Room := { frames := 2, cells := 0, slots := 0, locals := 42 }
def M_X10_upWorkers_4 (k : Nat) (S : Nat → Nat → Int32) : Nat → (Int32) → (Int32) → Option (Int32)
  | 0, _, _ => none
  | n + 1, x1, x2 => (M_X10_workers k S).bind fun q1 => if q1 ≤ x2 then (some x1) else ((M_X10_isUp k S x2).bind fun q3 => if q3 = 0 then (lt (x1 ||| (0 : Int32)) fun v5 => M_X10_upWorkers_4 k S n v5 (x2 + 1)) else (lt (x1 ||| ((1 : Int32) <<< (x2 &&& 31))) fun v6 => M_X10_upWorkers_4 k S n v6 (x2 + 1)))
theorem M_X10_upWorkers_4_s (k : Nat) (S : Nat → Nat → Int32) (n : Nat) (x1 : Int32) (x2 : Int32) : M_X10_upWorkers_4 k S (n + 1) x1 x2 = ((M_X10_workers k S).bind fun q1 => if q1 ≤ x2 then (some x1) else ((M_X10_isUp k S x2).bind fun q3 => if q3 = 0 then (lt (x1 ||| (0 : Int32)) fun v5 => M_X10_upWorkers_4 k S n v5 (x2 + 1)) else (lt (x1 ||| ((1 : Int32) <<< (x2 &&& 31))) fun v6 => M_X10_upWorkers_4 k S n v6 (x2 + 1)))) := rfl
set_option maxRecDepth 100000 in
set_option maxHeartbeats 4000000 in
theorem N_X10_upWorkers_4 (C : CX E p l s m args meth c cX10_upWorkers 3 RX10 (some .int) A) (a : Nat → Nat) (k : Nat) (S : Nat → Nat → Int32) {post : Int32 → va_W → Prop} :
    ∀ (n : Nat) (x1 : Int32) (x2 : Int32) (q : Int32), M_X10_upWorkers_4 k S n x1 x2 = some q → post q (wMd E a S) →
      WW E p l e rm_X10_upWorkers s m args below meth c A 0 0 (QI E below post args s rm_X10_upWorkers A) (wMd E a S) 3 [some (.ref (a 0)), some (.int x1), some (.int x2)] 4 [] := by
  intro n
  induction n with
  | zero => intro x1 x2 q  h _; cases h
  | succ n ih =>
    intro x1 x2 q  h hq
    rw [M_X10_upWorkers_4_s] at h
    refine r_iload_n (pc := 4) C (i := 2) dX10_upWorkers_4 rfl rfl ?_
    refine r_aload_n (pc := 5) C (i := 0) dX10_upWorkers_5 rfl rfl ?_
    obtain ⟨q1, hq1, h⟩ := bnd h
    refine r_callVp_CI (Cn := RX10) (pc := 6) C [] (c_X10_workers E l k a S hq1) [0, 1, 2, 3, 4, 5, 6, 7, 8, 9, 10, 11, 12] rfl (by decide) 0 rfl rfl rfl g_X10_106 hd_X10_workers ⟨Nat.le_of_ble_eq_true rfl, Nat.le_of_ble_eq_true rfl⟩ ⟨Nat.zero_le _, Nat.zero_le _⟩ (Nat.le_of_ble_eq_true rfl) rfl dX10_upWorkers_6 (fun r hr => ?_)
    have hr := hr.symm
    subst hr
    refine r_icmp_ge (pc := 9) C (tgt := 36) dX10_upWorkers_9 rfl (fun c2 => ?_) (fun c2 => ?_)
    · rw [if_pos c2] at h
      refine r_iload_n (pc := 36) C (i := 1) dX10_upWorkers_36 rfl rfl ?_
      cases h
      exact r_ireti (pc := 37) C hq (Nat.zero_le _) (Nat.zero_le _) dX10_upWorkers_37
    · rw [if_neg c2] at h
      refine r_iload_n (pc := 12) C (i := 1) dX10_upWorkers_12 rfl rfl ?_
      refine r_aload_n (pc := 13) C (i := 0) dX10_upWorkers_13 rfl rfl ?_
      refine r_iload_n (pc := 14) C (i := 2) dX10_upWorkers_14 rfl rfl ?_
      obtain ⟨q3, hq3, h⟩ := bnd h
      refine r_callVp_CI (Cn := RX10) (pc := 15) C [.int x2] (c_X10_isUp E l k a S x2 hq3) [0, 1, 2, 3, 4, 5, 6, 7, 8, 9, 10, 11, 12] rfl (by decide) 0 rfl rfl rfl g_X10_137 hd_X10_isUp ⟨Nat.le_of_ble_eq_true rfl, Nat.le_of_ble_eq_true rfl⟩ ⟨Nat.zero_le _, Nat.zero_le _⟩ (Nat.le_of_ble_eq_true rfl) rfl dX10_upWorkers_15 (fun r hr => ?_)
      have hr := hr.symm
      subst hr
      refine r_if_eq (pc := 18) C (tgt := 27) dX10_upWorkers_18 rfl (fun c4 => ?_) (fun c4 => ?_)
      · rw [if_pos c4] at h
        refine r_iconst (pc := 27) C (v := 0) dX10_upWorkers_27 (by decide) ?_
        refine r_ior (pc := 28) C dX10_upWorkers_28 ?_
        obtain ⟨v5, hv5, h⟩ := lt_e h
        refine r_topi hv5 ?_
        refine r_istore_n (pc := 29) C (i := 1) dX10_upWorkers_29 rfl (by decide) rfl ?_
        refine r_iinc (pc := 30) C (v := (x2 + 1)) dX10_upWorkers_30 rfl rfl (by decide) rfl ?_
        refine r_goto (pc := 33) C (tgt := 4) dX10_upWorkers_33 rfl ?_
        refine r_weak (lSub_s (lSub_s (lSub_s lSub_e))) ?_
        exact ih v5 (x2 + 1) q  h hq
      · rw [if_neg c4] at h
        refine r_iconst (pc := 21) C (v := 1) dX10_upWorkers_21 (by decide) ?_
        refine r_iload_n (pc := 22) C (i := 2) dX10_upWorkers_22 rfl rfl ?_
        refine r_ishl (pc := 23) C dX10_upWorkers_23 ?_
        refine r_goto (pc := 24) C (tgt := 28) dX10_upWorkers_24 rfl ?_
        refine r_ior (pc := 28) C dX10_upWorkers_28 ?_
        obtain ⟨v6, hv6, h⟩ := lt_e h
        refine r_topi hv6 ?_
        refine r_istore_n (pc := 29) C (i := 1) dX10_upWorkers_29 rfl (by decide) rfl ?_
        refine r_iinc (pc := 30) C (v := (x2 + 1)) dX10_upWorkers_30 rfl rfl (by decide) rfl ?_
        refine r_goto (pc := 33) C (tgt := 4) dX10_upWorkers_33 rfl ?_
        refine r_weak (lSub_s (lSub_s (lSub_s lSub_e))) ?_
        exact ih v6 (x2 + 1) q  h hq
def M_X10_upWorkers_0 (k : Nat) (S : Nat → Nat → Int32) : Option (Int32) := M_X10_upWorkers_4 k S k (0 : Int32) (0 : Int32)
set_option maxRecDepth 100000 in
set_option maxHeartbeats 4000000 in
theorem N_X10_upWorkers_0 (C : CX E p l s m args meth c cX10_upWorkers 3 RX10 (some .int) A) (a : Nat → Nat) (k : Nat) (S : Nat → Nat → Int32) {post : Int32 → va_W → Prop} :
    ∀ (q : Int32), M_X10_upWorkers_0 k S = some q → post q (wMd E a S) →
      WW E p l e rm_X10_upWorkers s m args below meth c A 0 0 (QI E below post args s rm_X10_upWorkers A) (wMd E a S) 3 [some (.ref (a 0)), none, none] 0 [] := by
  intro  q  h hq
  unfold M_X10_upWorkers_0 at h
  refine r_iconst (pc := 0) C (v := 0) dX10_upWorkers_0 (by decide) ?_
  refine r_istore_n (pc := 1) C (i := 1) dX10_upWorkers_1 rfl (by decide) rfl ?_
  refine r_iconst (pc := 2) C (v := 0) dX10_upWorkers_2 (by decide) ?_
  refine r_istore_n (pc := 3) C (i := 2) dX10_upWorkers_3 rfl (by decide) rfl ?_
  refine r_weak (lSub_s (lSub_s (lSub_s lSub_e))) ?_
  exact N_X10_upWorkers_4 C a k S k (0 : Int32) (0 : Int32) q  h hq
def M_X10_upWorkers (k : Nat) (S : Nat → Nat → Int32) : Option (Int32) := M_X10_upWorkers_0 k S
set_option maxRecDepth 100000 in
set_option maxHeartbeats 4000000 in
theorem c_X10_upWorkers (E : ENV) (l : Launch) (k : Nat) (a : Nat → Nat) (S : Nat → Nat → Int32) {q : Int32} (hm : M_X10_upWorkers k S = some q) : CI E l yX10_upWorkers cX10_upWorkers 3 (some .int) rm_X10_upWorkers [.ref (a 0)] (wMd E a S) (fun r w' => r = q ∧ w' = (wMd E a S)) :=
  CI.of 2 (by decide) (Nat.le_of_ble_eq_true rfl) (fun p e s m below meth c A C _ => r_weak (lSub_s (lSub_n (lSub_n lSub_e))) (N_X10_upWorkers_0 C a k S q  hm ⟨rfl, rfl⟩))
theorem hd_X10_upWorkers : yX10_upWorkers.cls = RX10 ∧ yX10_upWorkers.cls ≠ "java/lang/invoke/MethodHandle" ∧ yX10_upWorkers.cls ≠ "java/lang/invoke/VarHandle" ∧ (parseMethodDescriptor yX10_upWorkers.desc).map (fun d => d.parameters.length) = some 0 := by decide +kernel
theorem g_X10_208 : GoodIn GW (wsV RX10 208 RX10 yX10_upWorkers (wsG yX10_upWorkers cX10_upWorkers 3 (some .int))) := gw_V wm_6_57 wm_6_59 wm_0_21 wm_1_9 wm_6_60
-- ShardGuardModel.isCutOff(I)Z
theorem dX10_isCutOff_0 : decode cX10_isCutOff 0 = .ok (.aload_n 0, 1) := by decide +kernel
theorem dX10_isCutOff_1 : decode cX10_isCutOff 1 = .ok (.iload_n 1, 1) := by decide +kernel
theorem dX10_isCutOff_2 : decode cX10_isCutOff 2 = .ok (.iconst 0, 1) := by decide +kernel
theorem dX10_isCutOff_3 : decode cX10_isCutOff 3 = .ok (.invokevirtual 120, 3) := by decide +kernel
theorem dX10_isCutOff_6 : decode cX10_isCutOff 6 = .ok (.aload_n 0, 1) := by decide +kernel
theorem dX10_isCutOff_7 : decode cX10_isCutOff 7 = .ok (.invokevirtual 208, 3) := by decide +kernel
theorem dX10_isCutOff_10 : decode cX10_isCutOff 10 = .ok (.iand, 1) := by decide +kernel
theorem dX10_isCutOff_11 : decode cX10_isCutOff 11 = .ok (.ifCond .ne 7, 3) := by decide +kernel
theorem dX10_isCutOff_14 : decode cX10_isCutOff 14 = .ok (.iconst 1, 1) := by decide +kernel
theorem dX10_isCutOff_15 : decode cX10_isCutOff 15 = .ok (.goto 4, 3) := by decide +kernel
theorem dX10_isCutOff_18 : decode cX10_isCutOff 18 = .ok (.iconst 0, 1) := by decide +kernel
theorem dX10_isCutOff_19 : decode cX10_isCutOff 19 = .ok (.ireturn, 1) := by decide +kernel
def rm_X10_isCutOff : Room := { frames := 3, cells := 0, slots := 0, locals := 64 }
def M_X10_isCutOff_0 (k : Nat) (S : Nat → Nat → Int32) (p0 : Int32) : Option (Int32) := (M_X10_ofTenant k S p0 (0 : Int32)).bind fun q1 => (M_X10_upWorkers k S).bind fun q2 => if (q1 &&& q2) = 0 then (some (1 : Int32)) else (some (0 : Int32))
set_option maxRecDepth 100000 in
set_option maxHeartbeats 4000000 in
theorem N_X10_isCutOff_0 (C : CX E p l s m args meth c cX10_isCutOff 2 RX10 (some .boolean) A) (a : Nat → Nat) (k : Nat) (S : Nat → Nat → Int32) {post : Int32 → va_W → Prop} :
    ∀ (p0 : Int32) (q : Int32), M_X10_isCutOff_0 k S p0 = some q → post q (wMd E a S) →
      WW E p l e rm_X10_isCutOff s m args below meth c A 0 0 (QI E below post args s rm_X10_isCutOff A) (wMd E a S) 2 [some (.ref (a 0)), some (.int p0)] 0 [] := by
  intro p0 q  h hq
  unfold M_X10_isCutOff_0 at h
  refine r_aload_n (pc := 0) C (i := 0) dX10_isCutOff_0 rfl rfl ?_
  refine r_iload_n (pc := 1) C (i := 1) dX10_isCutOff_1 rfl rfl ?_
  refine r_iconst (pc := 2) C (v := 0) dX10_isCutOff_2 (by decide) ?_
  obtain ⟨q1, hq1, h⟩ := bnd h
  refine r_callVp_CI (Cn := RX10) (pc := 3) C [.int p0, .int (0 : Int32)] (c_X10_ofTenant E l k a S p0 (0 : Int32) hq1) [0, 1, 2, 3, 4, 5, 6, 7, 8, 9, 10, 11, 12] rfl (by decide) 0 rfl rfl rfl g_X10_120 hd_X10_ofTenant ⟨Nat.le_of_ble_eq_true rfl, Nat.le_of_ble_eq_true rfl⟩ ⟨Nat.zero_le _, Nat.zero_le _⟩ (Nat.le_of_ble_eq_true rfl) rfl dX10_isCutOff_3 (fun r hr => ?_)
  have hr := hr.symm
  subst hr
  refine r_aload_n (pc := 6) C (i := 0) dX10_isCutOff_6 rfl rfl ?_
  obtain ⟨q2, hq2, h⟩ := bnd h
  refine r_callVp_CI (Cn := RX10) (pc := 7) C [] (c_X10_upWorkers E l k a S hq2) [0, 1, 2, 3, 4, 5, 6, 7, 8, 9, 10, 11, 12] rfl (by decide) 0 rfl rfl rfl g_X10_208 hd_X10_upWorkers ⟨Nat.le_of_ble_eq_true rfl, Nat.le_of_ble_eq_true rfl⟩ ⟨Nat.zero_le _, Nat.zero_le _⟩ (Nat.le_of_ble_eq_true rfl) rfl dX10_isCutOff_7 (fun r hr => ?_)
  have hr := hr.symm
  subst hr
  refine r_iand (pc := 10) C dX10_isCutOff_10 ?_
  refine r_if_ne (pc := 11) C (tgt := 18) dX10_isCutOff_11 rfl (fun c3 => ?_) (fun c3 => ?_)
  · rw [if_neg c3] at h
    refine r_iconst (pc := 18) C (v := 0) dX10_isCutOff_18 (by decide) ?_
    cases h
    exact r_iretz (pc := 19) C (Or.inl rfl) hq (Nat.zero_le _) (Nat.zero_le _) dX10_isCutOff_19
  · rw [if_pos c3] at h
    refine r_iconst (pc := 14) C (v := 1) dX10_isCutOff_14 (by decide) ?_
    refine r_goto (pc := 15) C (tgt := 19) dX10_isCutOff_15 rfl ?_
    cases h
    exact r_iretz (pc := 19) C (Or.inr rfl) hq (Nat.zero_le _) (Nat.zero_le _) dX10_isCutOff_19
def M_X10_isCutOff (k : Nat) (S : Nat → Nat → Int32) (p0 : Int32) : Option (Int32) := M_X10_isCutOff_0 k S p0
set_option maxRecDepth 100000 in
set_option maxHeartbeats 4000000 in
theorem c_X10_isCutOff (E : ENV) (l : Launch) (k : Nat) (a : Nat → Nat) (S : Nat → Nat → Int32) (p0 : Int32) {q : Int32} (hm : M_X10_isCutOff k S p0 = some q) : CI E l yX10_isCutOff cX10_isCutOff 2 (some .boolean) rm_X10_isCutOff [.ref (a 0), .int p0] (wMd E a S) (fun r w' => r = q ∧ w' = (wMd E a S)) :=
  CI.of 0 (by decide) (Nat.le_of_ble_eq_true rfl) (fun p e s m below meth c A C _ => r_weak (lSub_s (lSub_s lSub_e)) (N_X10_isCutOff_0 C a k S p0 q  hm ⟨rfl, rfl⟩))
theorem g_X10_211 : GoodIn GW (va_wsS RX10 211 yJ6_bitCount_0f7a4 (wsG yJ6_bitCount_0f7a4 cJ6_bitCount_0f7a4 1 (some .int))) := gw_S wm_6_69 wm_2_80 wm_1_22 wm_2_81
-- ShardGuardModel.shared(II)I
theorem dX10_shared_0 : decode cX10_shared 0 = .ok (.aload_n 0, 1) := by decide +kernel
theorem dX10_shared_1 : decode cX10_shared 1 = .ok (.iload_n 1, 1) := by decide +kernel
theorem dX10_shared_2 : decode cX10_shared 2 = .ok (.iconst 0, 1) := by decide +kernel
theorem dX10_shared_3 : decode cX10_shared 3 = .ok (.invokevirtual 120, 3) := by decide +kernel
theorem dX10_shared_6 : decode cX10_shared 6 = .ok (.aload_n 0, 1) := by decide +kernel
theorem dX10_shared_7 : decode cX10_shared 7 = .ok (.iload_n 2, 1) := by decide +kernel
theorem dX10_shared_8 : decode cX10_shared 8 = .ok (.iconst 0, 1) := by decide +kernel
theorem dX10_shared_9 : decode cX10_shared 9 = .ok (.invokevirtual 120, 3) := by decide +kernel
theorem dX10_shared_12 : decode cX10_shared 12 = .ok (.iand, 1) := by decide +kernel
theorem dX10_shared_13 : decode cX10_shared 13 = .ok (.invokestatic 211, 3) := by decide +kernel
theorem dX10_shared_16 : decode cX10_shared 16 = .ok (.ireturn, 1) := by decide +kernel
def rm_X10_shared : Room := { frames := 2, cells := 0, slots := 0, locals := 43 }
def M_X10_shared_0 (k : Nat) (S : Nat → Nat → Int32) (p0 : Int32) (p1 : Int32) : Option (Int32) := (M_X10_ofTenant k S p0 (0 : Int32)).bind fun q1 => (M_X10_ofTenant k S p1 (0 : Int32)).bind fun q2 => (M_J6_bitCount_0f7a4 k (q1 &&& q2)).bind fun q3 => some q3
set_option maxRecDepth 100000 in
set_option maxHeartbeats 4000000 in
theorem N_X10_shared_0 (C : CX E p l s m args meth c cX10_shared 3 RX10 (some .int) A) (a : Nat → Nat) (k : Nat) (S : Nat → Nat → Int32) {post : Int32 → va_W → Prop} :
    ∀ (p0 : Int32) (p1 : Int32) (q : Int32), M_X10_shared_0 k S p0 p1 = some q → post q (wMd E a S) →
      WW E p l e rm_X10_shared s m args below meth c A 0 0 (QI E below post args s rm_X10_shared A) (wMd E a S) 3 [some (.ref (a 0)), some (.int p0), some (.int p1)] 0 [] := by
  intro p0 p1 q  h hq
  unfold M_X10_shared_0 at h
  refine r_aload_n (pc := 0) C (i := 0) dX10_shared_0 rfl rfl ?_
  refine r_iload_n (pc := 1) C (i := 1) dX10_shared_1 rfl rfl ?_
  refine r_iconst (pc := 2) C (v := 0) dX10_shared_2 (by decide) ?_
  obtain ⟨q1, hq1, h⟩ := bnd h
  refine r_callVp_CI (Cn := RX10) (pc := 3) C [.int p0, .int (0 : Int32)] (c_X10_ofTenant E l k a S p0 (0 : Int32) hq1) [0, 1, 2, 3, 4, 5, 6, 7, 8, 9, 10, 11, 12] rfl (by decide) 0 rfl rfl rfl g_X10_120 hd_X10_ofTenant ⟨Nat.le_of_ble_eq_true rfl, Nat.le_of_ble_eq_true rfl⟩ ⟨Nat.zero_le _, Nat.zero_le _⟩ (Nat.le_of_ble_eq_true rfl) rfl dX10_shared_3 (fun r hr => ?_)
  have hr := hr.symm
  subst hr
  refine r_aload_n (pc := 6) C (i := 0) dX10_shared_6 rfl rfl ?_
  refine r_iload_n (pc := 7) C (i := 2) dX10_shared_7 rfl rfl ?_
  refine r_iconst (pc := 8) C (v := 0) dX10_shared_8 (by decide) ?_
  obtain ⟨q2, hq2, h⟩ := bnd h
  refine r_callVp_CI (Cn := RX10) (pc := 9) C [.int p1, .int (0 : Int32)] (c_X10_ofTenant E l k a S p1 (0 : Int32) hq2) [0, 1, 2, 3, 4, 5, 6, 7, 8, 9, 10, 11, 12] rfl (by decide) 0 rfl rfl rfl g_X10_120 hd_X10_ofTenant ⟨Nat.le_of_ble_eq_true rfl, Nat.le_of_ble_eq_true rfl⟩ ⟨Nat.zero_le _, Nat.zero_le _⟩ (Nat.le_of_ble_eq_true rfl) rfl dX10_shared_9 (fun r hr => ?_)
  have hr := hr.symm
  subst hr
  refine r_iand (pc := 12) C dX10_shared_12 ?_
  obtain ⟨q3, hq3, h⟩ := bnd h
  refine r_callSp_CI (pc := 13) C [.int (q1 &&& q2)] (c_J6_bitCount_0f7a4 E l k (q1 &&& q2) hq3) [] rfl (by decide) g_X10_211 hd_J6_bitCount_0f7a4.2 ⟨Nat.le_of_ble_eq_true rfl, Nat.le_of_ble_eq_true rfl⟩ ⟨Nat.zero_le _, Nat.zero_le _⟩ (Nat.le_of_ble_eq_true rfl) rfl dX10_shared_13 (fun r hr => ?_)
  have hr := hr.symm
  subst hr
  cases h
  exact r_ireti (pc := 16) C hq (Nat.zero_le _) (Nat.zero_le _) dX10_shared_16
def M_X10_shared (k : Nat) (S : Nat → Nat → Int32) (p0 : Int32) (p1 : Int32) : Option (Int32) := M_X10_shared_0 k S p0 p1
set_option maxRecDepth 100000 in
set_option maxHeartbeats 4000000 in
theorem c_X10_shared (E : ENV) (l : Launch) (k : Nat) (a : Nat → Nat) (S : Nat → Nat → Int32) (p0 : Int32) (p1 : Int32) {q : Int32} (hm : M_X10_shared k S p0 p1 = some q) : CI E l yX10_shared cX10_shared 3 (some .int) rm_X10_shared [.ref (a 0), .int p0, .int p1] (wMd E a S) (fun r w' => r = q ∧ w' = (wMd E a S)) :=
  CI.of 0 (by decide) (Nat.le_of_ble_eq_true rfl) (fun p e s m below meth c A C _ => r_weak (lSub_s (lSub_s (lSub_s lSub_e))) (N_X10_shared_0 C a k S p0 p1 q  hm ⟨rfl, rfl⟩))
theorem hd_X10_shared : yX10_shared.cls = RX10 ∧ yX10_shared.cls ≠ "java/lang/invoke/MethodHandle" ∧ yX10_shared.cls ≠ "java/lang/invoke/VarHandle" ∧ (parseMethodDescriptor yX10_shared.desc).map (fun d => d.parameters.length) = some 2 := by decide +kernel
theorem g_X10_216 : GoodIn GW (wsV RX10 216 RX10 yX10_shared (wsG yX10_shared cX10_shared 3 (some .int))) := gw_V wm_6_214 wm_6_216 wm_0_48 wm_1_9 wm_6_217
-- ShardGuardModel.greatestNow()I
theorem dX10_greatestNow_0 : decode cX10_greatestNow 0 = .ok (.iconst 0, 1) := by decide +kernel
theorem dX10_greatestNow_1 : decode cX10_greatestNow 1 = .ok (.istore_n 1, 1) := by decide +kernel
theorem dX10_greatestNow_2 : decode cX10_greatestNow 2 = .ok (.iconst 0, 1) := by decide +kernel
theorem dX10_greatestNow_3 : decode cX10_greatestNow 3 = .ok (.istore_n 2, 1) := by decide +kernel
theorem dX10_greatestNow_4 : decode cX10_greatestNow 4 = .ok (.iload_n 2, 1) := by decide +kernel
theorem dX10_greatestNow_5 : decode cX10_greatestNow 5 = .ok (.aload_n 0, 1) := by decide +kernel
theorem dX10_greatestNow_6 : decode cX10_greatestNow 6 = .ok (.invokevirtual 114, 3) := by decide +kernel
theorem dX10_greatestNow_9 : decode cX10_greatestNow 9 = .ok (.if_icmp .ge 33, 3) := by decide +kernel
theorem dX10_greatestNow_12 : decode cX10_greatestNow 12 = .ok (.iconst 0, 1) := by decide +kernel
theorem dX10_greatestNow_13 : decode cX10_greatestNow 13 = .ok (.istore_n 3, 1) := by decide +kernel
theorem dX10_greatestNow_14 : decode cX10_greatestNow 14 = .ok (.iload_n 3, 1) := by decide +kernel
theorem dX10_greatestNow_15 : decode cX10_greatestNow 15 = .ok (.iload_n 2, 1) := by decide +kernel
theorem dX10_greatestNow_16 : decode cX10_greatestNow 16 = .ok (.if_icmp .ge 20, 3) := by decide +kernel
theorem dX10_greatestNow_19 : decode cX10_greatestNow 19 = .ok (.iload_n 1, 1) := by decide +kernel
theorem dX10_greatestNow_20 : decode cX10_greatestNow 20 = .ok (.aload_n 0, 1) := by decide +kernel
theorem dX10_greatestNow_21 : decode cX10_greatestNow 21 = .ok (.iload_n 2, 1) := by decide +kernel
theorem dX10_greatestNow_22 : decode cX10_greatestNow 22 = .ok (.iload_n 3, 1) := by decide +kernel
theorem dX10_greatestNow_23 : decode cX10_greatestNow 23 = .ok (.invokevirtual 216, 3) := by decide +kernel
theorem dX10_greatestNow_26 : decode cX10_greatestNow 26 = .ok (.invokestatic 219, 3) := by decide +kernel
theorem dX10_greatestNow_29 : decode cX10_greatestNow 29 = .ok (.istore_n 1, 1) := by decide +kernel
theorem dX10_greatestNow_30 : decode cX10_greatestNow 30 = .ok (.iinc 3 1, 3) := by decide +kernel
theorem dX10_greatestNow_33 : decode cX10_greatestNow 33 = .ok (.goto (-19), 3) := by decide +kernel
theorem dX10_greatestNow_36 : decode cX10_greatestNow 36 = .ok (.iinc 2 1, 3) := by decide +kernel
theorem dX10_greatestNow_39 : decode cX10_greatestNow 39 = .ok (.goto (-35), 3) := by decide +kernel
theorem dX10_greatestNow_42 : decode cX10_greatestNow 42 = .ok (.iload_n 1, 1) := by decide +kernel
theorem dX10_greatestNow_43 : decode cX10_greatestNow 43 = .ok (.ireturn, 1) := by decide +kernel
def rm_X10_greatestNow : Room := { frames := 3, cells := 0, slots := 0, locals := 65 }
def M_X10_greatestNow_14 (k : Nat) (S : Nat → Nat → Int32) (κ4 : Int32 → Int32 → Option (Int32)) : Nat → (Int32) → (Int32) → (Int32) → Option (Int32)
  | 0, _, _, _ => none
  | n + 1, x1, x2, x3 => if x2 ≤ x3 then (κ4 x1 (x2 + 1)) else ((M_X10_shared k S x2 x3).bind fun q2 => lt (if x1 < q2 then q2 else x1) fun v3 => M_X10_greatestNow_14 k S κ4 n v3 x2 (x3 + 1))
theorem M_X10_greatestNow_14_s (k : Nat) (S : Nat → Nat → Int32) (κ4 : Int32 → Int32 → Option (Int32)) (n : Nat) (x1 : Int32) (x2 : Int32) (x3 : Int32) : M_X10_greatestNow_14 k S κ4 (n + 1) x1 x2 x3 = (if x2 ≤ x3 then (κ4 x1 (x2 + 1)) else ((M_X10_shared k S x2 x3).bind fun q2 => lt (if x1 < q2 then q2 else x1) fun v3 => M_X10_greatestNow_14 k S κ4 n v3 x2 (x3 + 1))) := rfl
set_option maxRecDepth 100000 in
set_option maxHeartbeats 4000000 in
theorem N_X10_greatestNow_14 (C : CX E p l s m args meth c cX10_greatestNow 4 RX10 (some .int) A) (a : Nat → Nat) (k : Nat) (S : Nat → Nat → Int32) {post : Int32 → va_W → Prop} (κ4 : Int32 → Int32 → Option (Int32)) (hκ4 : ∀ (x1 : Int32) (x2 : Int32) (q : Int32), κ4 x1 x2 = some q → post q (wMd E a S) → WW E p l e rm_X10_greatestNow s m args below meth c A 0 0 (QI E below post args s rm_X10_greatestNow A) (wMd E a S) 4 [some (.ref (a 0)), some (.int x1), some (.int x2), none] 4 []) :
    ∀ (n : Nat) (x1 : Int32) (x2 : Int32) (x3 : Int32) (q : Int32), M_X10_greatestNow_14 k S κ4 n x1 x2 x3 = some q → post q (wMd E a S) →
      WW E p l e rm_X10_greatestNow s m args below meth c A 0 0 (QI E below post args s rm_X10_greatestNow A) (wMd E a S) 4 [some (.ref (a 0)), some (.int x1), some (.int x2), some (.int x3)] 14 [] := by
  intro n
  induction n with
  | zero => intro x1 x2 x3 q  h _; cases h
  | succ n ih =>
    intro x1 x2 x3 q  h hq
    rw [M_X10_greatestNow_14_s] at h
    refine r_iload_n (pc := 14) C (i := 3) dX10_greatestNow_14 rfl rfl ?_
    refine r_iload_n (pc := 15) C (i := 2) dX10_greatestNow_15 rfl rfl ?_
    refine r_icmp_ge (pc := 16) C (tgt := 36) dX10_greatestNow_16 rfl (fun c1 => ?_) (fun c1 => ?_)
    · rw [if_pos c1] at h
      refine r_iinc (pc := 36) C (v := (x2 + 1)) dX10_greatestNow_36 rfl rfl (by decide) rfl ?_
      refine r_goto (pc := 39) C (tgt := 4) dX10_greatestNow_39 rfl ?_
      refine r_weak (lSub_s (lSub_s (lSub_s (lSub_n lSub_e)))) ?_
      exact hκ4 x1 (x2 + 1) q  h hq
    · rw [if_neg c1] at h
      refine r_iload_n (pc := 19) C (i := 1) dX10_greatestNow_19 rfl rfl ?_
      refine r_aload_n (pc := 20) C (i := 0) dX10_greatestNow_20 rfl rfl ?_
      refine r_iload_n (pc := 21) C (i := 2) dX10_greatestNow_21 rfl rfl ?_
      refine r_iload_n (pc := 22) C (i := 3) dX10_greatestNow_22 rfl rfl ?_
      obtain ⟨q2, hq2, h⟩ := bnd h
      refine r_callVp_CI (Cn := RX10) (pc := 23) C [.int x2, .int x3] (c_X10_shared E l k a S x2 x3 hq2) [0, 1, 2, 3, 4, 5, 6, 7, 8, 9, 10, 11, 12] rfl (by decide) 0 rfl rfl rfl g_X10_216 hd_X10_shared ⟨Nat.le_of_ble_eq_true rfl, Nat.le_of_ble_eq_true rfl⟩ ⟨Nat.zero_le _, Nat.zero_le _⟩ (Nat.le_of_ble_eq_true rfl) rfl dX10_greatestNow_23 (fun r hr => ?_)
      have hr := hr.symm
      subst hr
      refine r_mmax (pc := 26) C wm_6_230 wm_2_86 wm_1_14 wm_2_87 ⟨Nat.le_of_ble_eq_true rfl, Nat.le_of_ble_eq_true rfl, Nat.zero_le _, Nat.zero_le _⟩ (Nat.le_of_ble_eq_true rfl) dX10_greatestNow_26 ?_
      obtain ⟨v3, hv3, h⟩ := lt_e h
      refine r_topi hv3 ?_
      refine r_istore_n (pc := 29) C (i := 1) dX10_greatestNow_29 rfl (by decide) rfl ?_
      refine r_iinc (pc := 30) C (v := (x3 + 1)) dX10_greatestNow_30 rfl rfl (by decide) rfl ?_
      refine r_goto (pc := 33) C (tgt := 14) dX10_greatestNow_33 rfl ?_
      refine r_weak (lSub_s (lSub_s (lSub_s (lSub_s lSub_e)))) ?_
      exact ih v3 x2 (x3 + 1) q  h hq
def M_X10_greatestNow_4 (k : Nat) (S : Nat → Nat → Int32) : Nat → (Int32) → (Int32) → Option (Int32)
  | 0, _, _ => none
  | n + 1, x1, x2 => (M_X10_tenants k S).bind fun q4 => if q4 ≤ x2 then (some x1) else (M_X10_greatestNow_14 k S (M_X10_greatestNow_4 k S n) k x1 x2 (0 : Int32))
theorem M_X10_greatestNow_4_s (k : Nat) (S : Nat → Nat → Int32) (n : Nat) (x1 : Int32) (x2 : Int32) : M_X10_greatestNow_4 k S (n + 1) x1 x2 = ((M_X10_tenants k S).bind fun q4 => if q4 ≤ x2 then (some x1) else (M_X10_greatestNow_14 k S (M_X10_greatestNow_4 k S n) k x1 x2 (0 : Int32))) := rfl
set_option maxRecDepth 100000 in
set_option maxHeartbeats 4000000 in
theorem N_X10_greatestNow_4 (C : CX E p l s m args meth c cX10_greatestNow 4 RX10 (some .int) A) (a : Nat → Nat) (k : Nat) (S : Nat → Nat → Int32) {post : Int32 → va_W → Prop} :
    ∀ (n : Nat) (x1 : Int32) (x2 : Int32) (q : Int32), M_X10_greatestNow_4 k S n x1 x2 = some q → post q (wMd E a S) →
      WW E p l e rm_X10_greatestNow s m args below meth c A 0 0 (QI E below post args s rm_X10_greatestNow A) (wMd E a S) 4 [some (.ref (a 0)), some (.int x1), some (.int x2), none] 4 [] := by
  intro n
  induction n with
  | zero => intro x1 x2 q  h _; cases h
  | succ n ih =>
    intro x1 x2 q  h hq
    rw [M_X10_greatestNow_4_s] at h
    refine r_iload_n (pc := 4) C (i := 2) dX10_greatestNow_4 rfl rfl ?_
    refine r_aload_n (pc := 5) C (i := 0) dX10_greatestNow_5 rfl rfl ?_
    obtain ⟨q4, hq4, h⟩ := bnd h
    refine r_callVp_CI (Cn := RX10) (pc := 6) C [] (c_X10_tenants E l k a S hq4) [0, 1, 2, 3, 4, 5, 6, 7, 8, 9, 10, 11, 12] rfl (by decide) 0 rfl rfl rfl g_X10_114 hd_X10_tenants ⟨Nat.le_of_ble_eq_true rfl, Nat.le_of_ble_eq_true rfl⟩ ⟨Nat.zero_le _, Nat.zero_le _⟩ (Nat.le_of_ble_eq_true rfl) rfl dX10_greatestNow_6 (fun r hr => ?_)
    have hr := hr.symm
    subst hr
    refine r_icmp_ge (pc := 9) C (tgt := 42) dX10_greatestNow_9 rfl (fun c5 => ?_) (fun c5 => ?_)
    · rw [if_pos c5] at h
      refine r_iload_n (pc := 42) C (i := 1) dX10_greatestNow_42 rfl rfl ?_
      cases h
      exact r_ireti (pc := 43) C hq (Nat.zero_le _) (Nat.zero_le _) dX10_greatestNow_43
    · rw [if_neg c5] at h
      refine r_iconst (pc := 12) C (v := 0) dX10_greatestNow_12 (by decide) ?_
      refine r_istore_n (pc := 13) C (i := 3) dX10_greatestNow_13 rfl (by decide) rfl ?_
      refine r_weak (lSub_s (lSub_s (lSub_s (lSub_s lSub_e)))) ?_
      exact N_X10_greatestNow_14 C a k S (M_X10_greatestNow_4 k S n) ih k x1 x2 (0 : Int32) q  h hq
def M_X10_greatestNow_0 (k : Nat) (S : Nat → Nat → Int32) : Option (Int32) := M_X10_greatestNow_4 k S k (0 : Int32) (0 : Int32)
set_option maxRecDepth 100000 in
set_option maxHeartbeats 4000000 in
theorem N_X10_greatestNow_0 (C : CX E p l s m args meth c cX10_greatestNow 4 RX10 (some .int) A) (a : Nat → Nat) (k : Nat) (S : Nat → Nat → Int32) {post : Int32 → va_W → Prop} :
    ∀ (q : Int32), M_X10_greatestNow_0 k S = some q → post q (wMd E a S) →
      WW E p l e rm_X10_greatestNow s m args below meth c A 0 0 (QI E below post args s rm_X10_greatestNow A) (wMd E a S) 4 [some (.ref (a 0)), none, none, none] 0 [] := by
  intro  q  h hq
  unfold M_X10_greatestNow_0 at h
  refine r_iconst (pc := 0) C (v := 0) dX10_greatestNow_0 (by decide) ?_
  refine r_istore_n (pc := 1) C (i := 1) dX10_greatestNow_1 rfl (by decide) rfl ?_
  refine r_iconst (pc := 2) C (v := 0) dX10_greatestNow_2 (by decide) ?_
  refine r_istore_n (pc := 3) C (i := 2) dX10_greatestNow_3 rfl (by decide) rfl ?_
  refine r_weak (lSub_s (lSub_s (lSub_s (lSub_n lSub_e)))) ?_
  exact N_X10_greatestNow_4 C a k S k (0 : Int32) (0 : Int32) q  h hq
def M_X10_greatestNow (k : Nat) (S : Nat → Nat → Int32) : Option (Int32) := M_X10_greatestNow_0 k S
set_option maxRecDepth 100000 in
set_option maxHeartbeats 4000000 in
theorem c_X10_greatestNow (E : ENV) (l : Launch) (k : Nat) (a : Nat → Nat) (S : Nat → Nat → Int32) {q : Int32} (hm : M_X10_greatestNow k S = some q) : CI E l yX10_greatestNow cX10_greatestNow 4 (some .int) rm_X10_greatestNow [.ref (a 0)] (wMd E a S) (fun r w' => r = q ∧ w' = (wMd E a S)) :=
  CI.of 3 (by decide) (Nat.le_of_ble_eq_true rfl) (fun p e s m below meth c A C _ => r_weak (lSub_s (lSub_n (lSub_n (lSub_n lSub_e)))) (N_X10_greatestNow_0 C a k S q  hm ⟨rfl, rfl⟩))
-- ShardGuardModel.badness(II)I
theorem dX10_badness_0 : decode cX10_badness 0 = .ok (.iconst 0, 1) := by decide +kernel
theorem dX10_badness_1 : decode cX10_badness 1 = .ok (.istore_n 3, 1) := by decide +kernel
theorem dX10_badness_2 : decode cX10_badness 2 = .ok (.iconst 0, 1) := by decide +kernel
theorem dX10_badness_3 : decode cX10_badness 3 = .ok (.istore 4, 2) := by decide +kernel
theorem dX10_badness_5 : decode cX10_badness 5 = .ok (.iconst 0, 1) := by decide +kernel
theorem dX10_badness_6 : decode cX10_badness 6 = .ok (.istore 5, 2) := by decide +kernel
theorem dX10_badness_8 : decode cX10_badness 8 = .ok (.iload 5, 2) := by decide +kernel
theorem dX10_badness_10 : decode cX10_badness 10 = .ok (.aload_n 0, 1) := by decide +kernel
theorem dX10_badness_11 : decode cX10_badness 11 = .ok (.invokevirtual 114, 3) := by decide +kernel
theorem dX10_badness_14 : decode cX10_badness 14 = .ok (.if_icmp .ge 47, 3) := by decide +kernel
theorem dX10_badness_17 : decode cX10_badness 17 = .ok (.iload 5, 2) := by decide +kernel
theorem dX10_badness_19 : decode cX10_badness 19 = .ok (.iload_n 1, 1) := by decide +kernel
theorem dX10_badness_20 : decode cX10_badness 20 = .ok (.if_icmp .ne 7, 3) := by decide +kernel
theorem dX10_badness_23 : decode cX10_badness 23 = .ok (.iconst 0, 1) := by decide +kernel
theorem dX10_badness_24 : decode cX10_badness 24 = .ok (.goto 15, 3) := by decide +kernel
theorem dX10_badness_27 : decode cX10_badness 27 = .ok (.iload_n 2, 1) := by decide +kernel
theorem dX10_badness_28 : decode cX10_badness 28 = .ok (.aload_n 0, 1) := by decide +kernel
theorem dX10_badness_29 : decode cX10_badness 29 = .ok (.iload 5, 2) := by decide +kernel
theorem dX10_badness_31 : decode cX10_badness 31 = .ok (.iconst 0, 1) := by decide +kernel
theorem dX10_badness_32 : decode cX10_badness 32 = .ok (.invokevirtual 120, 3) := by decide +kernel
theorem dX10_badness_35 : decode cX10_badness 35 = .ok (.iand, 1) := by decide +kernel
theorem dX10_badness_36 : decode cX10_badness 36 = .ok (.invokestatic 211, 3) := by decide +kernel
theorem dX10_badness_39 : decode cX10_badness 39 = .ok (.istore 6, 2) := by decide +kernel
theorem dX10_badness_41 : decode cX10_badness 41 = .ok (.iload_n 3, 1) := by decide +kernel
theorem dX10_badness_42 : decode cX10_badness 42 = .ok (.iload 6, 2) := by decide +kernel
theorem dX10_badness_44 : decode cX10_badness 44 = .ok (.invokestatic 219, 3) := by decide +kernel
theorem dX10_badness_47 : decode cX10_badness 47 = .ok (.istore_n 3, 1) := by decide +kernel
theorem dX10_badness_48 : decode cX10_badness 48 = .ok (.iload 4, 2) := by decide +kernel
theorem dX10_badness_50 : decode cX10_badness 50 = .ok (.iload 6, 2) := by decide +kernel
theorem dX10_badness_52 : decode cX10_badness 52 = .ok (.iadd, 1) := by decide +kernel
theorem dX10_badness_53 : decode cX10_badness 53 = .ok (.istore 4, 2) := by decide +kernel
theorem dX10_badness_55 : decode cX10_badness 55 = .ok (.iinc 5 1, 3) := by decide +kernel
theorem dX10_badness_58 : decode cX10_badness 58 = .ok (.goto (-50), 3) := by decide +kernel
theorem dX10_badness_61 : decode cX10_badness 61 = .ok (.sipush 1000, 3) := by decide +kernel
theorem dX10_badness_64 : decode cX10_badness 64 = .ok (.iload_n 3, 1) := by decide +kernel
theorem dX10_badness_65 : decode cX10_badness 65 = .ok (.imul, 1) := by decide +kernel
theorem dX10_badness_66 : decode cX10_badness 66 = .ok (.iload 4, 2) := by decide +kernel
theorem dX10_badness_68 : decode cX10_badness 68 = .ok (.iadd, 1) := by decide +kernel
theorem dX10_badness_69 : decode cX10_badness 69 = .ok (.ireturn, 1) := by decide +kernel
def rm_X10_badness : Room := { frames := 2, cells := 0, slots := 0, locals := 43 }
def M_X10_badness_39 (k : Nat) (S : Nat → Nat → Int32) (κ8 : Int32 → Int32 → Int32 → Int32 → Int32 → Option (Int32)) (x1 : Int32) (x2 : Int32) (x3 : Int32) (x4 : Int32) (x5 : Int32) (y0 : Int32) : Option (Int32) := lt (if x3 < y0 then y0 else x3) fun v1 => lt (x4 + y0) fun v2 => κ8 x1 x2 v1 v2 (x5 + 1)
set_option maxRecDepth 100000 in
set_option maxHeartbeats 4000000 in
theorem N_X10_badness_39 (C : CX E p l s m args meth c cX10_badness 7 RX10 (some .int) A) (a : Nat → Nat) (k : Nat) (S : Nat → Nat → Int32) {post : Int32 → va_W → Prop} (κ8 : Int32 → Int32 → Int32 → Int32 → Int32 → Option (Int32)) (hκ8 : ∀ (x1 : Int32) (x2 : Int32) (x3 : Int32) (x4 : Int32) (x5 : Int32) (q : Int32), κ8 x1 x2 x3 x4 x5 = some q → post q (wMd E a S) → WW E p l e rm_X10_badness s m args below meth c A 0 0 (QI E below post args s rm_X10_badness A) (wMd E a S) 7 [some (.ref (a 0)), some (.int x1), some (.int x2), some (.int x3), some (.int x4), some (.int x5), none] 8 []) :
    ∀ (x1 : Int32) (x2 : Int32) (x3 : Int32) (x4 : Int32) (x5 : Int32) (y0 : Int32) (q : Int32), M_X10_badness_39 k S κ8 x1 x2 x3 x4 x5 y0 = some q → post q (wMd E a S) →
      WW E p l e rm_X10_badness s m args below meth c A 0 0 (QI E below post args s rm_X10_badness A) (wMd E a S) 7 [some (.ref (a 0)), some (.int x1), some (.int x2), some (.int x3), some (.int x4), some (.int x5), none] 39 [.int y0] := by
  intro x1 x2 x3 x4 x5 y0 q  h hq
  unfold M_X10_badness_39 at h
  refine r_istore (pc := 39) C (i := 6) dX10_badness_39 (by decide) rfl ?_
  refine r_iload_n (pc := 41) C (i := 3) dX10_badness_41 rfl rfl ?_
  refine r_iload (pc := 42) C (i := 6) dX10_badness_42 rfl ?_
  refine r_mmax (pc := 44) C wm_6_230 wm_2_86 wm_1_14 wm_2_87 ⟨Nat.le_of_ble_eq_true rfl, Nat.le_of_ble_eq_true rfl, Nat.zero_le _, Nat.zero_le _⟩ (Nat.le_of_ble_eq_true rfl) dX10_badness_44 ?_
  obtain ⟨v1, hv1, h⟩ := lt_e h
  refine r_topi hv1 ?_
  refine r_istore_n (pc := 47) C (i := 3) dX10_badness_47 rfl (by decide) rfl ?_
  refine r_iload (pc := 48) C (i := 4) dX10_badness_48 rfl ?_
  refine r_iload (pc := 50) C (i := 6) dX10_badness_50 rfl ?_
  refine r_iadd (pc := 52) C dX10_badness_52 ?_
  obtain ⟨v2, hv2, h⟩ := lt_e h
  refine r_topi hv2 ?_
  refine r_istore (pc := 53) C (i := 4) dX10_badness_53 (by decide) rfl ?_
  refine r_iinc (pc := 55) C (v := (x5 + 1)) dX10_badness_55 rfl rfl (by decide) rfl ?_
  refine r_goto (pc := 58) C (tgt := 8) dX10_badness_58 rfl ?_
  refine r_weak (lSub_s (lSub_s (lSub_s (lSub_s (lSub_s (lSub_s (lSub_n lSub_e))))))) ?_
  exact hκ8 x1 x2 v1 v2 (x5 + 1) q  h hq
def M_X10_badness_8 (k : Nat) (S : Nat → Nat → Int32) : Nat → (Int32) → (Int32) → (Int32) → (Int32) → (Int32) → Option (Int32)
  | 0, _, _, _, _, _ => none
  | n + 1, x1, x2, x3, x4, x5 => (M_X10_tenants k S).bind fun q3 => if q3 ≤ x5 then (some (((1000 : Int32) * x3) + x4)) else (if x5 = x1 then (M_X10_badness_39 k S (M_X10_badness_8 k S n) x1 x2 x3 x4 x5 (0 : Int32)) else ((M_X10_ofTenant k S x5 (0 : Int32)).bind fun q6 => (M_J6_bitCount_0f7a4 k (x2 &&& q6)).bind fun q7 => M_X10_badness_39 k S (M_X10_badness_8 k S n) x1 x2 x3 x4 x5 q7))
theorem M_X10_badness_8_s (k : Nat) (S : Nat → Nat → Int32) (n : Nat) (x1 : Int32) (x2 : Int32) (x3 : Int32) (x4 : Int32) (x5 : Int32) : M_X10_badness_8 k S (n + 1) x1 x2 x3 x4 x5 = ((M_X10_tenants k S).bind fun q3 => if q3 ≤ x5 then (some (((1000 : Int32) * x3) + x4)) else (if x5 = x1 then (M_X10_badness_39 k S (M_X10_badness_8 k S n) x1 x2 x3 x4 x5 (0 : Int32)) else ((M_X10_ofTenant k S x5 (0 : Int32)).bind fun q6 => (M_J6_bitCount_0f7a4 k (x2 &&& q6)).bind fun q7 => M_X10_badness_39 k S (M_X10_badness_8 k S n) x1 x2 x3 x4 x5 q7))) := rfl
set_option maxRecDepth 100000 in
set_option maxHeartbeats 4000000 in
theorem N_X10_badness_8 (C : CX E p l s m args meth c cX10_badness 7 RX10 (some .int) A) (a : Nat → Nat) (k : Nat) (S : Nat → Nat → Int32) {post : Int32 → va_W → Prop} :
    ∀ (n : Nat) (x1 : Int32) (x2 : Int32) (x3 : Int32) (x4 : Int32) (x5 : Int32) (q : Int32), M_X10_badness_8 k S n x1 x2 x3 x4 x5 = some q → post q (wMd E a S) →
      WW E p l e rm_X10_badness s m args below meth c A 0 0 (QI E below post args s rm_X10_badness A) (wMd E a S) 7 [some (.ref (a 0)), some (.int x1), some (.int x2), some (.int x3), some (.int x4), some (.int x5), none] 8 [] := by
  intro n
  induction n with
  | zero => intro x1 x2 x3 x4 x5 q  h _; cases h
  | succ n ih =>
    intro x1 x2 x3 x4 x5 q  h hq
    rw [M_X10_badness_8_s] at h
    refine r_iload (pc := 8) C (i := 5) dX10_badness_8 rfl ?_
    refine r_aload_n (pc := 10) C (i := 0) dX10_badness_10 rfl rfl ?_
    obtain ⟨q3, hq3, h⟩ := bnd h
    refine r_callVp_CI (Cn := RX10) (pc := 11) C [] (c_X10_tenants E l k a S hq3) [0, 1, 2, 3, 4, 5, 6, 7, 8, 9, 10, 11, 12] rfl (by decide) 0 rfl rfl rfl g_X10_114 hd_X10_tenants ⟨Nat.le_of_ble_eq_true rfl, Nat.le_of_ble_eq_true rfl⟩ ⟨Nat.zero_le _, Nat.zero_le _⟩ (Nat.le_of_ble_eq_true rfl) rfl dX10_badness_11 (fun r hr => ?_)
    have hr := hr.symm
    subst hr
    refine r_icmp_ge (pc := 14) C (tgt := 61) dX10_badness_14 rfl (fun c4 => ?_) (fun c4 => ?_)
    · rw [if_pos c4] at h
      refine r_sipush (pc := 61) C (v := 1000) dX10_badness_61 (by decide) ?_
      refine r_iload_n (pc := 64) C (i := 3) dX10_badness_64 rfl rfl ?_
      refine r_imul (pc := 65) C dX10_badness_65 ?_
      refine r_iload (pc := 66) C (i := 4) dX10_badness_66 rfl ?_
      refine r_iadd (pc := 68) C dX10_badness_68 ?_
      cases h
      exact r_ireti (pc := 69) C hq (Nat.zero_le _) (Nat.zero_le _) dX10_badness_69
    · rw [if_neg c4] at h
      refine r_iload (pc := 17) C (i := 5) dX10_badness_17 rfl ?_
      refine r_iload_n (pc := 19) C (i := 1) dX10_badness_19 rfl rfl ?_
      refine r_icmp_ne (pc := 20) C (tgt := 27) dX10_badness_20 rfl (fun c5 => ?_) (fun c5 => ?_)
      · rw [if_neg c5] at h
        refine r_iload_n (pc := 27) C (i := 2) dX10_badness_27 rfl rfl ?_
        refine r_aload_n (pc := 28) C (i := 0) dX10_badness_28 rfl rfl ?_
        refine r_iload (pc := 29) C (i := 5) dX10_badness_29 rfl ?_
        refine r_iconst (pc := 31) C (v := 0) dX10_badness_31 (by decide) ?_
        obtain ⟨q6, hq6, h⟩ := bnd h
        refine r_callVp_CI (Cn := RX10) (pc := 32) C [.int x5, .int (0 : Int32)] (c_X10_ofTenant E l k a S x5 (0 : Int32) hq6) [0, 1, 2, 3, 4, 5, 6, 7, 8, 9, 10, 11, 12] rfl (by decide) 0 rfl rfl rfl g_X10_120 hd_X10_ofTenant ⟨Nat.le_of_ble_eq_true rfl, Nat.le_of_ble_eq_true rfl⟩ ⟨Nat.zero_le _, Nat.zero_le _⟩ (Nat.le_of_ble_eq_true rfl) rfl dX10_badness_32 (fun r hr => ?_)
        have hr := hr.symm
        subst hr
        refine r_iand (pc := 35) C dX10_badness_35 ?_
        obtain ⟨q7, hq7, h⟩ := bnd h
        refine r_callSp_CI (pc := 36) C [.int (x2 &&& q6)] (c_J6_bitCount_0f7a4 E l k (x2 &&& q6) hq7) [] rfl (by decide) g_X10_211 hd_J6_bitCount_0f7a4.2 ⟨Nat.le_of_ble_eq_true rfl, Nat.le_of_ble_eq_true rfl⟩ ⟨Nat.zero_le _, Nat.zero_le _⟩ (Nat.le_of_ble_eq_true rfl) rfl dX10_badness_36 (fun r hr => ?_)
        have hr := hr.symm
        subst hr
        refine r_weak (lSub_s (lSub_s (lSub_s (lSub_s (lSub_s (lSub_s (lSub_n lSub_e))))))) ?_
        exact N_X10_badness_39 C a k S (M_X10_badness_8 k S n) ih x1 x2 x3 x4 x5 q7 q  h hq
      · rw [if_pos c5] at h
        refine r_iconst (pc := 23) C (v := 0) dX10_badness_23 (by decide) ?_
        refine r_goto (pc := 24) C (tgt := 39) dX10_badness_24 rfl ?_
        refine r_weak (lSub_s (lSub_s (lSub_s (lSub_s (lSub_s (lSub_s (lSub_n lSub_e))))))) ?_
        exact N_X10_badness_39 C a k S (M_X10_badness_8 k S n) ih x1 x2 x3 x4 x5 (0 : Int32) q  h hq
def M_X10_badness_0 (k : Nat) (S : Nat → Nat → Int32) (p0 : Int32) (p1 : Int32) : Option (Int32) := M_X10_badness_8 k S k p0 p1 (0 : Int32) (0 : Int32) (0 : Int32)
set_option maxRecDepth 100000 in
set_option maxHeartbeats 4000000 in
theorem N_X10_badness_0 (C : CX E p l s m args meth c cX10_badness 7 RX10 (some .int) A) (a : Nat → Nat) (k : Nat) (S : Nat → Nat → Int32) {post : Int32 → va_W → Prop} :
    ∀ (p0 : Int32) (p1 : Int32) (q : Int32), M_X10_badness_0 k S p0 p1 = some q → post q (wMd E a S) →
      WW E p l e rm_X10_badness s m args below meth c A 0 0 (QI E below post args s rm_X10_badness A) (wMd E a S) 7 [some (.ref (a 0)), some (.int p0), some (.int p1), none, none, none, none] 0 [] := by
  intro p0 p1 q  h hq
  unfold M_X10_badness_0 at h
  refine r_iconst (pc := 0) C (v := 0) dX10_badness_0 (by decide) ?_
  refine r_istore_n (pc := 1) C (i := 3) dX10_badness_1 rfl (by decide) rfl ?_
  refine r_iconst (pc := 2) C (v := 0) dX10_badness_2 (by decide) ?_
  refine r_istore (pc := 3) C (i := 4) dX10_badness_3 (by decide) rfl ?_
  refine r_iconst (pc := 5) C (v := 0) dX10_badness_5 (by decide) ?_
  refine r_istore (pc := 6) C (i := 5) dX10_badness_6 (by decide) rfl ?_
  refine r_weak (lSub_s (lSub_s (lSub_s (lSub_s (lSub_s (lSub_s (lSub_n lSub_e))))))) ?_
  exact N_X10_badness_8 C a k S k p0 p1 (0 : Int32) (0 : Int32) (0 : Int32) q  h hq
def M_X10_badness (k : Nat) (S : Nat → Nat → Int32) (p0 : Int32) (p1 : Int32) : Option (Int32) := M_X10_badness_0 k S p0 p1
set_option maxRecDepth 100000 in
set_option maxHeartbeats 4000000 in
theorem c_X10_badness (E : ENV) (l : Launch) (k : Nat) (a : Nat → Nat) (S : Nat → Nat → Int32) (p0 : Int32) (p1 : Int32) {q : Int32} (hm : M_X10_badness k S p0 p1 = some q) : CI E l yX10_badness cX10_badness 7 (some .int) rm_X10_badness [.ref (a 0), .int p0, .int p1] (wMd E a S) (fun r w' => r = q ∧ w' = (wMd E a S)) :=
  CI.of 4 (by decide) (Nat.le_of_ble_eq_true rfl) (fun p e s m below meth c A C _ => r_weak (lSub_s (lSub_s (lSub_s (lSub_n (lSub_n (lSub_n (lSub_n lSub_e))))))) (N_X10_badness_0 C a k S p0 p1 q  hm ⟨rfl, rfl⟩))
end WALKS
