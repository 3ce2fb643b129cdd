section WALKS
variable {E : ENV} {p : Program} {l : Launch} {e : Env} {s : State} {m : MethodId} {args : Array Value} {below : List Frame} {meth : Method} {c : Code} {A : Nat → Prop}
theorem hd_X10_shut : yX10_shut.cls = RX10 ∧ yX10_shut.cls ≠ "java/lang/invoke/MethodHandle" ∧ yX10_shut.cls ≠ "java/lang/invoke/VarHandle" ∧ (parseMethodDescriptor yX10_shut.desc).map (fun d => d.parameters.length) = some 1 := by decide +kernel
theorem g_X10_205 : GoodIn GW (wsV RX10 205 RX10 yX10_shut (wsG yX10_shut cX10_shut 2 none)) := gw_V wm_7_99 wm_7_101 wm_0_71 wm_1_9 wm_7_102
theorem hd_X10_startWorkers : yX10_startWorkers.cls = RX10 ∧ yX10_startWorkers.cls ≠ "java/lang/invoke/MethodHandle" ∧ yX10_startWorkers.cls ≠ "java/lang/invoke/VarHandle" ∧ (parseMethodDescriptor yX10_startWorkers.desc).map (fun d => d.parameters.length) = some 0 := by decide +kernel
theorem g_X10_187 : GoodIn GW (wsV RX10 187 RX10 yX10_startWorkers (wsG yX10_startWorkers cX10_startWorkers 2 none)) := gw_V wm_7_59 wm_7_61 wm_0_61 wm_1_9 wm_7_62
theorem hd_X10_routeParked : yX10_routeParked.cls = RX10 ∧ yX10_routeParked.cls ≠ "java/lang/invoke/MethodHandle" ∧ yX10_routeParked.cls ≠ "java/lang/invoke/VarHandle" ∧ (parseMethodDescriptor yX10_routeParked.desc).map (fun d => d.parameters.length) = some 0 := by decide +kernel
theorem g_X10_190 : GoodIn GW (wsV RX10 190 RX10 yX10_routeParked (wsG yX10_routeParked cX10_routeParked 4 none)) := gw_V wm_7_63 wm_7_65 wm_0_62 wm_1_9 wm_7_66
theorem hd_X10_workAll : yX10_workAll.cls = RX10 ∧ yX10_workAll.cls ≠ "java/lang/invoke/MethodHandle" ∧ yX10_workAll.cls ≠ "java/lang/invoke/VarHandle" ∧ (parseMethodDescriptor yX10_workAll.desc).map (fun d => d.parameters.length) = some 0 := by decide +kernel
theorem g_X10_193 : GoodIn GW (wsV RX10 193 RX10 yX10_workAll (wsG yX10_workAll cX10_workAll 3 none)) := gw_V wm_7_71 wm_7_73 wm_0_64 wm_1_9 wm_7_74
theorem hd_X10_clearUp : yX10_clearUp.cls = RX10 ∧ yX10_clearUp.cls ≠ "java/lang/invoke/MethodHandle" ∧ yX10_clearUp.cls ≠ "java/lang/invoke/VarHandle" ∧ (parseMethodDescriptor yX10_clearUp.desc).map (fun d => d.parameters.length) = some 0 := by decide +kernel
theorem g_X10_196 : GoodIn GW (wsV RX10 196 RX10 yX10_clearUp (wsG yX10_clearUp cX10_clearUp 3 none)) := gw_V wm_7_87 wm_7_89 wm_0_68 wm_1_9 wm_7_90
-- ShardGuardModel.tick()V
theorem dX10_tick_0 : decode cX10_tick 0 = .ok (.aload_n 0, 1) := by decide +kernel
theorem dX10_tick_1 : decode cX10_tick 1 = .ok (.getfield 25, 3) := by decide +kernel
theorem dX10_tick_4 : decode cX10_tick 4 = .ok (.iconst 4, 1) := by decide +kernel
theorem dX10_tick_5 : decode cX10_tick 5 = .ok (.dup2, 1) := by decide +kernel
theorem dX10_tick_6 : decode cX10_tick 6 = .ok (.iaload, 1) := by decide +kernel
theorem dX10_tick_7 : decode cX10_tick 7 = .ok (.iconst 1, 1) := by decide +kernel
theorem dX10_tick_8 : decode cX10_tick 8 = .ok (.iadd, 1) := by decide +kernel
theorem dX10_tick_9 : decode cX10_tick 9 = .ok (.iastore, 1) := by decide +kernel
theorem dX10_tick_10 : decode cX10_tick 10 = .ok (.aload_n 0, 1) := by decide +kernel
theorem dX10_tick_11 : decode cX10_tick 11 = .ok (.invokevirtual 187, 3) := by decide +kernel
theorem dX10_tick_14 : decode cX10_tick 14 = .ok (.aload_n 0, 1) := by decide +kernel
theorem dX10_tick_15 : decode cX10_tick 15 = .ok (.invokevirtual 190, 3) := by decide +kernel
theorem dX10_tick_18 : decode cX10_tick 18 = .ok (.aload_n 0, 1) := by decide +kernel
theorem dX10_tick_19 : decode cX10_tick 19 = .ok (.invokevirtual 193, 3) := by decide +kernel
theorem dX10_tick_22 : decode cX10_tick 22 = .ok (.aload_n 0, 1) := by decide +kernel
theorem dX10_tick_23 : decode cX10_tick 23 = .ok (.invokevirtual 196, 3) := by decide +kernel
theorem dX10_tick_26 : decode cX10_tick 26 = .ok (.iconst 0, 1) := by decide +kernel
theorem dX10_tick_27 : decode cX10_tick 27 = .ok (.istore_n 1, 1) := by decide +kernel
theorem dX10_tick_28 : decode cX10_tick 28 = .ok (.iload_n 1, 1) := by decide +kernel
theorem dX10_tick_29 : decode cX10_tick 29 = .ok (.aload_n 0, 1) := by decide +kernel
theorem dX10_tick_30 : decode cX10_tick 30 = .ok (.invokevirtual 114, 3) := by decide +kernel
theorem dX10_tick_33 : decode cX10_tick 33 = .ok (.if_icmp .ge 35, 3) := by decide +kernel
theorem dX10_tick_36 : decode cX10_tick 36 = .ok (.aload_n 0, 1) := by decide +kernel
theorem dX10_tick_37 : decode cX10_tick 37 = .ok (.iload_n 1, 1) := by decide +kernel
theorem dX10_tick_38 : decode cX10_tick 38 = .ok (.iconst 1, 1) := by decide +kernel
theorem dX10_tick_39 : decode cX10_tick 39 = .ok (.invokevirtual 120, 3) := by decide +kernel
theorem dX10_tick_42 : decode cX10_tick 42 = .ok (.aload_n 0, 1) := by decide +kernel
theorem dX10_tick_43 : decode cX10_tick 43 = .ok (.getfield 25, 3) := by decide +kernel
theorem dX10_tick_46 : decode cX10_tick 46 = .ok (.iconst 4, 1) := by decide +kernel
theorem dX10_tick_47 : decode cX10_tick 47 = .ok (.iaload, 1) := by decide +kernel
theorem dX10_tick_48 : decode cX10_tick 48 = .ok (.if_icmp .ne 14, 3) := by decide +kernel
theorem dX10_tick_51 : decode cX10_tick 51 = .ok (.aload_n 0, 1) := by decide +kernel
theorem dX10_tick_52 : decode cX10_tick 52 = .ok (.getfield 25, 3) := by decide +kernel
theorem dX10_tick_55 : decode cX10_tick 55 = .ok (.iload_n 1, 1) := by decide +kernel
theorem dX10_tick_56 : decode cX10_tick 56 = .ok (.iconst 1, 1) := by decide +kernel
theorem dX10_tick_57 : decode cX10_tick 57 = .ok (.invokestatic 100, 3) := by decide +kernel
theorem dX10_tick_60 : decode cX10_tick 60 = .ok (.iconst (-1), 1) := by decide +kernel
theorem dX10_tick_61 : decode cX10_tick 61 = .ok (.iastore, 1) := by decide +kernel
theorem dX10_tick_62 : decode cX10_tick 62 = .ok (.iinc 1 1, 3) := by decide +kernel
theorem dX10_tick_65 : decode cX10_tick 65 = .ok (.goto (-37), 3) := by decide +kernel
theorem dX10_tick_68 : decode cX10_tick 68 = .ok (.iconst 0, 1) := by decide +kernel
theorem dX10_tick_69 : decode cX10_tick 69 = .ok (.istore_n 1, 1) := by decide +kernel
theorem dX10_tick_70 : decode cX10_tick 70 = .ok (.iload_n 1, 1) := by decide +kernel
theorem dX10_tick_71 : decode cX10_tick 71 = .ok (.aload_n 0, 1) := by decide +kernel
theorem dX10_tick_72 : decode cX10_tick 72 = .ok (.invokevirtual 114, 3) := by decide +kernel
theorem dX10_tick_75 : decode cX10_tick 75 = .ok (.if_icmp .ge 35, 3) := by decide +kernel
theorem dX10_tick_78 : decode cX10_tick 78 = .ok (.aload_n 0, 1) := by decide +kernel
theorem dX10_tick_79 : decode cX10_tick 79 = .ok (.iload_n 1, 1) := by decide +kernel
theorem dX10_tick_80 : decode cX10_tick 80 = .ok (.invokevirtual 199, 3) := by decide +kernel
theorem dX10_tick_83 : decode cX10_tick 83 = .ok (.ifCond .eq 21, 3) := by decide +kernel
theorem dX10_tick_86 : decode cX10_tick 86 = .ok (.aload_n 0, 1) := by decide +kernel
theorem dX10_tick_87 : decode cX10_tick 87 = .ok (.iload_n 1, 1) := by decide +kernel
theorem dX10_tick_88 : decode cX10_tick 88 = .ok (.invokevirtual 202, 3) := by decide +kernel
theorem dX10_tick_91 : decode cX10_tick 91 = .ok (.aload_n 0, 1) := by decide +kernel
theorem dX10_tick_92 : decode cX10_tick 92 = .ok (.iconst 2, 1) := by decide +kernel
theorem dX10_tick_93 : decode cX10_tick 93 = .ok (.invokevirtual 162, 3) := by decide +kernel
theorem dX10_tick_96 : decode cX10_tick 96 = .ok (.if_icmp .lt 8, 3) := by decide +kernel
theorem dX10_tick_99 : decode cX10_tick 99 = .ok (.aload_n 0, 1) := by decide +kernel
theorem dX10_tick_100 : decode cX10_tick 100 = .ok (.iload_n 1, 1) := by decide +kernel
theorem dX10_tick_101 : decode cX10_tick 101 = .ok (.invokevirtual 205, 3) := by decide +kernel
theorem dX10_tick_104 : decode cX10_tick 104 = .ok (.iinc 1 1, 3) := by decide +kernel
theorem dX10_tick_107 : decode cX10_tick 107 = .ok (.goto (-37), 3) := by decide +kernel
theorem dX10_tick_110 : decode cX10_tick 110 = .ok (.return_, 1) := by decide +kernel
def rm_X10_tick : Room := { frames := 8, cells := 0, slots := 0, locals := 179 }
def M_X10_tick_70 (k : Nat) : Nat → (Int32) → (Nat → Nat → Int32) → Option ((Nat → Nat → Int32))
  | 0, _, _ => none
  | n + 1, x1, S => (M_X10_tenants k S).bind fun q1 => if q1 ≤ x1 then (some S) else ((M_X10_isOpen k S x1).bind fun q3 => if q3 = 0 then (M_X10_tick_70 k n (x1 + 1) S) else ((M_X10_counted k S x1).bind fun q5 => (M_X10_told k S (2 : Int32)).bind fun q6 => if q5 < q6 then (M_X10_tick_70 k n (x1 + 1) S) else ((M_X10_shut k S x1).bind fun q8 => M_X10_tick_70 k n (x1 + 1) q8)))
theorem M_X10_tick_70_s (k : Nat) (n : Nat) (x1 : Int32) (S : Nat → Nat → Int32) : M_X10_tick_70 k (n + 1) x1 S = ((M_X10_tenants k S).bind fun q1 => if q1 ≤ x1 then (some S) else ((M_X10_isOpen k S x1).bind fun q3 => if q3 = 0 then (M_X10_tick_70 k n (x1 + 1) S) else ((M_X10_counted k S x1).bind fun q5 => (M_X10_told k S (2 : Int32)).bind fun q6 => if q5 < q6 then (M_X10_tick_70 k n (x1 + 1) S) else ((M_X10_shut k S x1).bind fun q8 => M_X10_tick_70 k n (x1 + 1) q8)))) := rfl
set_option maxRecDepth 100000 in
set_option maxHeartbeats 4000000 in
theorem N_X10_tick_70 (C : CX E p l s m args meth c cX10_tick 2 RX10 none A) (a : Nat → Nat) (k : Nat) {post : va_W → Prop} :
    ∀ (n : Nat) (x1 : Int32) (S : Nat → Nat → Int32) (q : (Nat → Nat → Int32)), M_X10_tick_70 k n x1 S = some q → post (wMd E a q) →
      WW E p l e rm_X10_tick s m args below meth c A 0 0 (QV E below post args s rm_X10_tick A) (wMd E a S) 2 [some (.ref (a 0)), some (.int x1)] 70 [] := by
  intro n
  induction n with
  | zero => intro x1 S q  h _; cases h
  | succ n ih =>
    intro x1 S q  h hq
    rw [M_X10_tick_70_s] at h
    refine r_iload_n (pc := 70) C (i := 1) dX10_tick_70 rfl rfl ?_
    refine r_aload_n (pc := 71) C (i := 0) dX10_tick_71 rfl rfl ?_
    obtain ⟨q1, hq1, h⟩ := bnd h
    refine r_callVp_CI (Cn := RX10) (pc := 72) C [] (c_X10_tenants E l k a S hq1) [0, 1, 2, 3, 4, 5, 6, 7, 8, 9, 10, 11, 12] rfl (by decide) 0 rfl rfl rfl g_X10_114 hd_X10_tenants ⟨Nat.le_of_ble_eq_true rfl, Nat.le_of_ble_eq_true rfl⟩ ⟨Nat.zero_le _, Nat.zero_le _⟩ (Nat.le_of_ble_eq_true rfl) rfl dX10_tick_72 (fun r hr => ?_)
    have hr := hr.symm
    subst hr
    refine r_icmp_ge (pc := 75) C (tgt := 110) dX10_tick_75 rfl (fun c2 => ?_) (fun c2 => ?_)
    · rw [if_pos c2] at h
      cases h
      exact r_vret (pc := 110) C hq (Nat.zero_le _) (Nat.zero_le _) dX10_tick_110
    · rw [if_neg c2] at h
      refine r_aload_n (pc := 78) C (i := 0) dX10_tick_78 rfl rfl ?_
      refine r_iload_n (pc := 79) C (i := 1) dX10_tick_79 rfl rfl ?_
      obtain ⟨q3, hq3, h⟩ := bnd h
      refine r_callVp_CI (Cn := RX10) (pc := 80) C [.int x1] (c_X10_isOpen E l k a S x1 hq3) [0, 1, 2, 3, 4, 5, 6, 7, 8, 9, 10, 11, 12] rfl (by decide) 0 rfl rfl rfl g_X10_199 hd_X10_isOpen ⟨Nat.le_of_ble_eq_true rfl, Nat.le_of_ble_eq_true rfl⟩ ⟨Nat.zero_le _, Nat.zero_le _⟩ (Nat.le_of_ble_eq_true rfl) rfl dX10_tick_80 (fun r hr => ?_)
      have hr := hr.symm
      subst hr
      refine r_if_eq (pc := 83) C (tgt := 104) dX10_tick_83 rfl (fun c4 => ?_) (fun c4 => ?_)
      · rw [if_pos c4] at h
        refine r_iinc (pc := 104) C (v := (x1 + 1)) dX10_tick_104 rfl rfl (by decide) rfl ?_
        refine r_goto (pc := 107) C (tgt := 70) dX10_tick_107 rfl ?_
        refine r_weak (lSub_s (lSub_s lSub_e)) ?_
        exact ih (x1 + 1) S q  h hq
      · rw [if_neg c4] at h
        refine r_aload_n (pc := 86) C (i := 0) dX10_tick_86 rfl rfl ?_
        refine r_iload_n (pc := 87) C (i := 1) dX10_tick_87 rfl rfl ?_
        obtain ⟨q5, hq5, h⟩ := bnd h
        refine r_callVp_CI (Cn := RX10) (pc := 88) C [.int x1] (c_X10_counted E l k a S x1 hq5) [0, 1, 2, 3, 4, 5, 6, 7, 8, 9, 10, 11, 12] rfl (by decide) 0 rfl rfl rfl g_X10_202 hd_X10_counted ⟨Nat.le_of_ble_eq_true rfl, Nat.le_of_ble_eq_true rfl⟩ ⟨Nat.zero_le _, Nat.zero_le _⟩ (Nat.le_of_ble_eq_true rfl) rfl dX10_tick_88 (fun r hr => ?_)
        have hr := hr.symm
        subst hr
        refine r_aload_n (pc := 91) C (i := 0) dX10_tick_91 rfl rfl ?_
        refine r_iconst (pc := 92) C (v := 2) dX10_tick_92 (by decide) ?_
        obtain ⟨q6, hq6, h⟩ := bnd h
        refine r_callVp_CI (Cn := RX10) (pc := 93) C [.int (2 : Int32)] (c_X10_told E l k a S (2 : Int32) hq6) [0, 1, 2, 3, 4, 5, 6, 7, 8, 9, 10, 11, 12] rfl (by decide) 0 rfl rfl rfl g_X10_162 hd_X10_told ⟨Nat.le_of_ble_eq_true rfl, Nat.le_of_ble_eq_true rfl⟩ ⟨Nat.zero_le _, Nat.zero_le _⟩ (Nat.le_of_ble_eq_true rfl) rfl dX10_tick_93 (fun r hr => ?_)
        have hr := hr.symm
        subst hr
        refine r_icmp_lt (pc := 96) C (tgt := 104) dX10_tick_96 rfl (fun c7 => ?_) (fun c7 => ?_)
        · rw [if_pos c7] at h
          refine r_iinc (pc := 104) C (v := (x1 + 1)) dX10_tick_104 rfl rfl (by decide) rfl ?_
          refine r_goto (pc := 107) C (tgt := 70) dX10_tick_107 rfl ?_
          refine r_weak (lSub_s (lSub_s lSub_e)) ?_
          exact ih (x1 + 1) S q  h hq
        · rw [if_neg c7] at h
          refine r_aload_n (pc := 99) C (i := 0) dX10_tick_99 rfl rfl ?_
          refine r_iload_n (pc := 100) C (i := 1) dX10_tick_100 rfl rfl ?_
          obtain ⟨q8, hq8, h⟩ := bnd h
          refine r_callV_CV (Cn := RX10) (pc := 101) C [.int x1] (c_X10_shut E l k a S x1 hq8) [0, 1, 2, 3, 4, 5, 6, 7, 8, 9, 10, 11, 12] rfl (by decide) 0 rfl rfl rfl g_X10_205 hd_X10_shut ⟨Nat.le_of_ble_eq_true rfl, Nat.le_of_ble_eq_true rfl⟩ ⟨Nat.zero_le _, Nat.zero_le _⟩ (Nat.le_of_ble_eq_true rfl) rfl dX10_tick_101 (fun w1 hw1 => ?_)
          subst hw1
          refine ⟨(wMd E a q8), by rfl, ?_⟩
          refine r_iinc (pc := 104) C (v := (x1 + 1)) dX10_tick_104 rfl rfl (by decide) rfl ?_
          refine r_goto (pc := 107) C (tgt := 70) dX10_tick_107 rfl ?_
          refine r_weak (lSub_s (lSub_s lSub_e)) ?_
          exact ih (x1 + 1) q8 q  h hq
def M_X10_tick_28 (k : Nat) : Nat → (Int32) → (Nat → Nat → Int32) → Option ((Nat → Nat → Int32))
  | 0, _, _ => none
  | n + 1, x1, S => (M_X10_tenants k S).bind fun q9 => if q9 ≤ x1 then (M_X10_tick_70 k k (0 : Int32) S) else ((M_X10_ofTenant k S x1 (1 : Int32)).bind fun q11 => lt (gsel S) fun g12 => (if gokN g12 = true then (if inb (4 : Int32) 1692 = true then if q11 = (S g12 (4 : Int32).toNatClampNeg) then (lt (gsel S) fun g15 => (if gokN g15 = true then (M_X10_tenantAt k x1 (1 : Int32)).bind fun q16 => (if inb q16 1692 = true then lt (va_up S g15 (upd (S g15) q16.toNatClampNeg (-1 : Int32))) fun F18 => M_X10_tick_28 k n (x1 + 1) F18 else none) else none)) else (M_X10_tick_28 k n (x1 + 1) S) else none) else none))
theorem M_X10_tick_28_s (k : Nat) (n : Nat) (x1 : Int32) (S : Nat → Nat → Int32) : M_X10_tick_28 k (n + 1) x1 S = ((M_X10_tenants k S).bind fun q9 => if q9 ≤ x1 then (M_X10_tick_70 k k (0 : Int32) S) else ((M_X10_ofTenant k S x1 (1 : Int32)).bind fun q11 => lt (gsel S) fun g12 => (if gokN g12 = true then (if inb (4 : Int32) 1692 = true then if q11 = (S g12 (4 : Int32).toNatClampNeg) then (lt (gsel S) fun g15 => (if gokN g15 = true then (M_X10_tenantAt k x1 (1 : Int32)).bind fun q16 => (if inb q16 1692 = true then lt (va_up S g15 (upd (S g15) q16.toNatClampNeg (-1 : Int32))) fun F18 => M_X10_tick_28 k n (x1 + 1) F18 else none) else none)) else (M_X10_tick_28 k n (x1 + 1) S) else none) else none))) := rfl
set_option maxRecDepth 100000 in
set_option maxHeartbeats 4000000 in
theorem N_X10_tick_28 (C : CX E p l s m args meth c cX10_tick 2 RX10 none A) (a : Nat → Nat) (k : Nat) {post : va_W → Prop} :
    ∀ (n : Nat) (x1 : Int32) (S : Nat → Nat → Int32) (q : (Nat → Nat → Int32)), M_X10_tick_28 k n x1 S = some q → post (wMd E a q) →
      WW E p l e rm_X10_tick s m args below meth c A 0 0 (QV E below post args s rm_X10_tick A) (wMd E a S) 2 [some (.ref (a 0)), some (.int x1)] 28 [] := by
  intro n
  induction n with
  | zero => intro x1 S q  h _; cases h
  | succ n ih =>
    intro x1 S q  h hq
    rw [M_X10_tick_28_s] at h
    refine r_iload_n (pc := 28) C (i := 1) dX10_tick_28 rfl rfl ?_
    refine r_aload_n (pc := 29) C (i := 0) dX10_tick_29 rfl rfl ?_
    obtain ⟨q9, hq9, h⟩ := bnd h
    refine r_callVp_CI (Cn := RX10) (pc := 30) C [] (c_X10_tenants E l k a S hq9) [0, 1, 2, 3, 4, 5, 6, 7, 8, 9, 10, 11, 12] rfl (by decide) 0 rfl rfl rfl g_X10_114 hd_X10_tenants ⟨Nat.le_of_ble_eq_true rfl, Nat.le_of_ble_eq_true rfl⟩ ⟨Nat.zero_le _, Nat.zero_le _⟩ (Nat.le_of_ble_eq_true rfl) rfl dX10_tick_30 (fun r hr => ?_)
    have hr := hr.symm
    subst hr
    refine r_icmp_ge (pc := 33) C (tgt := 68) dX10_tick_33 rfl (fun c10 => ?_) (fun c10 => ?_)
    · rw [if_pos c10] at h
      refine r_iconst (pc := 68) C (v := 0) dX10_tick_68 (by decide) ?_
      refine r_istore_n (pc := 69) C (i := 1) dX10_tick_69 rfl (by decide) rfl ?_
      refine r_weak (lSub_s (lSub_s lSub_e)) ?_
      exact N_X10_tick_70 C a k k (0 : Int32) S q  h hq
    · rw [if_neg c10] at h
      refine r_aload_n (pc := 36) C (i := 0) dX10_tick_36 rfl rfl ?_
      refine r_iload_n (pc := 37) C (i := 1) dX10_tick_37 rfl rfl ?_
      refine r_iconst (pc := 38) C (v := 1) dX10_tick_38 (by decide) ?_
      obtain ⟨q11, hq11, h⟩ := bnd h
      refine r_callVp_CI (Cn := RX10) (pc := 39) C [.int x1, .int (1 : Int32)] (c_X10_ofTenant E l k a S x1 (1 : Int32) hq11) [0, 1, 2, 3, 4, 5, 6, 7, 8, 9, 10, 11, 12] rfl (by decide) 0 rfl rfl rfl g_X10_120 hd_X10_ofTenant ⟨Nat.le_of_ble_eq_true rfl, Nat.le_of_ble_eq_true rfl⟩ ⟨Nat.zero_le _, Nat.zero_le _⟩ (Nat.le_of_ble_eq_true rfl) rfl dX10_tick_39 (fun r hr => ?_)
      have hr := hr.symm
      subst hr
      refine r_aload_n (pc := 42) C (i := 0) dX10_tick_42 rfl rfl ?_
      obtain ⟨g12, hg12, h⟩ := lt_e h
      obtain ⟨kg12, h⟩ := ifn h
      refine r_get (pc := 43) C gwX10 0 rfl rfl 8 (by decide) wm_5_211 rfl dX10_tick_43 ?_
      refine r_topg (a := a) hg12 ?_
      refine r_iconst (pc := 46) C (v := 4) dX10_tick_46 (by decide) ?_
      obtain ⟨hi13, h⟩ := ifn h
      refine r_iald (pc := 47) C g12 (wMd_at kg12) hi13 dX10_tick_47 ?_
      refine r_icmp_ne (pc := 48) C (tgt := 62) dX10_tick_48 rfl (fun c14 => ?_) (fun c14 => ?_)
      · rw [if_neg c14] at h
        refine r_iinc (pc := 62) C (v := (x1 + 1)) dX10_tick_62 rfl rfl (by decide) rfl ?_
        refine r_goto (pc := 65) C (tgt := 28) dX10_tick_65 rfl ?_
        refine r_weak (lSub_s (lSub_s lSub_e)) ?_
        exact ih (x1 + 1) S q  h hq
      · rw [if_pos c14] at h
        refine r_aload_n (pc := 51) C (i := 0) dX10_tick_51 rfl rfl ?_
        obtain ⟨g15, hg15, h⟩ := lt_e h
        obtain ⟨kg15, h⟩ := ifn h
        refine r_get (pc := 52) C gwX10 0 rfl rfl 8 (by decide) wm_5_211 rfl dX10_tick_52 ?_
        refine r_topg (a := a) hg15 ?_
        refine r_iload_n (pc := 55) C (i := 1) dX10_tick_55 rfl rfl ?_
        refine r_iconst (pc := 56) C (v := 1) dX10_tick_56 (by decide) ?_
        obtain ⟨q16, hq16, h⟩ := bnd h
        refine r_callSp_CI (pc := 57) C [.int x1, .int (1 : Int32)] (c_X10_tenantAt E l k x1 (1 : Int32) hq16) [] rfl (by decide) g_X10_100 hd_X10_tenantAt.2 ⟨Nat.le_of_ble_eq_true rfl, Nat.le_of_ble_eq_true rfl⟩ ⟨Nat.zero_le _, Nat.zero_le _⟩ (Nat.le_of_ble_eq_true rfl) rfl dX10_tick_57 (fun r hr => ?_)
        have hr := hr.symm
        subst hr
        refine r_iconst (pc := 60) C (v := (-1)) dX10_tick_60 (by decide) ?_
        obtain ⟨hi17, h⟩ := ifn h
        obtain ⟨F18, hF18, h⟩ := lt_e h
        refine r_iast (pc := 61) C g15 (wMd_at kg15) hi17 (w' := (wMd E a F18)) (by rw [hF18]; exact wMd_set kg15) dX10_tick_61 ?_
        refine r_iinc (pc := 62) C (v := (x1 + 1)) dX10_tick_62 rfl rfl (by decide) rfl ?_
        refine r_goto (pc := 65) C (tgt := 28) dX10_tick_65 rfl ?_
        refine r_weak (lSub_s (lSub_s lSub_e)) ?_
        exact ih (x1 + 1) F18 q  h hq
def M_X10_tick_0 (k : Nat) (S : Nat → Nat → Int32) : Option ((Nat → Nat → Int32)) := lt (gsel S) fun g19 => (if gokN g19 = true then (if inb (4 : Int32) 1692 = true then (if inb (4 : Int32) 1692 = true then lt (va_up S g19 (upd (S g19) (4 : Int32).toNatClampNeg ((S g19 (4 : Int32).toNatClampNeg) + (1 : Int32)))) fun F22 => (M_X10_startWorkers k F22).bind fun q23 => (M_X10_routeParked k q23).bind fun q24 => (M_X10_workAll k q24).bind fun q25 => (M_X10_clearUp k q25).bind fun q26 => M_X10_tick_28 k k (0 : Int32) q26 else none) else none) else none)
set_option maxRecDepth 100000 in
set_option maxHeartbeats 4000000 in
theorem N_X10_tick_0 (C : CX E p l s m args meth c cX10_tick 2 RX10 none A) (a : Nat → Nat) (k : Nat) {post : va_W → Prop} :
    ∀ (S : Nat → Nat → Int32) (q : (Nat → Nat → Int32)), M_X10_tick_0 k S = some q → post (wMd E a q) →
      WW E p l e rm_X10_tick s m args below meth c A 0 0 (QV E below post args s rm_X10_tick A) (wMd E a S) 2 [some (.ref (a 0)), none] 0 [] := by
  intro S q  h hq
  unfold M_X10_tick_0 at h
  refine r_aload_n (pc := 0) C (i := 0) dX10_tick_0 rfl rfl ?_
  obtain ⟨g19, hg19, h⟩ := lt_e h
  obtain ⟨kg19, h⟩ := ifn h
  refine r_get (pc := 1) C gwX10 0 rfl rfl 8 (by decide) wm_5_211 rfl dX10_tick_1 ?_
  refine r_topg (a := a) hg19 ?_
  refine r_iconst (pc := 4) C (v := 4) dX10_tick_4 (by decide) ?_
  refine r_dup2_11 (pc := 5) C dX10_tick_5 rfl rfl ?_
  obtain ⟨hi20, h⟩ := ifn h
  refine r_iald (pc := 6) C g19 (wMd_at kg19) hi20 dX10_tick_6 ?_
  refine r_iconst (pc := 7) C (v := 1) dX10_tick_7 (by decide) ?_
  refine r_iadd (pc := 8) C dX10_tick_8 ?_
  obtain ⟨hi21, h⟩ := ifn h
  obtain ⟨F22, hF22, h⟩ := lt_e h
  refine r_iast (pc := 9) C g19 (wMd_at kg19) hi21 (w' := (wMd E a F22)) (by rw [hF22]; exact wMd_set kg19) dX10_tick_9 ?_
  refine r_aload_n (pc := 10) C (i := 0) dX10_tick_10 rfl rfl ?_
  obtain ⟨q23, hq23, h⟩ := bnd h
  refine r_callV_CV (Cn := RX10) (pc := 11) C [] (c_X10_startWorkers E l k a F22 hq23) [0, 1, 2, 3, 4, 5, 6, 7, 8, 9, 10, 11, 12] rfl (by decide) 0 rfl rfl rfl g_X10_187 hd_X10_startWorkers ⟨Nat.le_of_ble_eq_true rfl, Nat.le_of_ble_eq_true rfl⟩ ⟨Nat.zero_le _, Nat.zero_le _⟩ (Nat.le_of_ble_eq_true rfl) rfl dX10_tick_11 (fun w1 hw1 => ?_)
  subst hw1
  refine ⟨(wMd E a q23), by rfl, ?_⟩
  refine r_aload_n (pc := 14) C (i := 0) dX10_tick_14 rfl rfl ?_
  obtain ⟨q24, hq24, h⟩ := bnd h
  refine r_callV_CV (Cn := RX10) (pc := 15) C [] (c_X10_routeParked E l k a q23 hq24) [0, 1, 2, 3, 4, 5, 6, 7, 8, 9, 10, 11, 12] rfl (by decide) 0 rfl rfl rfl g_X10_190 hd_X10_routeParked ⟨Nat.le_of_ble_eq_true rfl, Nat.le_of_ble_eq_true rfl⟩ ⟨Nat.zero_le _, Nat.zero_le _⟩ (Nat.le_of_ble_eq_true rfl) rfl dX10_tick_15 (fun w1 hw1 => ?_)
  subst hw1
  refine ⟨(wMd E a q24), by rfl, ?_⟩
  refine r_aload_n (pc := 18) C (i := 0) dX10_tick_18 rfl rfl ?_
  obtain ⟨q25, hq25, h⟩ := bnd h
  refine r_callV_CV (Cn := RX10) (pc := 19) C [] (c_X10_workAll E l k a q24 hq25) [0, 1, 2, 3, 4, 5, 6, 7, 8, 9, 10, 11, 12] rfl (by decide) 0 rfl rfl rfl g_X10_193 hd_X10_workAll ⟨Nat.le_of_ble_eq_true rfl, Nat.le_of_ble_eq_true rfl⟩ ⟨Nat.zero_le _, Nat.zero_le _⟩ (Nat.le_of_ble_eq_true rfl) rfl dX10_tick_19 (fun w1 hw1 => ?_)
  subst hw1
  refine ⟨(wMd E a q25), by rfl, ?_⟩
  refine r_aload_n (pc := 22) C (i := 0) dX10_tick_22 rfl rfl ?_
  obtain ⟨q26, hq26, h⟩ := bnd h
  refine r_callV_CV (Cn := RX10) (pc := 23) C [] (c_X10_clearUp E l k a q25 hq26) [0, 1, 2, 3, 4, 5, 6, 7, 8, 9, 10, 11, 12] rfl (by decide) 0 rfl rfl rfl g_X10_196 hd_X10_clearUp ⟨Nat.le_of_ble_eq_true rfl, Nat.le_of_ble_eq_true rfl⟩ ⟨Nat.zero_le _, Nat.zero_le _⟩ (Nat.le_of_ble_eq_true rfl) rfl dX10_tick_23 (fun w1 hw1 => ?_)
  subst hw1
  refine ⟨(wMd E a q26), by rfl, ?_⟩
  refine r_iconst (pc := 26) C (v := 0) dX10_tick_26 (by decide) ?_
  refine r_istore_n (pc := 27) C (i := 1) dX10_tick_27 rfl (by decide) rfl ?_
  refine r_weak (lSub_s (lSub_s lSub_e)) ?_
  exact N_X10_tick_28 C a k k (0 : Int32) q26 q  h hq
def M_X10_tick (k : Nat) (S : Nat → Nat → Int32) : Option ((Nat → Nat → Int32)) := M_X10_tick_0 k S
set_option maxRecDepth 100000 in
set_option maxHeartbeats 4000000 in
theorem c_X10_tick (E : ENV) (l : Launch) (k : Nat) (a : Nat → Nat) (S : Nat → Nat → Int32) {q : (Nat → Nat → Int32)} (hm : M_X10_tick k S = some q) : CV E l yX10_tick cX10_tick 2 none rm_X10_tick [.ref (a 0)] (wMd E a S) (fun w' => w' = (wMd E a q)) :=
  CV.of 1 (by decide) (Nat.le_of_ble_eq_true rfl) (fun p e s m below meth c A C _ => r_weak (lSub_s (lSub_n lSub_e)) (N_X10_tick_0 C a k S q  hm rfl))
theorem hd_X10_tick : yX10_tick.cls = RX10 ∧ yX10_tick.cls ≠ "java/lang/invoke/MethodHandle" ∧ yX10_tick.cls ≠ "java/lang/invoke/VarHandle" ∧ (parseMethodDescriptor yX10_tick.desc).map (fun d => d.parameters.length) = some 0 := by decide +kernel
theorem g_X10_249 : GoodIn GW (wsV RX10 249 RX10 yX10_tick (wsG yX10_tick cX10_tick 2 none)) := gw_V wm_7_55 wm_7_57 wm_0_60 wm_1_9 wm_7_58
-- ShardGuardModel.poison(I)I
theorem dX10_poison_0 : decode cX10_poison 0 = .ok (.aload_n 0, 1) := by decide +kernel
theorem dX10_poison_1 : decode cX10_poison 1 = .ok (.invokevirtual 239, 3) := by decide +kernel
theorem dX10_poison_4 : decode cX10_poison 4 = .ok (.aload_n 0, 1) := by decide +kernel
theorem dX10_poison_5 : decode cX10_poison 5 = .ok (.getfield 25, 3) := by decide +kernel
theorem dX10_poison_8 : decode cX10_poison 8 = .ok (.iconst 3, 1) := by decide +kernel
theorem dX10_poison_9 : decode cX10_poison 9 = .ok (.iconst 0, 1) := by decide +kernel
theorem dX10_poison_10 : decode cX10_poison 10 = .ok (.iastore, 1) := by decide +kernel
theorem dX10_poison_11 : decode cX10_poison 11 = .ok (.aload_n 0, 1) := by decide +kernel
theorem dX10_poison_12 : decode cX10_poison 12 = .ok (.getfield 25, 3) := by decide +kernel
theorem dX10_poison_15 : decode cX10_poison 15 = .ok (.bipush 11, 2) := by decide +kernel
theorem dX10_poison_17 : decode cX10_poison 17 = .ok (.iconst 0, 1) := by decide +kernel
theorem dX10_poison_18 : decode cX10_poison 18 = .ok (.iastore, 1) := by decide +kernel
theorem dX10_poison_19 : decode cX10_poison 19 = .ok (.iconst 0, 1) := by decide +kernel
theorem dX10_poison_20 : decode cX10_poison 20 = .ok (.istore_n 2, 1) := by decide +kernel
theorem dX10_poison_21 : decode cX10_poison 21 = .ok (.iload_n 2, 1) := by decide +kernel
theorem dX10_poison_22 : decode cX10_poison 22 = .ok (.aload_n 0, 1) := by decide +kernel
theorem dX10_poison_23 : decode cX10_poison 23 = .ok (.invokevirtual 114, 3) := by decide +kernel
theorem dX10_poison_26 : decode cX10_poison 26 = .ok (.if_icmp .ge 31, 3) := by decide +kernel
theorem dX10_poison_29 : decode cX10_poison 29 = .ok (.aload_n 0, 1) := by decide +kernel
theorem dX10_poison_30 : decode cX10_poison 30 = .ok (.getfield 25, 3) := by decide +kernel
theorem dX10_poison_33 : decode cX10_poison 33 = .ok (.iload_n 2, 1) := by decide +kernel
theorem dX10_poison_34 : decode cX10_poison 34 = .ok (.iconst 1, 1) := by decide +kernel
theorem dX10_poison_35 : decode cX10_poison 35 = .ok (.invokestatic 100, 3) := by decide +kernel
theorem dX10_poison_38 : decode cX10_poison 38 = .ok (.iconst (-1), 1) := by decide +kernel
theorem dX10_poison_39 : decode cX10_poison 39 = .ok (.iastore, 1) := by decide +kernel
theorem dX10_poison_40 : decode cX10_poison 40 = .ok (.aload_n 0, 1) := by decide +kernel
theorem dX10_poison_41 : decode cX10_poison 41 = .ok (.getfield 25, 3) := by decide +kernel
theorem dX10_poison_44 : decode cX10_poison 44 = .ok (.iload_n 2, 1) := by decide +kernel
theorem dX10_poison_45 : decode cX10_poison 45 = .ok (.iconst 2, 1) := by decide +kernel
theorem dX10_poison_46 : decode cX10_poison 46 = .ok (.invokestatic 100, 3) := by decide +kernel
theorem dX10_poison_49 : decode cX10_poison 49 = .ok (.iconst 0, 1) := by decide +kernel
theorem dX10_poison_50 : decode cX10_poison 50 = .ok (.iastore, 1) := by decide +kernel
theorem dX10_poison_51 : decode cX10_poison 51 = .ok (.iinc 2 1, 3) := by decide +kernel
theorem dX10_poison_54 : decode cX10_poison 54 = .ok (.goto (-33), 3) := by decide +kernel
theorem dX10_poison_57 : decode cX10_poison 57 = .ok (.aload_n 0, 1) := by decide +kernel
theorem dX10_poison_58 : decode cX10_poison 58 = .ok (.iload_n 1, 1) := by decide +kernel
theorem dX10_poison_59 : decode cX10_poison 59 = .ok (.iconst 1, 1) := by decide +kernel
theorem dX10_poison_60 : decode cX10_poison 60 = .ok (.iconst 1, 1) := by decide +kernel
theorem dX10_poison_61 : decode cX10_poison 61 = .ok (.invokevirtual 242, 3) := by decide +kernel
theorem dX10_poison_64 : decode cX10_poison 64 = .ok (.aload_n 0, 1) := by decide +kernel
theorem dX10_poison_65 : decode cX10_poison 65 = .ok (.iconst 0, 1) := by decide +kernel
theorem dX10_poison_66 : decode cX10_poison 66 = .ok (.invokevirtual 158, 3) := by decide +kernel
theorem dX10_poison_69 : decode cX10_poison 69 = .ok (.aload_n 0, 1) := by decide +kernel
theorem dX10_poison_70 : decode cX10_poison 70 = .ok (.iconst 0, 1) := by decide +kernel
theorem dX10_poison_71 : decode cX10_poison 71 = .ok (.putfield 246, 3) := by decide +kernel
theorem dX10_poison_74 : decode cX10_poison 74 = .ok (.iconst 0, 1) := by decide +kernel
theorem dX10_poison_75 : decode cX10_poison 75 = .ok (.istore_n 2, 1) := by decide +kernel
theorem dX10_poison_76 : decode cX10_poison 76 = .ok (.iload_n 2, 1) := by decide +kernel
theorem dX10_poison_77 : decode cX10_poison 77 = .ok (.sipush 200, 3) := by decide +kernel
theorem dX10_poison_80 : decode cX10_poison 80 = .ok (.if_icmp .ge 58, 3) := by decide +kernel
theorem dX10_poison_83 : decode cX10_poison 83 = .ok (.aload_n 0, 1) := by decide +kernel
theorem dX10_poison_84 : decode cX10_poison 84 = .ok (.invokevirtual 249, 3) := by decide +kernel
theorem dX10_poison_87 : decode cX10_poison 87 = .ok (.iconst 0, 1) := by decide +kernel
theorem dX10_poison_88 : decode cX10_poison 88 = .ok (.istore_n 3, 1) := by decide +kernel
theorem dX10_poison_89 : decode cX10_poison 89 = .ok (.iload_n 3, 1) := by decide +kernel
theorem dX10_poison_90 : decode cX10_poison 90 = .ok (.aload_n 0, 1) := by decide +kernel
theorem dX10_poison_91 : decode cX10_poison 91 = .ok (.invokevirtual 114, 3) := by decide +kernel
theorem dX10_poison_94 : decode cX10_poison 94 = .ok (.if_icmp .ge 38, 3) := by decide +kernel
theorem dX10_poison_97 : decode cX10_poison 97 = .ok (.aload_n 0, 1) := by decide +kernel
theorem dX10_poison_98 : decode cX10_poison 98 = .ok (.dup, 1) := by decide +kernel
theorem dX10_poison_99 : decode cX10_poison 99 = .ok (.getfield 246, 3) := by decide +kernel
theorem dX10_poison_102 : decode cX10_poison 102 = .ok (.iload_n 3, 1) := by decide +kernel
theorem dX10_poison_103 : decode cX10_poison 103 = .ok (.iload_n 1, 1) := by decide +kernel
theorem dX10_poison_104 : decode cX10_poison 104 = .ok (.if_icmp .eq 17, 3) := by decide +kernel
theorem dX10_poison_107 : decode cX10_poison 107 = .ok (.aload_n 0, 1) := by decide +kernel
theorem dX10_poison_108 : decode cX10_poison 108 = .ok (.iload_n 3, 1) := by decide +kernel
theorem dX10_poison_109 : decode cX10_poison 109 = .ok (.invokevirtual 252, 3) := by decide +kernel
theorem dX10_poison_112 : decode cX10_poison 112 = .ok (.ifCond .eq 9, 3) := by decide +kernel
theorem dX10_poison_115 : decode cX10_poison 115 = .ok (.iconst 1, 1) := by decide +kernel
theorem dX10_poison_116 : decode cX10_poison 116 = .ok (.iload_n 3, 1) := by decide +kernel
theorem dX10_poison_117 : decode cX10_poison 117 = .ok (.ishl, 1) := by decide +kernel
theorem dX10_poison_118 : decode cX10_poison 118 = .ok (.goto 4, 3) := by decide +kernel
theorem dX10_poison_121 : decode cX10_poison 121 = .ok (.iconst 0, 1) := by decide +kernel
theorem dX10_poison_122 : decode cX10_poison 122 = .ok (.ior, 1) := by decide +kernel
theorem dX10_poison_123 : decode cX10_poison 123 = .ok (.putfield 246, 3) := by decide +kernel
theorem dX10_poison_126 : decode cX10_poison 126 = .ok (.iinc 3 1, 3) := by decide +kernel
theorem dX10_poison_129 : decode cX10_poison 129 = .ok (.goto (-40), 3) := by decide +kernel
theorem dX10_poison_132 : decode cX10_poison 132 = .ok (.iinc 2 1, 3) := by decide +kernel
theorem dX10_poison_135 : decode cX10_poison 135 = .ok (.goto (-59), 3) := by decide +kernel
theorem dX10_poison_138 : decode cX10_poison 138 = .ok (.aload_n 0, 1) := by decide +kernel
theorem dX10_poison_139 : decode cX10_poison 139 = .ok (.getfield 25, 3) := by decide +kernel
theorem dX10_poison_142 : decode cX10_poison 142 = .ok (.bipush 11, 2) := by decide +kernel
theorem dX10_poison_144 : decode cX10_poison 144 = .ok (.iaload, 1) := by decide +kernel
theorem dX10_poison_145 : decode cX10_poison 145 = .ok (.istore_n 2, 1) := by decide +kernel
theorem dX10_poison_146 : decode cX10_poison 146 = .ok (.aload_n 0, 1) := by decide +kernel
theorem dX10_poison_147 : decode cX10_poison 147 = .ok (.invokevirtual 255, 3) := by decide +kernel
theorem dX10_poison_150 : decode cX10_poison 150 = .ok (.iload_n 2, 1) := by decide +kernel
theorem dX10_poison_151 : decode cX10_poison 151 = .ok (.ireturn, 1) := by decide +kernel
def rm_X10_poison : Room := { frames := 9, cells := 0, slots := 0, locals := 200 }
def M_X10_poison_89 (k : Nat) (κ76 : Int32 → Int32 → (Nat → Nat → Int32) → Option (Int32 × (Nat → Nat → Int32))) : Nat → (Int32) → (Int32) → (Int32) → (Nat → Nat → Int32) → Option (Int32 × (Nat → Nat → Int32))
  | 0, _, _, _, _ => none
  | n + 1, x1, x2, x3, S => (M_X10_tenants k S).bind fun q1 => if q1 ≤ x3 then (κ76 x1 (x2 + 1) S) else (if x3 = x1 then (lt (va_up S 0 (upd (S 0) 4 ((S 0 4) ||| (0 : Int32)))) fun F4 => M_X10_poison_89 k κ76 n x1 x2 (x3 + 1) F4) else ((M_X10_isCutOff k S x3).bind fun q5 => if q5 = 0 then (lt (va_up S 0 (upd (S 0) 4 ((S 0 4) ||| (0 : Int32)))) fun F7 => M_X10_poison_89 k κ76 n x1 x2 (x3 + 1) F7) else (lt (va_up S 0 (upd (S 0) 4 ((S 0 4) ||| ((1 : Int32) <<< (x3 &&& 31))))) fun F8 => M_X10_poison_89 k κ76 n x1 x2 (x3 + 1) F8)))
theorem M_X10_poison_89_s (k : Nat) (κ76 : Int32 → Int32 → (Nat → Nat → Int32) → Option (Int32 × (Nat → Nat → Int32))) (n : Nat) (x1 : Int32) (x2 : Int32) (x3 : Int32) (S : Nat → Nat → Int32) : M_X10_poison_89 k κ76 (n + 1) x1 x2 x3 S = ((M_X10_tenants k S).bind fun q1 => if q1 ≤ x3 then (κ76 x1 (x2 + 1) S) else (if x3 = x1 then (lt (va_up S 0 (upd (S 0) 4 ((S 0 4) ||| (0 : Int32)))) fun F4 => M_X10_poison_89 k κ76 n x1 x2 (x3 + 1) F4) else ((M_X10_isCutOff k S x3).bind fun q5 => if q5 = 0 then (lt (va_up S 0 (upd (S 0) 4 ((S 0 4) ||| (0 : Int32)))) fun F7 => M_X10_poison_89 k κ76 n x1 x2 (x3 + 1) F7) else (lt (va_up S 0 (upd (S 0) 4 ((S 0 4) ||| ((1 : Int32) <<< (x3 &&& 31))))) fun F8 => M_X10_poison_89 k κ76 n x1 x2 (x3 + 1) F8)))) := rfl
set_option maxRecDepth 100000 in
set_option maxHeartbeats 4000000 in
theorem N_X10_poison_89 (C : CX E p l s m args meth c cX10_poison 4 RX10 (some .int) A) (a : Nat → Nat) (k : Nat) {post : Int32 → va_W → Prop} (κ76 : Int32 → Int32 → (Nat → Nat → Int32) → Option (Int32 × (Nat → Nat → Int32))) (hκ76 : ∀ (x1 : Int32) (x2 : Int32) (S : Nat → Nat → Int32) (q : Int32 × (Nat → Nat → Int32)), κ76 x1 x2 S = some q → post q.1 (wMd E a q.2) → WW E p l e rm_X10_poison s m args below meth c A 0 0 (QI E below post args s rm_X10_poison A) (wMd E a S) 4 [some (.ref (a 0)), some (.int x1), some (.int x2), none] 76 []) :
    ∀ (n : Nat) (x1 : Int32) (x2 : Int32) (x3 : Int32) (S : Nat → Nat → Int32) (q : Int32 × (Nat → Nat → Int32)), M_X10_poison_89 k κ76 n x1 x2 x3 S = some q → post q.1 (wMd E a q.2) →
      WW E p l e rm_X10_poison s m args below meth c A 0 0 (QI E below post args s rm_X10_poison A) (wMd E a S) 4 [some (.ref (a 0)), some (.int x1), some (.int x2), some (.int x3)] 89 [] := by
  intro n
  induction n with
  | zero => intro x1 x2 x3 S q  h _; cases h
  | succ n ih =>
    intro x1 x2 x3 S q  h hq
    rw [M_X10_poison_89_s] at h
    refine r_iload_n (pc := 89) C (i := 3) dX10_poison_89 rfl rfl ?_
    refine r_aload_n (pc := 90) C (i := 0) dX10_poison_90 rfl rfl ?_
    obtain ⟨q1, hq1, h⟩ := bnd h
    refine r_callVp_CI (Cn := RX10) (pc := 91) C [] (c_X10_tenants E l k a S hq1) [0, 1, 2, 3, 4, 5, 6, 7, 8, 9, 10, 11, 12] rfl (by decide) 0 rfl rfl rfl g_X10_114 hd_X10_tenants ⟨Nat.le_of_ble_eq_true rfl, Nat.le_of_ble_eq_true rfl⟩ ⟨Nat.zero_le _, Nat.zero_le _⟩ (Nat.le_of_ble_eq_true rfl) rfl dX10_poison_91 (fun r hr => ?_)
    have hr := hr.symm
    subst hr
    refine r_icmp_ge (pc := 94) C (tgt := 132) dX10_poison_94 rfl (fun c2 => ?_) (fun c2 => ?_)
    · rw [if_pos c2] at h
      refine r_iinc (pc := 132) C (v := (x2 + 1)) dX10_poison_132 rfl rfl (by decide) rfl ?_
      refine r_goto (pc := 135) C (tgt := 76) dX10_poison_135 rfl ?_
      refine r_weak (lSub_s (lSub_s (lSub_s (lSub_n lSub_e)))) ?_
      exact hκ76 x1 (x2 + 1) S q  h hq
    · rw [if_neg c2] at h
      refine r_aload_n (pc := 97) C (i := 0) dX10_poison_97 rfl rfl ?_
      refine r_dup (pc := 98) C dX10_poison_98 rfl ?_
      refine r_get (pc := 99) C gwX10 0 rfl rfl 10 (by decide) wm_5_213 rfl dX10_poison_99 ?_
      refine r_iload_n (pc := 102) C (i := 3) dX10_poison_102 rfl rfl ?_
      refine r_iload_n (pc := 103) C (i := 1) dX10_poison_103 rfl rfl ?_
      refine r_icmp_eq (pc := 104) C (tgt := 121) dX10_poison_104 rfl (fun c3 => ?_) (fun c3 => ?_)
      · rw [if_pos c3] at h
        refine r_iconst (pc := 121) C (v := 0) dX10_poison_121 (by decide) ?_
        refine r_ior (pc := 122) C dX10_poison_122 ?_
        obtain ⟨F4, hF4, h⟩ := lt_e h
        refine r_put (pc := 123) C gwX10 tyX10 tyX10_ok nmX10 0 rfl rfl 10 (by decide) wm_5_213 rfl rfl rfl rfl (Nat.le_of_ble_eq_true rfl) (w' := (wMd E a F4)) (by rw [hF4]; rfl) dX10_poison_123 ?_
        refine r_iinc (pc := 126) C (v := (x3 + 1)) dX10_poison_126 rfl rfl (by decide) rfl ?_
        refine r_goto (pc := 129) C (tgt := 89) dX10_poison_129 rfl ?_
        refine r_weak (lSub_s (lSub_s (lSub_s (lSub_s lSub_e)))) ?_
        exact ih x1 x2 (x3 + 1) F4 q  h hq
      · rw [if_neg c3] at h
        refine r_aload_n (pc := 107) C (i := 0) dX10_poison_107 rfl rfl ?_
        refine r_iload_n (pc := 108) C (i := 3) dX10_poison_108 rfl rfl ?_
        obtain ⟨q5, hq5, h⟩ := bnd h
        refine r_callVp_CI (Cn := RX10) (pc := 109) C [.int x3] (c_X10_isCutOff E l k a S x3 hq5) [0, 1, 2, 3, 4, 5, 6, 7, 8, 9, 10, 11, 12] rfl (by decide) 0 rfl rfl rfl g_X10_252 hd_X10_isCutOff ⟨Nat.le_of_ble_eq_true rfl, Nat.le_of_ble_eq_true rfl⟩ ⟨Nat.zero_le _, Nat.zero_le _⟩ (Nat.le_of_ble_eq_true rfl) rfl dX10_poison_109 (fun r hr => ?_)
        have hr := hr.symm
        subst hr
        refine r_if_eq (pc := 112) C (tgt := 121) dX10_poison_112 rfl (fun c6 => ?_) (fun c6 => ?_)
        · rw [if_pos c6] at h
          refine r_iconst (pc := 121) C (v := 0) dX10_poison_121 (by decide) ?_
          refine r_ior (pc := 122) C dX10_poison_122 ?_
          obtain ⟨F7, hF7, h⟩ := lt_e h
          refine r_put (pc := 123) C gwX10 tyX10 tyX10_ok nmX10 0 rfl rfl 10 (by decide) wm_5_213 rfl rfl rfl rfl (Nat.le_of_ble_eq_true rfl) (w' := (wMd E a F7)) (by rw [hF7]; rfl) dX10_poison_123 ?_
          refine r_iinc (pc := 126) C (v := (x3 + 1)) dX10_poison_126 rfl rfl (by decide) rfl ?_
          refine r_goto (pc := 129) C (tgt := 89) dX10_poison_129 rfl ?_
          refine r_weak (lSub_s (lSub_s (lSub_s (lSub_s lSub_e)))) ?_
          exact ih x1 x2 (x3 + 1) F7 q  h hq
        · rw [if_neg c6] at h
          refine r_iconst (pc := 115) C (v := 1) dX10_poison_115 (by decide) ?_
          refine r_iload_n (pc := 116) C (i := 3) dX10_poison_116 rfl rfl ?_
          refine r_ishl (pc := 117) C dX10_poison_117 ?_
          refine r_goto (pc := 118) C (tgt := 122) dX10_poison_118 rfl ?_
          refine r_ior (pc := 122) C dX10_poison_122 ?_
          obtain ⟨F8, hF8, h⟩ := lt_e h
          refine r_put (pc := 123) C gwX10 tyX10 tyX10_ok nmX10 0 rfl rfl 10 (by decide) wm_5_213 rfl rfl rfl rfl (Nat.le_of_ble_eq_true rfl) (w' := (wMd E a F8)) (by rw [hF8]; rfl) dX10_poison_123 ?_
          refine r_iinc (pc := 126) C (v := (x3 + 1)) dX10_poison_126 rfl rfl (by decide) rfl ?_
          refine r_goto (pc := 129) C (tgt := 89) dX10_poison_129 rfl ?_
          refine r_weak (lSub_s (lSub_s (lSub_s (lSub_s lSub_e)))) ?_
          exact ih x1 x2 (x3 + 1) F8 q  h hq
def M_X10_poison_76 (k : Nat) : Nat → (Int32) → (Int32) → (Nat → Nat → Int32) → Option (Int32 × (Nat → Nat → Int32))
  | 0, _, _, _ => none
  | n + 1, x1, x2, S => if (200 : Int32) ≤ x2 then (lt (gsel S) fun g10 => (if gokN g10 = true then (if inb (11 : Int32) 1692 = true then lt (S g10 (11 : Int32).toNatClampNeg) fun v12 => (M_X10_comeBack k S).bind fun q13 => some (v12, q13) else none) else none)) else ((M_X10_tick k S).bind fun q14 => M_X10_poison_89 k (M_X10_poison_76 k n) k x1 x2 (0 : Int32) q14)
theorem M_X10_poison_76_s (k : Nat) (n : Nat) (x1 : Int32) (x2 : Int32) (S : Nat → Nat → Int32) : M_X10_poison_76 k (n + 1) x1 x2 S = (if (200 : Int32) ≤ x2 then (lt (gsel S) fun g10 => (if gokN g10 = true then (if inb (11 : Int32) 1692 = true then lt (S g10 (11 : Int32).toNatClampNeg) fun v12 => (M_X10_comeBack k S).bind fun q13 => some (v12, q13) else none) else none)) else ((M_X10_tick k S).bind fun q14 => M_X10_poison_89 k (M_X10_poison_76 k n) k x1 x2 (0 : Int32) q14)) := rfl
set_option maxRecDepth 100000 in
set_option maxHeartbeats 4000000 in
theorem N_X10_poison_76 (C : CX E p l s m args meth c cX10_poison 4 RX10 (some .int) A) (a : Nat → Nat) (k : Nat) {post : Int32 → va_W → Prop} :
    ∀ (n : Nat) (x1 : Int32) (x2 : Int32) (S : Nat → Nat → Int32) (q : Int32 × (Nat → Nat → Int32)), M_X10_poison_76 k n x1 x2 S = some q → post q.1 (wMd E a q.2) →
      WW E p l e rm_X10_poison s m args below meth c A 0 0 (QI E below post args s rm_X10_poison A) (wMd E a S) 4 [some (.ref (a 0)), some (.int x1), some (.int x2), none] 76 [] := by
  intro n
  induction n with
  | zero => intro x1 x2 S q  h _; cases h
  | succ n ih =>
    intro x1 x2 S q  h hq
    rw [M_X10_poison_76_s] at h
    refine r_iload_n (pc := 76) C (i := 2) dX10_poison_76 rfl rfl ?_
    refine r_sipush (pc := 77) C (v := 200) dX10_poison_77 (by decide) ?_
    refine r_icmp_ge (pc := 80) C (tgt := 138) dX10_poison_80 rfl (fun c9 => ?_) (fun c9 => ?_)
    · rw [if_pos c9] at h
      refine r_aload_n (pc := 138) C (i := 0) dX10_poison_138 rfl rfl ?_
      obtain ⟨g10, hg10, h⟩ := lt_e h
      obtain ⟨kg10, h⟩ := ifn h
      refine r_get (pc := 139) C gwX10 0 rfl rfl 8 (by decide) wm_5_211 rfl dX10_poison_139 ?_
      refine r_topg (a := a) hg10 ?_
      refine r_bipush (pc := 142) C (v := 11) dX10_poison_142 (by decide) ?_
      obtain ⟨hi11, h⟩ := ifn h
      refine r_iald (pc := 144) C g10 (wMd_at kg10) hi11 dX10_poison_144 ?_
      obtain ⟨v12, hv12, h⟩ := lt_e h
      refine r_topi hv12 ?_
      refine r_istore_n (pc := 145) C (i := 2) dX10_poison_145 rfl (by decide) rfl ?_
      refine r_aload_n (pc := 146) C (i := 0) dX10_poison_146 rfl rfl ?_
      obtain ⟨q13, hq13, h⟩ := bnd h
      refine r_callV_CV (Cn := RX10) (pc := 147) C [] (c_X10_comeBack E l k a S hq13) [0, 1, 2, 3, 4, 5, 6, 7, 8, 9, 10, 11, 12] rfl (by decide) 0 rfl rfl rfl g_X10_255 hd_X10_comeBack ⟨Nat.le_of_ble_eq_true rfl, Nat.le_of_ble_eq_true rfl⟩ ⟨Nat.zero_le _, Nat.zero_le _⟩ (Nat.le_of_ble_eq_true rfl) rfl dX10_poison_147 (fun w1 hw1 => ?_)
      subst hw1
      refine ⟨(wMd E a q13), by rfl, ?_⟩
      refine r_iload_n (pc := 150) C (i := 2) dX10_poison_150 rfl rfl ?_
      cases h
      exact r_ireti (pc := 151) C hq (Nat.zero_le _) (Nat.zero_le _) dX10_poison_151
    · rw [if_neg c9] at h
      refine r_aload_n (pc := 83) C (i := 0) dX10_poison_83 rfl rfl ?_
      obtain ⟨q14, hq14, h⟩ := bnd h
      refine r_callV_CV (Cn := RX10) (pc := 84) C [] (c_X10_tick E l k a S hq14) [0, 1, 2, 3, 4, 5, 6, 7, 8, 9, 10, 11, 12] rfl (by decide) 0 rfl rfl rfl g_X10_249 hd_X10_tick ⟨Nat.le_of_ble_eq_true rfl, Nat.le_of_ble_eq_true rfl⟩ ⟨Nat.zero_le _, Nat.zero_le _⟩ (Nat.le_of_ble_eq_true rfl) rfl dX10_poison_84 (fun w1 hw1 => ?_)
      subst hw1
      refine ⟨(wMd E a q14), by rfl, ?_⟩
      refine r_iconst (pc := 87) C (v := 0) dX10_poison_87 (by decide) ?_
      refine r_istore_n (pc := 88) C (i := 3) dX10_poison_88 rfl (by decide) rfl ?_
      refine r_weak (lSub_s (lSub_s (lSub_s (lSub_s lSub_e)))) ?_
      exact N_X10_poison_89 C a k (M_X10_poison_76 k n) ih k x1 x2 (0 : Int32) q14 q  h hq
def M_X10_poison_21 (k : Nat) : Nat → (Int32) → (Int32) → (Nat → Nat → Int32) → Option (Int32 × (Nat → Nat → Int32))
  | 0, _, _, _ => none
  | n + 1, x1, x2, S => (M_X10_tenants k S).bind fun q15 => if q15 ≤ x2 then ((M_X10_layRequest k S x1 (1 : Int32) (1 : Int32)).bind fun q17 => (M_X10_route k q17 (0 : Int32)).bind fun q18 => lt (va_up q18 0 (upd (q18 0) 4 (0 : Int32))) fun F19 => M_X10_poison_76 k k x1 (0 : Int32) F19) else (lt (gsel S) fun g20 => (if gokN g20 = true then (M_X10_tenantAt k x2 (1 : Int32)).bind fun q21 => (if inb q21 1692 = true then lt (va_up S g20 (upd (S g20) q21.toNatClampNeg (-1 : Int32))) fun F23 => lt (gsel F23) fun g24 => (if gokN g24 = true then (M_X10_tenantAt k x2 (2 : Int32)).bind fun q25 => (if inb q25 1692 = true then lt (va_up F23 g24 (upd (F23 g24) q25.toNatClampNeg (0 : Int32))) fun F27 => M_X10_poison_21 k n x1 (x2 + 1) F27 else none) else none) else none) else none))
theorem M_X10_poison_21_s (k : Nat) (n : Nat) (x1 : Int32) (x2 : Int32) (S : Nat → Nat → Int32) : M_X10_poison_21 k (n + 1) x1 x2 S = ((M_X10_tenants k S).bind fun q15 => if q15 ≤ x2 then ((M_X10_layRequest k S x1 (1 : Int32) (1 : Int32)).bind fun q17 => (M_X10_route k q17 (0 : Int32)).bind fun q18 => lt (va_up q18 0 (upd (q18 0) 4 (0 : Int32))) fun F19 => M_X10_poison_76 k k x1 (0 : Int32) F19) else (lt (gsel S) fun g20 => (if gokN g20 = true then (M_X10_tenantAt k x2 (1 : Int32)).bind fun q21 => (if inb q21 1692 = true then lt (va_up S g20 (upd (S g20) q21.toNatClampNeg (-1 : Int32))) fun F23 => lt (gsel F23) fun g24 => (if gokN g24 = true then (M_X10_tenantAt k x2 (2 : Int32)).bind fun q25 => (if inb q25 1692 = true then lt (va_up F23 g24 (upd (F23 g24) q25.toNatClampNeg (0 : Int32))) fun F27 => M_X10_poison_21 k n x1 (x2 + 1) F27 else none) else none) else none) else none))) := rfl
set_option maxRecDepth 100000 in
set_option maxHeartbeats 4000000 in
theorem N_X10_poison_21 (C : CX E p l s m args meth c cX10_poison 4 RX10 (some .int) A) (a : Nat → Nat) (k : Nat) {post : Int32 → va_W → Prop} :
    ∀ (n : Nat) (x1 : Int32) (x2 : Int32) (S : Nat → Nat → Int32) (q : Int32 × (Nat → Nat → Int32)), M_X10_poison_21 k n x1 x2 S = some q → post q.1 (wMd E a q.2) →
      WW E p l e rm_X10_poison s m args below meth c A 0 0 (QI E below post args s rm_X10_poison A) (wMd E a S) 4 [some (.ref (a 0)), some (.int x1), some (.int x2), none] 21 [] := by
  intro n
  induction n with
  | zero => intro x1 x2 S q  h _; cases h
  | succ n ih =>
    intro x1 x2 S q  h hq
    rw [M_X10_poison_21_s] at h
    refine r_iload_n (pc := 21) C (i := 2) dX10_poison_21 rfl rfl ?_
    refine r_aload_n (pc := 22) C (i := 0) dX10_poison_22 rfl rfl ?_
    obtain ⟨q15, hq15, h⟩ := bnd h
    refine r_callVp_CI (Cn := RX10) (pc := 23) C [] (c_X10_tenants E l k a S hq15) [0, 1, 2, 3, 4, 5, 6, 7, 8, 9, 10, 11, 12] rfl (by decide) 0 rfl rfl rfl g_X10_114 hd_X10_tenants ⟨Nat.le_of_ble_eq_true rfl, Nat.le_of_ble_eq_true rfl⟩ ⟨Nat.zero_le _, Nat.zero_le _⟩ (Nat.le_of_ble_eq_true rfl) rfl dX10_poison_23 (fun r hr => ?_)
    have hr := hr.symm
    subst hr
    refine r_icmp_ge (pc := 26) C (tgt := 57) dX10_poison_26 rfl (fun c16 => ?_) (fun c16 => ?_)
    · rw [if_pos c16] at h
      refine r_aload_n (pc := 57) C (i := 0) dX10_poison_57 rfl rfl ?_
      refine r_iload_n (pc := 58) C (i := 1) dX10_poison_58 rfl rfl ?_
      refine r_iconst (pc := 59) C (v := 1) dX10_poison_59 (by decide) ?_
      refine r_iconst (pc := 60) C (v := 1) dX10_poison_60 (by decide) ?_
      obtain ⟨q17, hq17, h⟩ := bnd h
      refine r_callV_CV (Cn := RX10) (pc := 61) C [.int x1, .int (1 : Int32), .int (1 : Int32)] (c_X10_layRequest E l k a S x1 (1 : Int32) (1 : Int32) hq17) [0, 1, 2, 3, 4, 5, 6, 7, 8, 9, 10, 11, 12] rfl (by decide) 0 rfl rfl rfl g_X10_242 hd_X10_layRequest ⟨Nat.le_of_ble_eq_true rfl, Nat.le_of_ble_eq_true rfl⟩ ⟨Nat.zero_le _, Nat.zero_le _⟩ (Nat.le_of_ble_eq_true rfl) rfl dX10_poison_61 (fun w1 hw1 => ?_)
      subst hw1
      refine ⟨(wMd E a q17), by rfl, ?_⟩
      refine r_aload_n (pc := 64) C (i := 0) dX10_poison_64 rfl rfl ?_
      refine r_iconst (pc := 65) C (v := 0) dX10_poison_65 (by decide) ?_
      obtain ⟨q18, hq18, h⟩ := bnd h
      refine r_callV_CV (Cn := RX10) (pc := 66) C [.int (0 : Int32)] (c_X10_route E l k a q17 (0 : Int32) hq18) [0, 1, 2, 3, 4, 5, 6, 7, 8, 9, 10, 11, 12] rfl (by decide) 0 rfl rfl rfl g_X10_158 hd_X10_route ⟨Nat.le_of_ble_eq_true rfl, Nat.le_of_ble_eq_true rfl⟩ ⟨Nat.zero_le _, Nat.zero_le _⟩ (Nat.le_of_ble_eq_true rfl) rfl dX10_poison_66 (fun w1 hw1 => ?_)
      subst hw1
      refine ⟨(wMd E a q18), by rfl, ?_⟩
      refine r_aload_n (pc := 69) C (i := 0) dX10_poison_69 rfl rfl ?_
      refine r_iconst (pc := 70) C (v := 0) dX10_poison_70 (by decide) ?_
      obtain ⟨F19, hF19, h⟩ := lt_e h
      refine r_put (pc := 71) C gwX10 tyX10 tyX10_ok nmX10 0 rfl rfl 10 (by decide) wm_5_213 rfl rfl rfl rfl (Nat.le_of_ble_eq_true rfl) (w' := (wMd E a F19)) (by rw [hF19]; rfl) dX10_poison_71 ?_
      refine r_iconst (pc := 74) C (v := 0) dX10_poison_74 (by decide) ?_
      refine r_istore_n (pc := 75) C (i := 2) dX10_poison_75 rfl (by decide) rfl ?_
      refine r_weak (lSub_s (lSub_s (lSub_s (lSub_n lSub_e)))) ?_
      exact N_X10_poison_76 C a k k x1 (0 : Int32) F19 q  h hq
    · rw [if_neg c16] at h
      refine r_aload_n (pc := 29) C (i := 0) dX10_poison_29 rfl rfl ?_
      obtain ⟨g20, hg20, h⟩ := lt_e h
      obtain ⟨kg20, h⟩ := ifn h
      refine r_get (pc := 30) C gwX10 0 rfl rfl 8 (by decide) wm_5_211 rfl dX10_poison_30 ?_
      refine r_topg (a := a) hg20 ?_
      refine r_iload_n (pc := 33) C (i := 2) dX10_poison_33 rfl rfl ?_
      refine r_iconst (pc := 34) C (v := 1) dX10_poison_34 (by decide) ?_
      obtain ⟨q21, hq21, h⟩ := bnd h
      refine r_callSp_CI (pc := 35) C [.int x2, .int (1 : Int32)] (c_X10_tenantAt E l k x2 (1 : Int32) hq21) [] rfl (by decide) g_X10_100 hd_X10_tenantAt.2 ⟨Nat.le_of_ble_eq_true rfl, Nat.le_of_ble_eq_true rfl⟩ ⟨Nat.zero_le _, Nat.zero_le _⟩ (Nat.le_of_ble_eq_true rfl) rfl dX10_poison_35 (fun r hr => ?_)
      have hr := hr.symm
      subst hr
      refine r_iconst (pc := 38) C (v := (-1)) dX10_poison_38 (by decide) ?_
      obtain ⟨hi22, h⟩ := ifn h
      obtain ⟨F23, hF23, h⟩ := lt_e h
      refine r_iast (pc := 39) C g20 (wMd_at kg20) hi22 (w' := (wMd E a F23)) (by rw [hF23]; exact wMd_set kg20) dX10_poison_39 ?_
      refine r_aload_n (pc := 40) C (i := 0) dX10_poison_40 rfl rfl ?_
      obtain ⟨g24, hg24, h⟩ := lt_e h
      obtain ⟨kg24, h⟩ := ifn h
      refine r_get (pc := 41) C gwX10 0 rfl rfl 8 (by decide) wm_5_211 rfl dX10_poison_41 ?_
      refine r_topg (a := a) hg24 ?_
      refine r_iload_n (pc := 44) C (i := 2) dX10_poison_44 rfl rfl ?_
      refine r_iconst (pc := 45) C (v := 2) dX10_poison_45 (by decide) ?_
      obtain ⟨q25, hq25, h⟩ := bnd h
      refine r_callSp_CI (pc := 46) C [.int x2, .int (2 : Int32)] (c_X10_tenantAt E l k x2 (2 : Int32) hq25) [] rfl (by decide) g_X10_100 hd_X10_tenantAt.2 ⟨Nat.le_of_ble_eq_true rfl, Nat.le_of_ble_eq_true rfl⟩ ⟨Nat.zero_le _, Nat.zero_le _⟩ (Nat.le_of_ble_eq_true rfl) rfl dX10_poison_46 (fun r hr => ?_)
      have hr := hr.symm
      subst hr
      refine r_iconst (pc := 49) C (v := 0) dX10_poison_49 (by decide) ?_
      obtain ⟨hi26, h⟩ := ifn h
      obtain ⟨F27, hF27, h⟩ := lt_e h
      refine r_iast (pc := 50) C g24 (wMd_at kg24) hi26 (w' := (wMd E a F27)) (by rw [hF27]; exact wMd_set kg24) dX10_poison_50 ?_
      refine r_iinc (pc := 51) C (v := (x2 + 1)) dX10_poison_51 rfl rfl (by decide) rfl ?_
      refine r_goto (pc := 54) C (tgt := 21) dX10_poison_54 rfl ?_
      refine r_weak (lSub_s (lSub_s (lSub_s (lSub_n lSub_e)))) ?_
      exact ih x1 (x2 + 1) F27 q  h hq
def M_X10_poison_0 (k : Nat) (p0 : Int32) (S : Nat → Nat → Int32) : Option (Int32 × (Nat → Nat → Int32)) := (M_X10_goAside k S).bind fun q28 => lt (gsel q28) fun g29 => (if gokN g29 = true then (if inb (3 : Int32) 1692 = true then lt (va_up q28 g29 (upd (q28 g29) (3 : Int32).toNatClampNeg (0 : Int32))) fun F31 => lt (gsel F31) fun g32 => (if gokN g32 = true then (if inb (11 : Int32) 1692 = true then lt (va_up F31 g32 (upd (F31 g32) (11 : Int32).toNatClampNeg (0 : Int32))) fun F34 => M_X10_poison_21 k k p0 (0 : Int32) F34 else none) else none) else none) else none)
set_option maxRecDepth 100000 in
set_option maxHeartbeats 4000000 in
theorem N_X10_poison_0 (C : CX E p l s m args meth c cX10_poison 4 RX10 (some .int) A) (a : Nat → Nat) (k : Nat) {post : Int32 → va_W → Prop} :
    ∀ (p0 : Int32) (S : Nat → Nat → Int32) (q : Int32 × (Nat → Nat → Int32)), M_X10_poison_0 k p0 S = some q → post q.1 (wMd E a q.2) →
      WW E p l e rm_X10_poison s m args below meth c A 0 0 (QI E below post args s rm_X10_poison A) (wMd E a S) 4 [some (.ref (a 0)), some (.int p0), none, none] 0 [] := by
  intro p0 S q  h hq
  unfold M_X10_poison_0 at h
  refine r_aload_n (pc := 0) C (i := 0) dX10_poison_0 rfl rfl ?_
  obtain ⟨q28, hq28, h⟩ := bnd h
  refine r_callV_CV (Cn := RX10) (pc := 1) C [] (c_X10_goAside E l k a S hq28) [0, 1, 2, 3, 4, 5, 6, 7, 8, 9, 10, 11, 12] rfl (by decide) 0 rfl rfl rfl g_X10_239 hd_X10_goAside ⟨Nat.le_of_ble_eq_true rfl, Nat.le_of_ble_eq_true rfl⟩ ⟨Nat.zero_le _, Nat.zero_le _⟩ (Nat.le_of_ble_eq_true rfl) rfl dX10_poison_1 (fun w1 hw1 => ?_)
  subst hw1
  refine ⟨(wMd E a q28), by rfl, ?_⟩
  refine r_aload_n (pc := 4) C (i := 0) dX10_poison_4 rfl rfl ?_
  obtain ⟨g29, hg29, h⟩ := lt_e h
  obtain ⟨kg29, h⟩ := ifn h
  refine r_get (pc := 5) C gwX10 0 rfl rfl 8 (by decide) wm_5_211 rfl dX10_poison_5 ?_
  refine r_topg (a := a) hg29 ?_
  refine r_iconst (pc := 8) C (v := 3) dX10_poison_8 (by decide) ?_
  refine r_iconst (pc := 9) C (v := 0) dX10_poison_9 (by decide) ?_
  obtain ⟨hi30, h⟩ := ifn h
  obtain ⟨F31, hF31, h⟩ := lt_e h
  refine r_iast (pc := 10) C g29 (wMd_at kg29) hi30 (w' := (wMd E a F31)) (by rw [hF31]; exact wMd_set kg29) dX10_poison_10 ?_
  refine r_aload_n (pc := 11) C (i := 0) dX10_poison_11 rfl rfl ?_
  obtain ⟨g32, hg32, h⟩ := lt_e h
  obtain ⟨kg32, h⟩ := ifn h
  refine r_get (pc := 12) C gwX10 0 rfl rfl 8 (by decide) wm_5_211 rfl dX10_poison_12 ?_
  refine r_topg (a := a) hg32 ?_
  refine r_bipush (pc := 15) C (v := 11) dX10_poison_15 (by decide) ?_
  refine r_iconst (pc := 17) C (v := 0) dX10_poison_17 (by decide) ?_
  obtain ⟨hi33, h⟩ := ifn h
  obtain ⟨F34, hF34, h⟩ := lt_e h
  refine r_iast (pc := 18) C g32 (wMd_at kg32) hi33 (w' := (wMd E a F34)) (by rw [hF34]; exact wMd_set kg32) dX10_poison_18 ?_
  refine r_iconst (pc := 19) C (v := 0) dX10_poison_19 (by decide) ?_
  refine r_istore_n (pc := 20) C (i := 2) dX10_poison_20 rfl (by decide) rfl ?_
  refine r_weak (lSub_s (lSub_s (lSub_s (lSub_n lSub_e)))) ?_
  exact N_X10_poison_21 C a k k p0 (0 : Int32) F34 q  h hq
def M_X10_poison (k : Nat) (S : Nat → Nat → Int32) (p0 : Int32) : Option (Int32 × (Nat → Nat → Int32)) := M_X10_poison_0 k p0 S
set_option maxRecDepth 100000 in
set_option maxHeartbeats 4000000 in
theorem c_X10_poison (E : ENV) (l : Launch) (k : Nat) (a : Nat → Nat) (S : Nat → Nat → Int32) (p0 : Int32) {q : Int32 × (Nat → Nat → Int32)} (hm : M_X10_poison k S p0 = some q) : CI E l yX10_poison cX10_poison 4 (some .int) rm_X10_poison [.ref (a 0), .int p0] (wMd E a S) (fun r w' => r = q.1 ∧ w' = (wMd E a q.2)) :=
  CI.of 2 (by decide) (Nat.le_of_ble_eq_true rfl) (fun p e s m below meth c A C _ => r_weak (lSub_s (lSub_s (lSub_n (lSub_n lSub_e)))) (N_X10_poison_0 C a k p0 S q  hm ⟨rfl, rfl⟩))
end WALKS
