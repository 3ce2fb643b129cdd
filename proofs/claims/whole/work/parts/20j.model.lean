section WALKS
variable {E : ENV} {p : Program} {l : Launch} {e : Env} {s : State} {m : MethodId} {args : Array Value} {below : List Frame} {meth : Method} {c : Code} {A : Nat → Prop}
-- ShardGuardModel.sharers(I)I
theorem dX10_sharers_0 : decode cX10_sharers 0 = .ok (.iconst 0, 1) := by decide +kernel
theorem dX10_sharers_1 : decode cX10_sharers 1 = .ok (.istore_n 2, 1) := by decide +kernel
theorem dX10_sharers_2 : decode cX10_sharers 2 = .ok (.iconst 0, 1) := by decide +kernel
theorem dX10_sharers_3 : decode cX10_sharers 3 = .ok (.istore_n 3, 1) := by decide +kernel
theorem dX10_sharers_4 : decode cX10_sharers 4 = .ok (.iload_n 3, 1) := by decide +kernel
theorem dX10_sharers_5 : decode cX10_sharers 5 = .ok (.aload_n 0, 1) := by decide +kernel
theorem dX10_sharers_6 : decode cX10_sharers 6 = .ok (.invokevirtual 114, 3) := by decide +kernel
theorem dX10_sharers_9 : decode cX10_sharers 9 = .ok (.if_icmp .ge 30, 3) := by decide +kernel
theorem dX10_sharers_12 : decode cX10_sharers 12 = .ok (.iload_n 2, 1) := by decide +kernel
theorem dX10_sharers_13 : decode cX10_sharers 13 = .ok (.aload_n 0, 1) := by decide +kernel
theorem dX10_sharers_14 : decode cX10_sharers 14 = .ok (.iload_n 3, 1) := by decide +kernel
theorem dX10_sharers_15 : decode cX10_sharers 15 = .ok (.iconst 0, 1) := by decide +kernel
theorem dX10_sharers_16 : decode cX10_sharers 16 = .ok (.invokevirtual 120, 3) := by decide +kernel
theorem dX10_sharers_19 : decode cX10_sharers 19 = .ok (.iload_n 1, 1) := by decide +kernel
theorem dX10_sharers_20 : decode cX10_sharers 20 = .ok (.invokestatic 133, 3) := by decide +kernel
theorem dX10_sharers_23 : decode cX10_sharers 23 = .ok (.ifCond .eq 7, 3) := by decide +kernel
theorem dX10_sharers_26 : decode cX10_sharers 26 = .ok (.iconst 1, 1) := by decide +kernel
theorem dX10_sharers_27 : decode cX10_sharers 27 = .ok (.goto 4, 3) := by decide +kernel
theorem dX10_sharers_30 : decode cX10_sharers 30 = .ok (.iconst 0, 1) := by decide +kernel
theorem dX10_sharers_31 : decode cX10_sharers 31 = .ok (.iadd, 1) := by decide +kernel
theorem dX10_sharers_32 : decode cX10_sharers 32 = .ok (.istore_n 2, 1) := by decide +kernel
theorem dX10_sharers_33 : decode cX10_sharers 33 = .ok (.iinc 3 1, 3) := by decide +kernel
theorem dX10_sharers_36 : decode cX10_sharers 36 = .ok (.goto (-32), 3) := by decide +kernel
theorem dX10_sharers_39 : decode cX10_sharers 39 = .ok (.iload_n 2, 1) := by decide +kernel
theorem dX10_sharers_40 : decode cX10_sharers 40 = .ok (.ireturn, 1) := by decide +kernel
def rm_X10_sharers : Room := { frames := 2, cells := 0, slots := 0, locals := 43 }
def M_X10_sharers_4 (k : Nat) (S : Nat → Nat → Int32) : Nat → (Int32) → (Int32) → (Int32) → Option (Int32)
  | 0, _, _, _ => none
  | n + 1, x1, x2, x3 => (M_X10_tenants k S).bind fun q1 => if q1 ≤ x3 then (some x2) else ((M_X10_ofTenant k S x3 (0 : Int32)).bind fun q3 => (M_X10_has k q3 x1).bind fun q4 => if q4 = 0 then (lt (x2 + (0 : Int32)) fun v6 => M_X10_sharers_4 k S n x1 v6 (x3 + 1)) else (lt (x2 + (1 : Int32)) fun v7 => M_X10_sharers_4 k S n x1 v7 (x3 + 1)))
theorem M_X10_sharers_4_s (k : Nat) (S : Nat → Nat → Int32) (n : Nat) (x1 : Int32) (x2 : Int32) (x3 : Int32) : M_X10_sharers_4 k S (n + 1) x1 x2 x3 = ((M_X10_tenants k S).bind fun q1 => if q1 ≤ x3 then (some x2) else ((M_X10_ofTenant k S x3 (0 : Int32)).bind fun q3 => (M_X10_has k q3 x1).bind fun q4 => if q4 = 0 then (lt (x2 + (0 : Int32)) fun v6 => M_X10_sharers_4 k S n x1 v6 (x3 + 1)) else (lt (x2 + (1 : Int32)) fun v7 => M_X10_sharers_4 k S n x1 v7 (x3 + 1)))) := rfl
set_option maxRecDepth 100000 in
set_option maxHeartbeats 4000000 in
theorem N_X10_sharers_4 (C : CX E p l s m args meth c cX10_sharers 4 RX10 (some .int) A) (a : Nat → Nat) (k : Nat) (S : Nat → Nat → Int32) {post : Int32 → va_W → Prop} :
    ∀ (n : Nat) (x1 : Int32) (x2 : Int32) (x3 : Int32) (q : Int32), M_X10_sharers_4 k S n x1 x2 x3 = some q → post q (wMd E a S) →
      WW E p l e rm_X10_sharers s m args below meth c A 0 0 (QI E below post args s rm_X10_sharers A) (wMd E a S) 4 [some (.ref (a 0)), some (.int x1), some (.int x2), some (.int x3)] 4 [] := by
  intro n
  induction n with
  | zero => intro x1 x2 x3 q  h _; cases h
  | succ n ih =>
    intro x1 x2 x3 q  h hq
    rw [M_X10_sharers_4_s] at h
    refine r_iload_n (pc := 4) C (i := 3) dX10_sharers_4 rfl rfl ?_
    refine r_aload_n (pc := 5) C (i := 0) dX10_sharers_5 rfl rfl ?_
    obtain ⟨q1, hq1, h⟩ := bnd h
    refine r_callVp_CI (Cn := RX10) (pc := 6) C [] (c_X10_tenants E l k a S hq1) [0, 1, 2, 3, 4, 5, 6, 7, 8, 9, 10, 11, 12] rfl (by decide) 0 rfl rfl rfl g_X10_114 hd_X10_tenants ⟨Nat.le_of_ble_eq_true rfl, Nat.le_of_ble_eq_true rfl⟩ ⟨Nat.zero_le _, Nat.zero_le _⟩ (Nat.le_of_ble_eq_true rfl) rfl dX10_sharers_6 (fun r hr => ?_)
    have hr := hr.symm
    subst hr
    refine r_icmp_ge (pc := 9) C (tgt := 39) dX10_sharers_9 rfl (fun c2 => ?_) (fun c2 => ?_)
    · rw [if_pos c2] at h
      refine r_iload_n (pc := 39) C (i := 2) dX10_sharers_39 rfl rfl ?_
      cases h
      exact r_ireti (pc := 40) C hq (Nat.zero_le _) (Nat.zero_le _) dX10_sharers_40
    · rw [if_neg c2] at h
      refine r_iload_n (pc := 12) C (i := 2) dX10_sharers_12 rfl rfl ?_
      refine r_aload_n (pc := 13) C (i := 0) dX10_sharers_13 rfl rfl ?_
      refine r_iload_n (pc := 14) C (i := 3) dX10_sharers_14 rfl rfl ?_
      refine r_iconst (pc := 15) C (v := 0) dX10_sharers_15 (by decide) ?_
      obtain ⟨q3, hq3, h⟩ := bnd h
      refine r_callVp_CI (Cn := RX10) (pc := 16) C [.int x3, .int (0 : Int32)] (c_X10_ofTenant E l k a S x3 (0 : Int32) hq3) [0, 1, 2, 3, 4, 5, 6, 7, 8, 9, 10, 11, 12] rfl (by decide) 0 rfl rfl rfl g_X10_120 hd_X10_ofTenant ⟨Nat.le_of_ble_eq_true rfl, Nat.le_of_ble_eq_true rfl⟩ ⟨Nat.zero_le _, Nat.zero_le _⟩ (Nat.le_of_ble_eq_true rfl) rfl dX10_sharers_16 (fun r hr => ?_)
      have hr := hr.symm
      subst hr
      refine r_iload_n (pc := 19) C (i := 1) dX10_sharers_19 rfl rfl ?_
      obtain ⟨q4, hq4, h⟩ := bnd h
      refine r_callSp_CI (pc := 20) C [.int q3, .int x1] (c_X10_has E l k q3 x1 hq4) [] rfl (by decide) g_X10_133 hd_X10_has.2 ⟨Nat.le_of_ble_eq_true rfl, Nat.le_of_ble_eq_true rfl⟩ ⟨Nat.zero_le _, Nat.zero_le _⟩ (Nat.le_of_ble_eq_true rfl) rfl dX10_sharers_20 (fun r hr => ?_)
      have hr := hr.symm
      subst hr
      refine r_if_eq (pc := 23) C (tgt := 30) dX10_sharers_23 rfl (fun c5 => ?_) (fun c5 => ?_)
      · rw [if_pos c5] at h
        refine r_iconst (pc := 30) C (v := 0) dX10_sharers_30 (by decide) ?_
        refine r_iadd (pc := 31) C dX10_sharers_31 ?_
        obtain ⟨v6, hv6, h⟩ := lt_e h
        refine r_topi hv6 ?_
        refine r_istore_n (pc := 32) C (i := 2) dX10_sharers_32 rfl (by decide) rfl ?_
        refine r_iinc (pc := 33) C (v := (x3 + 1)) dX10_sharers_33 rfl rfl (by decide) rfl ?_
        refine r_goto (pc := 36) C (tgt := 4) dX10_sharers_36 rfl ?_
        refine r_weak (lSub_s (lSub_s (lSub_s (lSub_s lSub_e)))) ?_
        exact ih x1 v6 (x3 + 1) q  h hq
      · rw [if_neg c5] at h
        refine r_iconst (pc := 26) C (v := 1) dX10_sharers_26 (by decide) ?_
        refine r_goto (pc := 27) C (tgt := 31) dX10_sharers_27 rfl ?_
        refine r_iadd (pc := 31) C dX10_sharers_31 ?_
        obtain ⟨v7, hv7, h⟩ := lt_e h
        refine r_topi hv7 ?_
        refine r_istore_n (pc := 32) C (i := 2) dX10_sharers_32 rfl (by decide) rfl ?_
        refine r_iinc (pc := 33) C (v := (x3 + 1)) dX10_sharers_33 rfl rfl (by decide) rfl ?_
        refine r_goto (pc := 36) C (tgt := 4) dX10_sharers_36 rfl ?_
        refine r_weak (lSub_s (lSub_s (lSub_s (lSub_s lSub_e)))) ?_
        exact ih x1 v7 (x3 + 1) q  h hq
def M_X10_sharers_0 (k : Nat) (S : Nat → Nat → Int32) (p0 : Int32) : Option (Int32) := M_X10_sharers_4 k S k p0 (0 : Int32) (0 : Int32)
set_option maxRecDepth 100000 in
set_option maxHeartbeats 4000000 in
theorem N_X10_sharers_0 (C : CX E p l s m args meth c cX10_sharers 4 RX10 (some .int) A) (a : Nat → Nat) (k : Nat) (S : Nat → Nat → Int32) {post : Int32 → va_W → Prop} :
    ∀ (p0 : Int32) (q : Int32), M_X10_sharers_0 k S p0 = some q → post q (wMd E a S) →
      WW E p l e rm_X10_sharers s m args below meth c A 0 0 (QI E below post args s rm_X10_sharers A) (wMd E a S) 4 [some (.ref (a 0)), some (.int p0), none, none] 0 [] := by
  intro p0 q  h hq
  unfold M_X10_sharers_0 at h
  refine r_iconst (pc := 0) C (v := 0) dX10_sharers_0 (by decide) ?_
  refine r_istore_n (pc := 1) C (i := 2) dX10_sharers_1 rfl (by decide) rfl ?_
  refine r_iconst (pc := 2) C (v := 0) dX10_sharers_2 (by decide) ?_
  refine r_istore_n (pc := 3) C (i := 3) dX10_sharers_3 rfl (by decide) rfl ?_
  refine r_weak (lSub_s (lSub_s (lSub_s (lSub_s lSub_e)))) ?_
  exact N_X10_sharers_4 C a k S k p0 (0 : Int32) (0 : Int32) q  h hq
def M_X10_sharers (k : Nat) (S : Nat → Nat → Int32) (p0 : Int32) : Option (Int32) := M_X10_sharers_0 k S p0
set_option maxRecDepth 100000 in
set_option maxHeartbeats 4000000 in
theorem c_X10_sharers (E : ENV) (l : Launch) (k : Nat) (a : Nat → Nat) (S : Nat → Nat → Int32) (p0 : Int32) {q : Int32} (hm : M_X10_sharers k S p0 = some q) : CI E l yX10_sharers cX10_sharers 4 (some .int) rm_X10_sharers [.ref (a 0), .int p0] (wMd E a S) (fun r w' => r = q ∧ w' = (wMd E a S)) :=
  CI.of 2 (by decide) (Nat.le_of_ble_eq_true rfl) (fun p e s m below meth c A C _ => r_weak (lSub_s (lSub_s (lSub_n (lSub_n lSub_e)))) (N_X10_sharers_0 C a k S p0 q  hm ⟨rfl, rfl⟩))
theorem hd_X10_isWorker : yX10_isWorker.cls = RX10 ∧ yX10_isWorker.cls ≠ "java/lang/invoke/MethodHandle" ∧ yX10_isWorker.cls ≠ "java/lang/invoke/VarHandle" ∧ (parseMethodDescriptor yX10_isWorker.desc).map (fun d => d.parameters.length) = some 1 := by decide +kernel
theorem g_X10_270 : GoodIn GW (wsV RX10 270 RX10 yX10_isWorker (wsG yX10_isWorker cX10_isWorker 2 (some .boolean))) := gw_V wm_6_131 wm_6_133 wm_0_35 wm_1_9 wm_6_134
theorem hd_X10_kills : yX10_kills.cls = RX10 ∧ yX10_kills.cls ≠ "java/lang/invoke/MethodHandle" ∧ yX10_kills.cls ≠ "java/lang/invoke/VarHandle" ∧ (parseMethodDescriptor yX10_kills.desc).map (fun d => d.parameters.length) = some 2 := by decide +kernel
theorem g_X10_273 : GoodIn GW (wsV RX10 273 RX10 yX10_kills (wsG yX10_kills cX10_kills 6 (some .int))) := gw_V wm_6_147 wm_6_149 wm_0_39 wm_1_9 wm_6_150
theorem hd_X10_sharers : yX10_sharers.cls = RX10 ∧ yX10_sharers.cls ≠ "java/lang/invoke/MethodHandle" ∧ yX10_sharers.cls ≠ "java/lang/invoke/VarHandle" ∧ (parseMethodDescriptor yX10_sharers.desc).map (fun d => d.parameters.length) = some 1 := by decide +kernel
theorem g_X10_276 : GoodIn GW (wsV RX10 276 RX10 yX10_sharers (wsG yX10_sharers cX10_sharers 4 (some .int))) := gw_V wm_6_155 wm_6_157 wm_0_41 wm_1_9 wm_6_158
-- ShardGuardModel.worker(II)I
theorem dX10_worker_0 : decode cX10_worker 0 = .ok (.aload_n 0, 1) := by decide +kernel
theorem dX10_worker_1 : decode cX10_worker 1 = .ok (.iconst 0, 1) := by decide +kernel
theorem dX10_worker_2 : decode cX10_worker 2 = .ok (.putfield 93, 3) := by decide +kernel
theorem dX10_worker_5 : decode cX10_worker 5 = .ok (.aload_n 0, 1) := by decide +kernel
theorem dX10_worker_6 : decode cX10_worker 6 = .ok (.iload_n 1, 1) := by decide +kernel
theorem dX10_worker_7 : decode cX10_worker 7 = .ok (.invokevirtual 270, 3) := by decide +kernel
theorem dX10_worker_10 : decode cX10_worker 10 = .ok (.ifCond .ne 9, 3) := by decide +kernel
theorem dX10_worker_13 : decode cX10_worker 13 = .ok (.aload_n 0, 1) := by decide +kernel
theorem dX10_worker_14 : decode cX10_worker 14 = .ok (.iconst 1, 1) := by decide +kernel
theorem dX10_worker_15 : decode cX10_worker 15 = .ok (.invokevirtual 267, 3) := by decide +kernel
theorem dX10_worker_18 : decode cX10_worker 18 = .ok (.ireturn, 1) := by decide +kernel
theorem dX10_worker_19 : decode cX10_worker 19 = .ok (.iload_n 2, 1) := by decide +kernel
theorem dX10_worker_20 : decode cX10_worker 20 = .ok (.tableswitch 77 0 5 #[40, 40, 51, 58, 64, 71], 40) := by decide +kernel
theorem dX10_worker_60 : decode cX10_worker 60 = .ok (.aload_n 0, 1) := by decide +kernel
theorem dX10_worker_61 : decode cX10_worker 61 = .ok (.getfield 9, 3) := by decide +kernel
theorem dX10_worker_64 : decode cX10_worker 64 = .ok (.iload_n 1, 1) := by decide +kernel
theorem dX10_worker_65 : decode cX10_worker 65 = .ok (.iload_n 2, 1) := by decide +kernel
theorem dX10_worker_66 : decode cX10_worker 66 = .ok (.invokestatic 96, 3) := by decide +kernel
theorem dX10_worker_69 : decode cX10_worker 69 = .ok (.iaload, 1) := by decide +kernel
theorem dX10_worker_70 : decode cX10_worker 70 = .ok (.ireturn, 1) := by decide +kernel
theorem dX10_worker_71 : decode cX10_worker 71 = .ok (.aload_n 0, 1) := by decide +kernel
theorem dX10_worker_72 : decode cX10_worker 72 = .ok (.iconst 0, 1) := by decide +kernel
theorem dX10_worker_73 : decode cX10_worker 73 = .ok (.iload_n 1, 1) := by decide +kernel
theorem dX10_worker_74 : decode cX10_worker 74 = .ok (.invokevirtual 151, 3) := by decide +kernel
theorem dX10_worker_77 : decode cX10_worker 77 = .ok (.ireturn, 1) := by decide +kernel
theorem dX10_worker_78 : decode cX10_worker 78 = .ok (.aload_n 0, 1) := by decide +kernel
theorem dX10_worker_79 : decode cX10_worker 79 = .ok (.iload_n 1, 1) := by decide +kernel
theorem dX10_worker_80 : decode cX10_worker 80 = .ok (.invokevirtual 141, 3) := by decide +kernel
theorem dX10_worker_83 : decode cX10_worker 83 = .ok (.ireturn, 1) := by decide +kernel
theorem dX10_worker_84 : decode cX10_worker 84 = .ok (.aload_n 0, 1) := by decide +kernel
theorem dX10_worker_85 : decode cX10_worker 85 = .ok (.iconst (-1), 1) := by decide +kernel
theorem dX10_worker_86 : decode cX10_worker 86 = .ok (.iload_n 1, 1) := by decide +kernel
theorem dX10_worker_87 : decode cX10_worker 87 = .ok (.invokevirtual 273, 3) := by decide +kernel
theorem dX10_worker_90 : decode cX10_worker 90 = .ok (.ireturn, 1) := by decide +kernel
theorem dX10_worker_91 : decode cX10_worker 91 = .ok (.aload_n 0, 1) := by decide +kernel
theorem dX10_worker_92 : decode cX10_worker 92 = .ok (.iload_n 1, 1) := by decide +kernel
theorem dX10_worker_93 : decode cX10_worker 93 = .ok (.invokevirtual 276, 3) := by decide +kernel
theorem dX10_worker_96 : decode cX10_worker 96 = .ok (.ireturn, 1) := by decide +kernel
theorem dX10_worker_97 : decode cX10_worker 97 = .ok (.aload_n 0, 1) := by decide +kernel
theorem dX10_worker_98 : decode cX10_worker 98 = .ok (.iconst 1, 1) := by decide +kernel
theorem dX10_worker_99 : decode cX10_worker 99 = .ok (.invokevirtual 267, 3) := by decide +kernel
theorem dX10_worker_102 : decode cX10_worker 102 = .ok (.ireturn, 1) := by decide +kernel
def rm_X10_worker : Room := { frames := 4, cells := 0, slots := 0, locals := 90 }
def M_X10_worker_0 (k : Nat) (p0 : Int32) (p1 : Int32) (S : Nat → Nat → Int32) : Option (Int32 × (Nat → Nat → Int32)) := lt (va_up S 0 (upd (S 0) 1 (0 : Int32))) fun F1 => (M_X10_isWorker k F1 p0).bind fun q2 => if q2 = 0 then ((M_X10_raise k F1 (1 : Int32)).bind fun q19 => some (q19.1, q19.2)) else (if p1 = (0 : Int32) then ((M_X10_workerAt k p0 p1).bind fun q5 => (if inb q5 1692 = true then some (((F1 1) q5.toNatClampNeg), F1) else none)) else (if p1 = (1 : Int32) then ((M_X10_workerAt k p0 p1).bind fun q8 => (if inb q8 1692 = true then some (((F1 1) q8.toNatClampNeg), F1) else none)) else (if p1 = (2 : Int32) then ((M_X10_countIn k F1 (0 : Int32) p0).bind fun q11 => some (q11, F1)) else (if p1 = (3 : Int32) then ((M_X10_loadOf k F1 p0).bind fun q13 => some (q13, F1)) else (if p1 = (4 : Int32) then ((M_X10_kills k F1 (-1 : Int32) p0).bind fun q15 => some (q15, F1)) else (if p1 = (5 : Int32) then ((M_X10_sharers k F1 p0).bind fun q17 => some (q17, F1)) else ((M_X10_raise k F1 (1 : Int32)).bind fun q18 => some (q18.1, q18.2))))))))
set_option maxRecDepth 100000 in
set_option maxHeartbeats 4000000 in
theorem N_X10_worker_0 (C : CX E p l s m args meth c cX10_worker 3 RX10 (some .int) A) (a : Nat → Nat) (k : Nat) {post : Int32 → va_W → Prop} :
    ∀ (p0 : Int32) (p1 : Int32) (S : Nat → Nat → Int32) (q : Int32 × (Nat → Nat → Int32)), M_X10_worker_0 k p0 p1 S = some q → post q.1 (wMd E a q.2) →
      WW E p l e rm_X10_worker s m args below meth c A 0 0 (QI E below post args s rm_X10_worker A) (wMd E a S) 3 [some (.ref (a 0)), some (.int p0), some (.int p1)] 0 [] := by
  intro p0 p1 S q  h hq
  unfold M_X10_worker_0 at h
  refine r_aload_n (pc := 0) C (i := 0) dX10_worker_0 rfl rfl ?_
  refine r_iconst (pc := 1) C (v := 0) dX10_worker_1 (by decide) ?_
  obtain ⟨F1, hF1, h⟩ := lt_e h
  refine r_put (pc := 2) C gwX10 tyX10 tyX10_ok nmX10 0 rfl rfl 6 (by decide) wm_5_209 rfl rfl rfl rfl (Nat.le_of_ble_eq_true rfl) (w' := (wMd E a F1)) (by rw [hF1]; rfl) dX10_worker_2 ?_
  refine r_aload_n (pc := 5) C (i := 0) dX10_worker_5 rfl rfl ?_
  refine r_iload_n (pc := 6) C (i := 1) dX10_worker_6 rfl rfl ?_
  obtain ⟨q2, hq2, h⟩ := bnd h
  refine r_callVp_CI (Cn := RX10) (pc := 7) C [.int p0] (c_X10_isWorker E l k a F1 p0 hq2) [0, 1, 2, 3, 4, 5, 6, 7, 8, 9, 10, 11, 12] rfl (by decide) 0 rfl rfl rfl g_X10_270 hd_X10_isWorker ⟨Nat.le_of_ble_eq_true rfl, Nat.le_of_ble_eq_true rfl⟩ ⟨Nat.zero_le _, Nat.zero_le _⟩ (Nat.le_of_ble_eq_true rfl) rfl dX10_worker_7 (fun r hr => ?_)
  have hr := hr.symm
  subst hr
  refine r_if_ne (pc := 10) C (tgt := 19) dX10_worker_10 rfl (fun c3 => ?_) (fun c3 => ?_)
  · rw [if_neg c3] at h
    refine r_iload_n (pc := 19) C (i := 2) dX10_worker_19 rfl rfl ?_
    by_cases c4 : p1 = (0 : Int32)
    · rw [if_pos c4] at h
      refine r_tabIn (pc := 20) C 60 dX10_worker_20 c4 (by decide) (by decide) rfl rfl ?_
      refine r_aload_n (pc := 60) C (i := 0) dX10_worker_60 rfl rfl ?_
      refine r_get (pc := 61) C gwX10 0 rfl rfl 0 (by decide) wm_5_203 rfl dX10_worker_61 ?_
      refine r_iload_n (pc := 64) C (i := 1) dX10_worker_64 rfl rfl ?_
      refine r_iload_n (pc := 65) C (i := 2) dX10_worker_65 rfl rfl ?_
      obtain ⟨q5, hq5, h⟩ := bnd h
      refine r_callSp_CI (pc := 66) C [.int p0, .int p1] (c_X10_workerAt E l k p0 p1 hq5) [] rfl (by decide) g_X10_96 hd_X10_workerAt.2 ⟨Nat.le_of_ble_eq_true rfl, Nat.le_of_ble_eq_true rfl⟩ ⟨Nat.zero_le _, Nat.zero_le _⟩ (Nat.le_of_ble_eq_true rfl) rfl dX10_worker_66 (fun r hr => ?_)
      have hr := hr.symm
      subst hr
      obtain ⟨hi6, h⟩ := ifn h
      refine r_iald (pc := 69) C 1 rfl hi6 dX10_worker_69 ?_
      cases h
      exact r_ireti (pc := 70) C hq (Nat.zero_le _) (Nat.zero_le _) dX10_worker_70
    · rw [if_neg c4] at h
      by_cases c7 : p1 = (1 : Int32)
      · rw [if_pos c7] at h
        refine r_tabIn (pc := 20) C 60 dX10_worker_20 c7 (by decide) (by decide) rfl rfl ?_
        refine r_aload_n (pc := 60) C (i := 0) dX10_worker_60 rfl rfl ?_
        refine r_get (pc := 61) C gwX10 0 rfl rfl 0 (by decide) wm_5_203 rfl dX10_worker_61 ?_
        refine r_iload_n (pc := 64) C (i := 1) dX10_worker_64 rfl rfl ?_
        refine r_iload_n (pc := 65) C (i := 2) dX10_worker_65 rfl rfl ?_
        obtain ⟨q8, hq8, h⟩ := bnd h
        refine r_callSp_CI (pc := 66) C [.int p0, .int p1] (c_X10_workerAt E l k p0 p1 hq8) [] rfl (by decide) g_X10_96 hd_X10_workerAt.2 ⟨Nat.le_of_ble_eq_true rfl, Nat.le_of_ble_eq_true rfl⟩ ⟨Nat.zero_le _, Nat.zero_le _⟩ (Nat.le_of_ble_eq_true rfl) rfl dX10_worker_66 (fun r hr => ?_)
        have hr := hr.symm
        subst hr
        obtain ⟨hi9, h⟩ := ifn h
        refine r_iald (pc := 69) C 1 rfl hi9 dX10_worker_69 ?_
        cases h
        exact r_ireti (pc := 70) C hq (Nat.zero_le _) (Nat.zero_le _) dX10_worker_70
      · rw [if_neg c7] at h
        by_cases c10 : p1 = (2 : Int32)
        · rw [if_pos c10] at h
          refine r_tabIn (pc := 20) C 71 dX10_worker_20 c10 (by decide) (by decide) rfl rfl ?_
          refine r_aload_n (pc := 71) C (i := 0) dX10_worker_71 rfl rfl ?_
          refine r_iconst (pc := 72) C (v := 0) dX10_worker_72 (by decide) ?_
          refine r_iload_n (pc := 73) C (i := 1) dX10_worker_73 rfl rfl ?_
          obtain ⟨q11, hq11, h⟩ := bnd h
          refine r_callVp_CI (Cn := RX10) (pc := 74) C [.int (0 : Int32), .int p0] (c_X10_countIn E l k a F1 (0 : Int32) p0 hq11) [0, 1, 2, 3, 4, 5, 6, 7, 8, 9, 10, 11, 12] rfl (by decide) 0 rfl rfl rfl g_X10_151 hd_X10_countIn ⟨Nat.le_of_ble_eq_true rfl, Nat.le_of_ble_eq_true rfl⟩ ⟨Nat.zero_le _, Nat.zero_le _⟩ (Nat.le_of_ble_eq_true rfl) rfl dX10_worker_74 (fun r hr => ?_)
          have hr := hr.symm
          subst hr
          cases h
          exact r_ireti (pc := 77) C hq (Nat.zero_le _) (Nat.zero_le _) dX10_worker_77
        · rw [if_neg c10] at h
          by_cases c12 : p1 = (3 : Int32)
          · rw [if_pos c12] at h
            refine r_tabIn (pc := 20) C 78 dX10_worker_20 c12 (by decide) (by decide) rfl rfl ?_
            refine r_aload_n (pc := 78) C (i := 0) dX10_worker_78 rfl rfl ?_
            refine r_iload_n (pc := 79) C (i := 1) dX10_worker_79 rfl rfl ?_
            obtain ⟨q13, hq13, h⟩ := bnd h
            refine r_callVp_CI (Cn := RX10) (pc := 80) C [.int p0] (c_X10_loadOf E l k a F1 p0 hq13) [0, 1, 2, 3, 4, 5, 6, 7, 8, 9, 10, 11, 12] rfl (by decide) 0 rfl rfl rfl g_X10_141 hd_X10_loadOf ⟨Nat.le_of_ble_eq_true rfl, Nat.le_of_ble_eq_true rfl⟩ ⟨Nat.zero_le _, Nat.zero_le _⟩ (Nat.le_of_ble_eq_true rfl) rfl dX10_worker_80 (fun r hr => ?_)
            have hr := hr.symm
            subst hr
            cases h
            exact r_ireti (pc := 83) C hq (Nat.zero_le _) (Nat.zero_le _) dX10_worker_83
          · rw [if_neg c12] at h
            by_cases c14 : p1 = (4 : Int32)
            · rw [if_pos c14] at h
              refine r_tabIn (pc := 20) C 84 dX10_worker_20 c14 (by decide) (by decide) rfl rfl ?_
              refine r_aload_n (pc := 84) C (i := 0) dX10_worker_84 rfl rfl ?_
              refine r_iconst (pc := 85) C (v := (-1)) dX10_worker_85 (by decide) ?_
              refine r_iload_n (pc := 86) C (i := 1) dX10_worker_86 rfl rfl ?_
              obtain ⟨q15, hq15, h⟩ := bnd h
              refine r_callVp_CI (Cn := RX10) (pc := 87) C [.int (-1 : Int32), .int p0] (c_X10_kills E l k a F1 (-1 : Int32) p0 hq15) [0, 1, 2, 3, 4, 5, 6, 7, 8, 9, 10, 11, 12] rfl (by decide) 0 rfl rfl rfl g_X10_273 hd_X10_kills ⟨Nat.le_of_ble_eq_true rfl, Nat.le_of_ble_eq_true rfl⟩ ⟨Nat.zero_le _, Nat.zero_le _⟩ (Nat.le_of_ble_eq_true rfl) rfl dX10_worker_87 (fun r hr => ?_)
              have hr := hr.symm
              subst hr
              cases h
              exact r_ireti (pc := 90) C hq (Nat.zero_le _) (Nat.zero_le _) dX10_worker_90
            · rw [if_neg c14] at h
              by_cases c16 : p1 = (5 : Int32)
              · rw [if_pos c16] at h
                refine r_tabIn (pc := 20) C 91 dX10_worker_20 c16 (by decide) (by decide) rfl rfl ?_
                refine r_aload_n (pc := 91) C (i := 0) dX10_worker_91 rfl rfl ?_
                refine r_iload_n (pc := 92) C (i := 1) dX10_worker_92 rfl rfl ?_
                obtain ⟨q17, hq17, h⟩ := bnd h
                refine r_callVp_CI (Cn := RX10) (pc := 93) C [.int p0] (c_X10_sharers E l k a F1 p0 hq17) [0, 1, 2, 3, 4, 5, 6, 7, 8, 9, 10, 11, 12] rfl (by decide) 0 rfl rfl rfl g_X10_276 hd_X10_sharers ⟨Nat.le_of_ble_eq_true rfl, Nat.le_of_ble_eq_true rfl⟩ ⟨Nat.zero_le _, Nat.zero_le _⟩ (Nat.le_of_ble_eq_true rfl) rfl dX10_worker_93 (fun r hr => ?_)
                have hr := hr.symm
                subst hr
                cases h
                exact r_ireti (pc := 96) C hq (Nat.zero_le _) (Nat.zero_le _) dX10_worker_96
              · rw [if_neg c16] at h
                refine r_tabOut (pc := 20) C 97 dX10_worker_20 (by have := lv_neT (a := 0) c4 (by decide); have := lv_neT (a := 1) c7 (by decide); have := lv_neT (a := 2) c10 (by decide); have := lv_neT (a := 3) c12 (by decide); have := lv_neT (a := 4) c14 (by decide); have := lv_neT (a := 5) c16 (by decide); omega) rfl ?_
                refine r_aload_n (pc := 97) C (i := 0) dX10_worker_97 rfl rfl ?_
                refine r_iconst (pc := 98) C (v := 1) dX10_worker_98 (by decide) ?_
                obtain ⟨q18, hq18, h⟩ := bnd h
                refine r_callV_CI (Cn := RX10) (pc := 99) C [.int (1 : Int32)] (c_X10_raise E l k a F1 (1 : Int32) hq18) [0, 1, 2, 3, 4, 5, 6, 7, 8, 9, 10, 11, 12] rfl (by decide) 0 rfl rfl rfl g_X10_267 hd_X10_raise ⟨Nat.le_of_ble_eq_true rfl, Nat.le_of_ble_eq_true rfl⟩ ⟨Nat.zero_le _, Nat.zero_le _⟩ (Nat.le_of_ble_eq_true rfl) rfl dX10_worker_99 (fun r w1 hw1 => ?_)
                obtain ⟨hr1, hw1⟩ := hw1
                subst hr1 hw1
                refine ⟨(wMd E a q18.2), by rfl, ?_⟩
                cases h
                exact r_ireti (pc := 102) C hq (Nat.zero_le _) (Nat.zero_le _) dX10_worker_102
  · rw [if_pos c3] at h
    refine r_aload_n (pc := 13) C (i := 0) dX10_worker_13 rfl rfl ?_
    refine r_iconst (pc := 14) C (v := 1) dX10_worker_14 (by decide) ?_
    obtain ⟨q19, hq19, h⟩ := bnd h
    refine r_callV_CI (Cn := RX10) (pc := 15) C [.int (1 : Int32)] (c_X10_raise E l k a F1 (1 : Int32) hq19) [0, 1, 2, 3, 4, 5, 6, 7, 8, 9, 10, 11, 12] rfl (by decide) 0 rfl rfl rfl g_X10_267 hd_X10_raise ⟨Nat.le_of_ble_eq_true rfl, Nat.le_of_ble_eq_true rfl⟩ ⟨Nat.zero_le _, Nat.zero_le _⟩ (Nat.le_of_ble_eq_true rfl) rfl dX10_worker_15 (fun r w1 hw1 => ?_)
    obtain ⟨hr1, hw1⟩ := hw1
    subst hr1 hw1
    refine ⟨(wMd E a q19.2), by rfl, ?_⟩
    cases h
    exact r_ireti (pc := 18) C hq (Nat.zero_le _) (Nat.zero_le _) dX10_worker_18
def M_X10_worker (k : Nat) (S : Nat → Nat → Int32) (p0 : Int32) (p1 : Int32) : Option (Int32 × (Nat → Nat → Int32)) := M_X10_worker_0 k p0 p1 S
set_option maxRecDepth 100000 in
set_option maxHeartbeats 4000000 in
theorem c_X10_worker (E : ENV) (l : Launch) (k : Nat) (a : Nat → Nat) (S : Nat → Nat → Int32) (p0 : Int32) (p1 : Int32) {q : Int32 × (Nat → Nat → Int32)} (hm : M_X10_worker k S p0 p1 = some q) : CI E l yX10_worker cX10_worker 3 (some .int) rm_X10_worker [.ref (a 0), .int p0, .int p1] (wMd E a S) (fun r w' => r = q.1 ∧ w' = (wMd E a q.2)) :=
  CI.of 0 (by decide) (Nat.le_of_ble_eq_true rfl) (fun p e s m below meth c A C _ => r_weak (lSub_s (lSub_s (lSub_s lSub_e))) (N_X10_worker_0 C a k p0 p1 S q  hm ⟨rfl, rfl⟩))
-- ShardGuardModel.madeBy(I)I
theorem dX10_madeBy_0 : decode cX10_madeBy 0 = .ok (.iconst 0, 1) := by decide +kernel
theorem dX10_madeBy_1 : decode cX10_madeBy 1 = .ok (.istore_n 2, 1) := by decide +kernel
theorem dX10_madeBy_2 : decode cX10_madeBy 2 = .ok (.iconst 0, 1) := by decide +kernel
theorem dX10_madeBy_3 : decode cX10_madeBy 3 = .ok (.istore_n 3, 1) := by decide +kernel
theorem dX10_madeBy_4 : decode cX10_madeBy 4 = .ok (.iload_n 3, 1) := by decide +kernel
theorem dX10_madeBy_5 : decode cX10_madeBy 5 = .ok (.aload_n 0, 1) := by decide +kernel
theorem dX10_madeBy_6 : decode cX10_madeBy 6 = .ok (.invokevirtual 117, 3) := by decide +kernel
theorem dX10_madeBy_9 : decode cX10_madeBy 9 = .ok (.if_icmp .ge 27, 3) := by decide +kernel
theorem dX10_madeBy_12 : decode cX10_madeBy 12 = .ok (.iload_n 2, 1) := by decide +kernel
theorem dX10_madeBy_13 : decode cX10_madeBy 13 = .ok (.aload_n 0, 1) := by decide +kernel
theorem dX10_madeBy_14 : decode cX10_madeBy 14 = .ok (.iload_n 3, 1) := by decide +kernel
theorem dX10_madeBy_15 : decode cX10_madeBy 15 = .ok (.iconst 0, 1) := by decide +kernel
theorem dX10_madeBy_16 : decode cX10_madeBy 16 = .ok (.invokevirtual 123, 3) := by decide +kernel
theorem dX10_madeBy_19 : decode cX10_madeBy 19 = .ok (.iload_n 1, 1) := by decide +kernel
theorem dX10_madeBy_20 : decode cX10_madeBy 20 = .ok (.if_icmp .ne 7, 3) := by decide +kernel
theorem dX10_madeBy_23 : decode cX10_madeBy 23 = .ok (.iconst 1, 1) := by decide +kernel
theorem dX10_madeBy_24 : decode cX10_madeBy 24 = .ok (.goto 4, 3) := by decide +kernel
theorem dX10_madeBy_27 : decode cX10_madeBy 27 = .ok (.iconst 0, 1) := by decide +kernel
theorem dX10_madeBy_28 : decode cX10_madeBy 28 = .ok (.iadd, 1) := by decide +kernel
theorem dX10_madeBy_29 : decode cX10_madeBy 29 = .ok (.istore_n 2, 1) := by decide +kernel
theorem dX10_madeBy_30 : decode cX10_madeBy 30 = .ok (.iinc 3 1, 3) := by decide +kernel
theorem dX10_madeBy_33 : decode cX10_madeBy 33 = .ok (.goto (-29), 3) := by decide +kernel
theorem dX10_madeBy_36 : decode cX10_madeBy 36 = .ok (.iload_n 2, 1) := by decide +kernel
theorem dX10_madeBy_37 : decode cX10_madeBy 37 = .ok (.ireturn, 1) := by decide +kernel
def rm_X10_madeBy : Room := { frames := 2, cells := 0, slots := 0, locals := 43 }
def M_X10_madeBy_4 (k : Nat) (S : Nat → Nat → Int32) : Nat → (Int32) → (Int32) → (Int32) → Option (Int32)
  | 0, _, _, _ => none
  | n + 1, x1, x2, x3 => (M_X10_requests k S).bind fun q1 => if q1 ≤ x3 then (some x2) else ((M_X10_of k S x3 (0 : Int32)).bind fun q3 => if q3 = x1 then (lt (x2 + (1 : Int32)) fun v6 => M_X10_madeBy_4 k S n x1 v6 (x3 + 1)) else (lt (x2 + (0 : Int32)) fun v5 => M_X10_madeBy_4 k S n x1 v5 (x3 + 1)))
theorem M_X10_madeBy_4_s (k : Nat) (S : Nat → Nat → Int32) (n : Nat) (x1 : Int32) (x2 : Int32) (x3 : Int32) : M_X10_madeBy_4 k S (n + 1) x1 x2 x3 = ((M_X10_requests k S).bind fun q1 => if q1 ≤ x3 then (some x2) else ((M_X10_of k S x3 (0 : Int32)).bind fun q3 => if q3 = x1 then (lt (x2 + (1 : Int32)) fun v6 => M_X10_madeBy_4 k S n x1 v6 (x3 + 1)) else (lt (x2 + (0 : Int32)) fun v5 => M_X10_madeBy_4 k S n x1 v5 (x3 + 1)))) := rfl
set_option maxRecDepth 100000 in
set_option maxHeartbeats 4000000 in
theorem N_X10_madeBy_4 (C : CX E p l s m args meth c cX10_madeBy 4 RX10 (some .int) A) (a : Nat → Nat) (k : Nat) (S : Nat → Nat → Int32) {post : Int32 → va_W → Prop} :
    ∀ (n : Nat) (x1 : Int32) (x2 : Int32) (x3 : Int32) (q : Int32), M_X10_madeBy_4 k S n x1 x2 x3 = some q → post q (wMd E a S) →
      WW E p l e rm_X10_madeBy s m args below meth c A 0 0 (QI E below post args s rm_X10_madeBy A) (wMd E a S) 4 [some (.ref (a 0)), some (.int x1), some (.int x2), some (.int x3)] 4 [] := by
  intro n
  induction n with
  | zero => intro x1 x2 x3 q  h _; cases h
  | succ n ih =>
    intro x1 x2 x3 q  h hq
    rw [M_X10_madeBy_4_s] at h
    refine r_iload_n (pc := 4) C (i := 3) dX10_madeBy_4 rfl rfl ?_
    refine r_aload_n (pc := 5) C (i := 0) dX10_madeBy_5 rfl rfl ?_
    obtain ⟨q1, hq1, h⟩ := bnd h
    refine r_callVp_CI (Cn := RX10) (pc := 6) C [] (c_X10_requests E l k a S hq1) [0, 1, 2, 3, 4, 5, 6, 7, 8, 9, 10, 11, 12] rfl (by decide) 0 rfl rfl rfl g_X10_117 hd_X10_requests ⟨Nat.le_of_ble_eq_true rfl, Nat.le_of_ble_eq_true rfl⟩ ⟨Nat.zero_le _, Nat.zero_le _⟩ (Nat.le_of_ble_eq_true rfl) rfl dX10_madeBy_6 (fun r hr => ?_)
    have hr := hr.symm
    subst hr
    refine r_icmp_ge (pc := 9) C (tgt := 36) dX10_madeBy_9 rfl (fun c2 => ?_) (fun c2 => ?_)
    · rw [if_pos c2] at h
      refine r_iload_n (pc := 36) C (i := 2) dX10_madeBy_36 rfl rfl ?_
      cases h
      exact r_ireti (pc := 37) C hq (Nat.zero_le _) (Nat.zero_le _) dX10_madeBy_37
    · rw [if_neg c2] at h
      refine r_iload_n (pc := 12) C (i := 2) dX10_madeBy_12 rfl rfl ?_
      refine r_aload_n (pc := 13) C (i := 0) dX10_madeBy_13 rfl rfl ?_
      refine r_iload_n (pc := 14) C (i := 3) dX10_madeBy_14 rfl rfl ?_
      refine r_iconst (pc := 15) C (v := 0) dX10_madeBy_15 (by decide) ?_
      obtain ⟨q3, hq3, h⟩ := bnd h
      refine r_callVp_CI (Cn := RX10) (pc := 16) C [.int x3, .int (0 : Int32)] (c_X10_of E l k a S x3 (0 : Int32) hq3) [0, 1, 2, 3, 4, 5, 6, 7, 8, 9, 10, 11, 12] rfl (by decide) 0 rfl rfl rfl g_X10_123 hd_X10_of ⟨Nat.le_of_ble_eq_true rfl, Nat.le_of_ble_eq_true rfl⟩ ⟨Nat.zero_le _, Nat.zero_le _⟩ (Nat.le_of_ble_eq_true rfl) rfl dX10_madeBy_16 (fun r hr => ?_)
      have hr := hr.symm
      subst hr
      refine r_iload_n (pc := 19) C (i := 1) dX10_madeBy_19 rfl rfl ?_
      refine r_icmp_ne (pc := 20) C (tgt := 27) dX10_madeBy_20 rfl (fun c4 => ?_) (fun c4 => ?_)
      · rw [if_neg c4] at h
        refine r_iconst (pc := 27) C (v := 0) dX10_madeBy_27 (by decide) ?_
        refine r_iadd (pc := 28) C dX10_madeBy_28 ?_
        obtain ⟨v5, hv5, h⟩ := lt_e h
        refine r_topi hv5 ?_
        refine r_istore_n (pc := 29) C (i := 2) dX10_madeBy_29 rfl (by decide) rfl ?_
        refine r_iinc (pc := 30) C (v := (x3 + 1)) dX10_madeBy_30 rfl rfl (by decide) rfl ?_
        refine r_goto (pc := 33) C (tgt := 4) dX10_madeBy_33 rfl ?_
        refine r_weak (lSub_s (lSub_s (lSub_s (lSub_s lSub_e)))) ?_
        exact ih x1 v5 (x3 + 1) q  h hq
      · rw [if_pos c4] at h
        refine r_iconst (pc := 23) C (v := 1) dX10_madeBy_23 (by decide) ?_
        refine r_goto (pc := 24) C (tgt := 28) dX10_madeBy_24 rfl ?_
        refine r_iadd (pc := 28) C dX10_madeBy_28 ?_
        obtain ⟨v6, hv6, h⟩ := lt_e h
        refine r_topi hv6 ?_
        refine r_istore_n (pc := 29) C (i := 2) dX10_madeBy_29 rfl (by decide) rfl ?_
        refine r_iinc (pc := 30) C (v := (x3 + 1)) dX10_madeBy_30 rfl rfl (by decide) rfl ?_
        refine r_goto (pc := 33) C (tgt := 4) dX10_madeBy_33 rfl ?_
        refine r_weak (lSub_s (lSub_s (lSub_s (lSub_s lSub_e)))) ?_
        exact ih x1 v6 (x3 + 1) q  h hq
def M_X10_madeBy_0 (k : Nat) (S : Nat → Nat → Int32) (p0 : Int32) : Option (Int32) := M_X10_madeBy_4 k S k p0 (0 : Int32) (0 : Int32)
set_option maxRecDepth 100000 in
set_option maxHeartbeats 4000000 in
theorem N_X10_madeBy_0 (C : CX E p l s m args meth c cX10_madeBy 4 RX10 (some .int) A) (a : Nat → Nat) (k : Nat) (S : Nat → Nat → Int32) {post : Int32 → va_W → Prop} :
    ∀ (p0 : Int32) (q : Int32), M_X10_madeBy_0 k S p0 = some q → post q (wMd E a S) →
      WW E p l e rm_X10_madeBy s m args below meth c A 0 0 (QI E below post args s rm_X10_madeBy A) (wMd E a S) 4 [some (.ref (a 0)), some (.int p0), none, none] 0 [] := by
  intro p0 q  h hq
  unfold M_X10_madeBy_0 at h
  refine r_iconst (pc := 0) C (v := 0) dX10_madeBy_0 (by decide) ?_
  refine r_istore_n (pc := 1) C (i := 2) dX10_madeBy_1 rfl (by decide) rfl ?_
  refine r_iconst (pc := 2) C (v := 0) dX10_madeBy_2 (by decide) ?_
  refine r_istore_n (pc := 3) C (i := 3) dX10_madeBy_3 rfl (by decide) rfl ?_
  refine r_weak (lSub_s (lSub_s (lSub_s (lSub_s lSub_e)))) ?_
  exact N_X10_madeBy_4 C a k S k p0 (0 : Int32) (0 : Int32) q  h hq
def M_X10_madeBy (k : Nat) (S : Nat → Nat → Int32) (p0 : Int32) : Option (Int32) := M_X10_madeBy_0 k S p0
set_option maxRecDepth 100000 in
set_option maxHeartbeats 4000000 in
theorem c_X10_madeBy (E : ENV) (l : Launch) (k : Nat) (a : Nat → Nat) (S : Nat → Nat → Int32) (p0 : Int32) {q : Int32} (hm : M_X10_madeBy k S p0 = some q) : CI E l yX10_madeBy cX10_madeBy 4 (some .int) rm_X10_madeBy [.ref (a 0), .int p0] (wMd E a S) (fun r w' => r = q ∧ w' = (wMd E a S)) :=
  CI.of 2 (by decide) (Nat.le_of_ble_eq_true rfl) (fun p e s m below meth c A C _ => r_weak (lSub_s (lSub_s (lSub_n (lSub_n lSub_e)))) (N_X10_madeBy_0 C a k S p0 q  hm ⟨rfl, rfl⟩))
theorem hd_X10_isTenant : yX10_isTenant.cls = RX10 ∧ yX10_isTenant.cls ≠ "java/lang/invoke/MethodHandle" ∧ yX10_isTenant.cls ≠ "java/lang/invoke/VarHandle" ∧ (parseMethodDescriptor yX10_isTenant.desc).map (fun d => d.parameters.length) = some 1 := by decide +kernel
theorem g_X10_279 : GoodIn GW (wsV RX10 279 RX10 yX10_isTenant (wsG yX10_isTenant cX10_isTenant 2 (some .boolean))) := gw_V wm_6_166 wm_6_168 wm_0_42 wm_1_9 wm_6_169
theorem hd_X10_madeBy : yX10_madeBy.cls = RX10 ∧ yX10_madeBy.cls ≠ "java/lang/invoke/MethodHandle" ∧ yX10_madeBy.cls ≠ "java/lang/invoke/VarHandle" ∧ (parseMethodDescriptor yX10_madeBy.desc).map (fun d => d.parameters.length) = some 1 := by decide +kernel
theorem g_X10_282 : GoodIn GW (wsV RX10 282 RX10 yX10_madeBy (wsG yX10_madeBy cX10_madeBy 4 (some .int))) := gw_V wm_6_170 wm_6_172 wm_0_43 wm_1_9 wm_6_173
theorem hd_X10_counted : yX10_counted.cls = RX10 ∧ yX10_counted.cls ≠ "java/lang/invoke/MethodHandle" ∧ yX10_counted.cls ≠ "java/lang/invoke/VarHandle" ∧ (parseMethodDescriptor yX10_counted.desc).map (fun d => d.parameters.length) = some 1 := by decide +kernel
theorem g_X10_202 : GoodIn GW (wsV RX10 202 RX10 yX10_counted (wsG yX10_counted cX10_counted 5 (some .int))) := gw_V wm_6_174 wm_6_176 wm_0_44 wm_1_9 wm_6_177
-- ShardGuardModel.tenant(II)I
theorem dX10_tenant_0 : decode cX10_tenant 0 = .ok (.aload_n 0, 1) := by decide +kernel
theorem dX10_tenant_1 : decode cX10_tenant 1 = .ok (.iconst 0, 1) := by decide +kernel
theorem dX10_tenant_2 : decode cX10_tenant 2 = .ok (.putfield 93, 3) := by decide +kernel
theorem dX10_tenant_5 : decode cX10_tenant 5 = .ok (.aload_n 0, 1) := by decide +kernel
theorem dX10_tenant_6 : decode cX10_tenant 6 = .ok (.iload_n 1, 1) := by decide +kernel
theorem dX10_tenant_7 : decode cX10_tenant 7 = .ok (.invokevirtual 279, 3) := by decide +kernel
theorem dX10_tenant_10 : decode cX10_tenant 10 = .ok (.ifCond .ne 9, 3) := by decide +kernel
theorem dX10_tenant_13 : decode cX10_tenant 13 = .ok (.aload_n 0, 1) := by decide +kernel
theorem dX10_tenant_14 : decode cX10_tenant 14 = .ok (.iconst 1, 1) := by decide +kernel
theorem dX10_tenant_15 : decode cX10_tenant 15 = .ok (.invokevirtual 267, 3) := by decide +kernel
theorem dX10_tenant_18 : decode cX10_tenant 18 = .ok (.ireturn, 1) := by decide +kernel
theorem dX10_tenant_19 : decode cX10_tenant 19 = .ok (.iload_n 2, 1) := by decide +kernel
theorem dX10_tenant_20 : decode cX10_tenant 20 = .ok (.tableswitch 127 0 8 #[52, 59, 73, 80, 86, 93, 100, 107, 113], 52) := by decide +kernel
theorem dX10_tenant_72 : decode cX10_tenant 72 = .ok (.aload_n 0, 1) := by decide +kernel
theorem dX10_tenant_73 : decode cX10_tenant 73 = .ok (.iload_n 1, 1) := by decide +kernel
theorem dX10_tenant_74 : decode cX10_tenant 74 = .ok (.iconst 0, 1) := by decide +kernel
theorem dX10_tenant_75 : decode cX10_tenant 75 = .ok (.invokevirtual 120, 3) := by decide +kernel
theorem dX10_tenant_78 : decode cX10_tenant 78 = .ok (.ireturn, 1) := by decide +kernel
theorem dX10_tenant_79 : decode cX10_tenant 79 = .ok (.aload_n 0, 1) := by decide +kernel
theorem dX10_tenant_80 : decode cX10_tenant 80 = .ok (.iload_n 1, 1) := by decide +kernel
theorem dX10_tenant_81 : decode cX10_tenant 81 = .ok (.invokevirtual 199, 3) := by decide +kernel
theorem dX10_tenant_84 : decode cX10_tenant 84 = .ok (.ifCond .eq 7, 3) := by decide +kernel
theorem dX10_tenant_87 : decode cX10_tenant 87 = .ok (.iconst 0, 1) := by decide +kernel
theorem dX10_tenant_88 : decode cX10_tenant 88 = .ok (.goto 4, 3) := by decide +kernel
theorem dX10_tenant_91 : decode cX10_tenant 91 = .ok (.iconst 1, 1) := by decide +kernel
theorem dX10_tenant_92 : decode cX10_tenant 92 = .ok (.ireturn, 1) := by decide +kernel
theorem dX10_tenant_93 : decode cX10_tenant 93 = .ok (.aload_n 0, 1) := by decide +kernel
theorem dX10_tenant_94 : decode cX10_tenant 94 = .ok (.iload_n 1, 1) := by decide +kernel
theorem dX10_tenant_95 : decode cX10_tenant 95 = .ok (.iconst 1, 1) := by decide +kernel
theorem dX10_tenant_96 : decode cX10_tenant 96 = .ok (.invokevirtual 120, 3) := by decide +kernel
theorem dX10_tenant_99 : decode cX10_tenant 99 = .ok (.ireturn, 1) := by decide +kernel
theorem dX10_tenant_100 : decode cX10_tenant 100 = .ok (.aload_n 0, 1) := by decide +kernel
theorem dX10_tenant_101 : decode cX10_tenant 101 = .ok (.iload_n 1, 1) := by decide +kernel
theorem dX10_tenant_102 : decode cX10_tenant 102 = .ok (.invokevirtual 282, 3) := by decide +kernel
theorem dX10_tenant_105 : decode cX10_tenant 105 = .ok (.ireturn, 1) := by decide +kernel
theorem dX10_tenant_106 : decode cX10_tenant 106 = .ok (.aload_n 0, 1) := by decide +kernel
theorem dX10_tenant_107 : decode cX10_tenant 107 = .ok (.iconst 2, 1) := by decide +kernel
theorem dX10_tenant_108 : decode cX10_tenant 108 = .ok (.iload_n 1, 1) := by decide +kernel
theorem dX10_tenant_109 : decode cX10_tenant 109 = .ok (.invokevirtual 258, 3) := by decide +kernel
theorem dX10_tenant_112 : decode cX10_tenant 112 = .ok (.ireturn, 1) := by decide +kernel
theorem dX10_tenant_113 : decode cX10_tenant 113 = .ok (.aload_n 0, 1) := by decide +kernel
theorem dX10_tenant_114 : decode cX10_tenant 114 = .ok (.iconst 4, 1) := by decide +kernel
theorem dX10_tenant_115 : decode cX10_tenant 115 = .ok (.iload_n 1, 1) := by decide +kernel
theorem dX10_tenant_116 : decode cX10_tenant 116 = .ok (.invokevirtual 258, 3) := by decide +kernel
theorem dX10_tenant_119 : decode cX10_tenant 119 = .ok (.ireturn, 1) := by decide +kernel
theorem dX10_tenant_120 : decode cX10_tenant 120 = .ok (.aload_n 0, 1) := by decide +kernel
theorem dX10_tenant_121 : decode cX10_tenant 121 = .ok (.iload_n 1, 1) := by decide +kernel
theorem dX10_tenant_122 : decode cX10_tenant 122 = .ok (.iconst (-1), 1) := by decide +kernel
theorem dX10_tenant_123 : decode cX10_tenant 123 = .ok (.invokevirtual 273, 3) := by decide +kernel
theorem dX10_tenant_126 : decode cX10_tenant 126 = .ok (.ireturn, 1) := by decide +kernel
theorem dX10_tenant_127 : decode cX10_tenant 127 = .ok (.aload_n 0, 1) := by decide +kernel
theorem dX10_tenant_128 : decode cX10_tenant 128 = .ok (.iload_n 1, 1) := by decide +kernel
theorem dX10_tenant_129 : decode cX10_tenant 129 = .ok (.invokevirtual 202, 3) := by decide +kernel
theorem dX10_tenant_132 : decode cX10_tenant 132 = .ok (.ireturn, 1) := by decide +kernel
theorem dX10_tenant_133 : decode cX10_tenant 133 = .ok (.aload_n 0, 1) := by decide +kernel
theorem dX10_tenant_134 : decode cX10_tenant 134 = .ok (.iload_n 1, 1) := by decide +kernel
theorem dX10_tenant_135 : decode cX10_tenant 135 = .ok (.invokevirtual 252, 3) := by decide +kernel
theorem dX10_tenant_138 : decode cX10_tenant 138 = .ok (.ifCond .eq 7, 3) := by decide +kernel
theorem dX10_tenant_141 : decode cX10_tenant 141 = .ok (.iconst 1, 1) := by decide +kernel
theorem dX10_tenant_142 : decode cX10_tenant 142 = .ok (.goto 4, 3) := by decide +kernel
theorem dX10_tenant_145 : decode cX10_tenant 145 = .ok (.iconst 0, 1) := by decide +kernel
theorem dX10_tenant_146 : decode cX10_tenant 146 = .ok (.ireturn, 1) := by decide +kernel
theorem dX10_tenant_147 : decode cX10_tenant 147 = .ok (.aload_n 0, 1) := by decide +kernel
theorem dX10_tenant_148 : decode cX10_tenant 148 = .ok (.iconst 1, 1) := by decide +kernel
theorem dX10_tenant_149 : decode cX10_tenant 149 = .ok (.invokevirtual 267, 3) := by decide +kernel
theorem dX10_tenant_152 : decode cX10_tenant 152 = .ok (.ireturn, 1) := by decide +kernel
def rm_X10_tenant : Room := { frames := 4, cells := 0, slots := 0, locals := 85 }
def M_X10_tenant_0 (k : Nat) (p0 : Int32) (p1 : Int32) (S : Nat → Nat → Int32) : Option (Int32 × (Nat → Nat → Int32)) := lt (va_up S 0 (upd (S 0) 1 (0 : Int32))) fun F1 => (M_X10_isTenant k F1 p0).bind fun q2 => if q2 = 0 then ((M_X10_raise k F1 (1 : Int32)).bind fun q25 => some (q25.1, q25.2)) else (if p1 = (0 : Int32) then ((M_X10_ofTenant k F1 p0 (0 : Int32)).bind fun q5 => some (q5, F1)) else (if p1 = (1 : Int32) then ((M_X10_isOpen k F1 p0).bind fun q7 => if q7 = 0 then (some ((1 : Int32), F1)) else (some ((0 : Int32), F1))) else (if p1 = (2 : Int32) then ((M_X10_ofTenant k F1 p0 (1 : Int32)).bind fun q10 => some (q10, F1)) else (if p1 = (3 : Int32) then ((M_X10_madeBy k F1 p0).bind fun q12 => some (q12, F1)) else (if p1 = (4 : Int32) then ((M_X10_inState k F1 (2 : Int32) p0).bind fun q14 => some (q14, F1)) else (if p1 = (5 : Int32) then ((M_X10_inState k F1 (4 : Int32) p0).bind fun q16 => some (q16, F1)) else (if p1 = (6 : Int32) then ((M_X10_kills k F1 p0 (-1 : Int32)).bind fun q18 => some (q18, F1)) else (if p1 = (7 : Int32) then ((M_X10_counted k F1 p0).bind fun q20 => some (q20, F1)) else (if p1 = (8 : Int32) then ((M_X10_isCutOff k F1 p0).bind fun q22 => if q22 = 0 then (some ((0 : Int32), F1)) else (some ((1 : Int32), F1))) else ((M_X10_raise k F1 (1 : Int32)).bind fun q24 => some (q24.1, q24.2)))))))))))
set_option maxRecDepth 100000 in
set_option maxHeartbeats 4000000 in
theorem N_X10_tenant_0 (C : CX E p l s m args meth c cX10_tenant 3 RX10 (some .int) A) (a : Nat → Nat) (k : Nat) {post : Int32 → va_W → Prop} :
    ∀ (p0 : Int32) (p1 : Int32) (S : Nat → Nat → Int32) (q : Int32 × (Nat → Nat → Int32)), M_X10_tenant_0 k p0 p1 S = some q → post q.1 (wMd E a q.2) →
      WW E p l e rm_X10_tenant s m args below meth c A 0 0 (QI E below post args s rm_X10_tenant A) (wMd E a S) 3 [some (.ref (a 0)), some (.int p0), some (.int p1)] 0 [] := by
  intro p0 p1 S q  h hq
  unfold M_X10_tenant_0 at h
  refine r_aload_n (pc := 0) C (i := 0) dX10_tenant_0 rfl rfl ?_
  refine r_iconst (pc := 1) C (v := 0) dX10_tenant_1 (by decide) ?_
  obtain ⟨F1, hF1, h⟩ := lt_e h
  refine r_put (pc := 2) C gwX10 tyX10 tyX10_ok nmX10 0 rfl rfl 6 (by decide) wm_5_209 rfl rfl rfl rfl (Nat.le_of_ble_eq_true rfl) (w' := (wMd E a F1)) (by rw [hF1]; rfl) dX10_tenant_2 ?_
  refine r_aload_n (pc := 5) C (i := 0) dX10_tenant_5 rfl rfl ?_
  refine r_iload_n (pc := 6) C (i := 1) dX10_tenant_6 rfl rfl ?_
  obtain ⟨q2, hq2, h⟩ := bnd h
  refine r_callVp_CI (Cn := RX10) (pc := 7) C [.int p0] (c_X10_isTenant E l k a F1 p0 hq2) [0, 1, 2, 3, 4, 5, 6, 7, 8, 9, 10, 11, 12] rfl (by decide) 0 rfl rfl rfl g_X10_279 hd_X10_isTenant ⟨Nat.le_of_ble_eq_true rfl, Nat.le_of_ble_eq_true rfl⟩ ⟨Nat.zero_le _, Nat.zero_le _⟩ (Nat.le_of_ble_eq_true rfl) rfl dX10_tenant_7 (fun r hr => ?_)
  have hr := hr.symm
  subst hr
  refine r_if_ne (pc := 10) C (tgt := 19) dX10_tenant_10 rfl (fun c3 => ?_) (fun c3 => ?_)
  · rw [if_neg c3] at h
    refine r_iload_n (pc := 19) C (i := 2) dX10_tenant_19 rfl rfl ?_
    by_cases c4 : p1 = (0 : Int32)
    · rw [if_pos c4] at h
      refine r_tabIn (pc := 20) C 72 dX10_tenant_20 c4 (by decide) (by decide) rfl rfl ?_
      refine r_aload_n (pc := 72) C (i := 0) dX10_tenant_72 rfl rfl ?_
      refine r_iload_n (pc := 73) C (i := 1) dX10_tenant_73 rfl rfl ?_
      refine r_iconst (pc := 74) C (v := 0) dX10_tenant_74 (by decide) ?_
      obtain ⟨q5, hq5, h⟩ := bnd h
      refine r_callVp_CI (Cn := RX10) (pc := 75) C [.int p0, .int (0 : Int32)] (c_X10_ofTenant E l k a F1 p0 (0 : Int32) hq5) [0, 1, 2, 3, 4, 5, 6, 7, 8, 9, 10, 11, 12] rfl (by decide) 0 rfl rfl rfl g_X10_120 hd_X10_ofTenant ⟨Nat.le_of_ble_eq_true rfl, Nat.le_of_ble_eq_true rfl⟩ ⟨Nat.zero_le _, Nat.zero_le _⟩ (Nat.le_of_ble_eq_true rfl) rfl dX10_tenant_75 (fun r hr => ?_)
      have hr := hr.symm
      subst hr
      cases h
      exact r_ireti (pc := 78) C hq (Nat.zero_le _) (Nat.zero_le _) dX10_tenant_78
    · rw [if_neg c4] at h
      by_cases c6 : p1 = (1 : Int32)
      · rw [if_pos c6] at h
        refine r_tabIn (pc := 20) C 79 dX10_tenant_20 c6 (by decide) (by decide) rfl rfl ?_
        refine r_aload_n (pc := 79) C (i := 0) dX10_tenant_79 rfl rfl ?_
        refine r_iload_n (pc := 80) C (i := 1) dX10_tenant_80 rfl rfl ?_
        obtain ⟨q7, hq7, h⟩ := bnd h
        refine r_callVp_CI (Cn := RX10) (pc := 81) C [.int p0] (c_X10_isOpen E l k a F1 p0 hq7) [0, 1, 2, 3, 4, 5, 6, 7, 8, 9, 10, 11, 12] rfl (by decide) 0 rfl rfl rfl g_X10_199 hd_X10_isOpen ⟨Nat.le_of_ble_eq_true rfl, Nat.le_of_ble_eq_true rfl⟩ ⟨Nat.zero_le _, Nat.zero_le _⟩ (Nat.le_of_ble_eq_true rfl) rfl dX10_tenant_81 (fun r hr => ?_)
        have hr := hr.symm
        subst hr
        refine r_if_eq (pc := 84) C (tgt := 91) dX10_tenant_84 rfl (fun c8 => ?_) (fun c8 => ?_)
        · rw [if_pos c8] at h
          refine r_iconst (pc := 91) C (v := 1) dX10_tenant_91 (by decide) ?_
          cases h
          exact r_ireti (pc := 92) C hq (Nat.zero_le _) (Nat.zero_le _) dX10_tenant_92
        · rw [if_neg c8] at h
          refine r_iconst (pc := 87) C (v := 0) dX10_tenant_87 (by decide) ?_
          refine r_goto (pc := 88) C (tgt := 92) dX10_tenant_88 rfl ?_
          cases h
          exact r_ireti (pc := 92) C hq (Nat.zero_le _) (Nat.zero_le _) dX10_tenant_92
      · rw [if_neg c6] at h
        by_cases c9 : p1 = (2 : Int32)
        · rw [if_pos c9] at h
          refine r_tabIn (pc := 20) C 93 dX10_tenant_20 c9 (by decide) (by decide) rfl rfl ?_
          refine r_aload_n (pc := 93) C (i := 0) dX10_tenant_93 rfl rfl ?_
          refine r_iload_n (pc := 94) C (i := 1) dX10_tenant_94 rfl rfl ?_
          refine r_iconst (pc := 95) C (v := 1) dX10_tenant_95 (by decide) ?_
          obtain ⟨q10, hq10, h⟩ := bnd h
          refine r_callVp_CI (Cn := RX10) (pc := 96) C [.int p0, .int (1 : Int32)] (c_X10_ofTenant E l k a F1 p0 (1 : Int32) hq10) [0, 1, 2, 3, 4, 5, 6, 7, 8, 9, 10, 11, 12] rfl (by decide) 0 rfl rfl rfl g_X10_120 hd_X10_ofTenant ⟨Nat.le_of_ble_eq_true rfl, Nat.le_of_ble_eq_true rfl⟩ ⟨Nat.zero_le _, Nat.zero_le _⟩ (Nat.le_of_ble_eq_true rfl) rfl dX10_tenant_96 (fun r hr => ?_)
          have hr := hr.symm
          subst hr
          cases h
          exact r_ireti (pc := 99) C hq (Nat.zero_le _) (Nat.zero_le _) dX10_tenant_99
        · rw [if_neg c9] at h
          by_cases c11 : p1 = (3 : Int32)
          · rw [if_pos c11] at h
            refine r_tabIn (pc := 20) C 100 dX10_tenant_20 c11 (by decide) (by decide) rfl rfl ?_
            refine r_aload_n (pc := 100) C (i := 0) dX10_tenant_100 rfl rfl ?_
            refine r_iload_n (pc := 101) C (i := 1) dX10_tenant_101 rfl rfl ?_
            obtain ⟨q12, hq12, h⟩ := bnd h
            refine r_callVp_CI (Cn := RX10) (pc := 102) C [.int p0] (c_X10_madeBy E l k a F1 p0 hq12) [0, 1, 2, 3, 4, 5, 6, 7, 8, 9, 10, 11, 12] rfl (by decide) 0 rfl rfl rfl g_X10_282 hd_X10_madeBy ⟨Nat.le_of_ble_eq_true rfl, Nat.le_of_ble_eq_true rfl⟩ ⟨Nat.zero_le _, Nat.zero_le _⟩ (Nat.le_of_ble_eq_true rfl) rfl dX10_tenant_102 (fun r hr => ?_)
            have hr := hr.symm
            subst hr
            cases h
            exact r_ireti (pc := 105) C hq (Nat.zero_le _) (Nat.zero_le _) dX10_tenant_105
          · rw [if_neg c11] at h
            by_cases c13 : p1 = (4 : Int32)
            · rw [if_pos c13] at h
              refine r_tabIn (pc := 20) C 106 dX10_tenant_20 c13 (by decide) (by decide) rfl rfl ?_
              refine r_aload_n (pc := 106) C (i := 0) dX10_tenant_106 rfl rfl ?_
              refine r_iconst (pc := 107) C (v := 2) dX10_tenant_107 (by decide) ?_
              refine r_iload_n (pc := 108) C (i := 1) dX10_tenant_108 rfl rfl ?_
              obtain ⟨q14, hq14, h⟩ := bnd h
              refine r_callVp_CI (Cn := RX10) (pc := 109) C [.int (2 : Int32), .int p0] (c_X10_inState E l k a F1 (2 : Int32) p0 hq14) [0, 1, 2, 3, 4, 5, 6, 7, 8, 9, 10, 11, 12] rfl (by decide) 0 rfl rfl rfl g_X10_258 hd_X10_inState ⟨Nat.le_of_ble_eq_true rfl, Nat.le_of_ble_eq_true rfl⟩ ⟨Nat.zero_le _, Nat.zero_le _⟩ (Nat.le_of_ble_eq_true rfl) rfl dX10_tenant_109 (fun r hr => ?_)
              have hr := hr.symm
              subst hr
              cases h
              exact r_ireti (pc := 112) C hq (Nat.zero_le _) (Nat.zero_le _) dX10_tenant_112
            · rw [if_neg c13] at h
              by_cases c15 : p1 = (5 : Int32)
              · rw [if_pos c15] at h
                refine r_tabIn (pc := 20) C 113 dX10_tenant_20 c15 (by decide) (by decide) rfl rfl ?_
                refine r_aload_n (pc := 113) C (i := 0) dX10_tenant_113 rfl rfl ?_
                refine r_iconst (pc := 114) C (v := 4) dX10_tenant_114 (by decide) ?_
                refine r_iload_n (pc := 115) C (i := 1) dX10_tenant_115 rfl rfl ?_
                obtain ⟨q16, hq16, h⟩ := bnd h
                refine r_callVp_CI (Cn := RX10) (pc := 116) C [.int (4 : Int32), .int p0] (c_X10_inState E l k a F1 (4 : Int32) p0 hq16) [0, 1, 2, 3, 4, 5, 6, 7, 8, 9, 10, 11, 12] rfl (by decide) 0 rfl rfl rfl g_X10_258 hd_X10_inState ⟨Nat.le_of_ble_eq_true rfl, Nat.le_of_ble_eq_true rfl⟩ ⟨Nat.zero_le _, Nat.zero_le _⟩ (Nat.le_of_ble_eq_true rfl) rfl dX10_tenant_116 (fun r hr => ?_)
                have hr := hr.symm
                subst hr
                cases h
                exact r_ireti (pc := 119) C hq (Nat.zero_le _) (Nat.zero_le _) dX10_tenant_119
              · rw [if_neg c15] at h
                by_cases c17 : p1 = (6 : Int32)
                · rw [if_pos c17] at h
                  refine r_tabIn (pc := 20) C 120 dX10_tenant_20 c17 (by decide) (by decide) rfl rfl ?_
                  refine r_aload_n (pc := 120) C (i := 0) dX10_tenant_120 rfl rfl ?_
                  refine r_iload_n (pc := 121) C (i := 1) dX10_tenant_121 rfl rfl ?_
                  refine r_iconst (pc := 122) C (v := (-1)) dX10_tenant_122 (by decide) ?_
                  obtain ⟨q18, hq18, h⟩ := bnd h
                  refine r_callVp_CI (Cn := RX10) (pc := 123) C [.int p0, .int (-1 : Int32)] (c_X10_kills E l k a F1 p0 (-1 : Int32) hq18) [0, 1, 2, 3, 4, 5, 6, 7, 8, 9, 10, 11, 12] rfl (by decide) 0 rfl rfl rfl g_X10_273 hd_X10_kills ⟨Nat.le_of_ble_eq_true rfl, Nat.le_of_ble_eq_true rfl⟩ ⟨Nat.zero_le _, Nat.zero_le _⟩ (Nat.le_of_ble_eq_true rfl) rfl dX10_tenant_123 (fun r hr => ?_)
                  have hr := hr.symm
                  subst hr
                  cases h
                  exact r_ireti (pc := 126) C hq (Nat.zero_le _) (Nat.zero_le _) dX10_tenant_126
                · rw [if_neg c17] at h
                  by_cases c19 : p1 = (7 : Int32)
                  · rw [if_pos c19] at h
                    refine r_tabIn (pc := 20) C 127 dX10_tenant_20 c19 (by decide) (by decide) rfl rfl ?_
                    refine r_aload_n (pc := 127) C (i := 0) dX10_tenant_127 rfl rfl ?_
                    refine r_iload_n (pc := 128) C (i := 1) dX10_tenant_128 rfl rfl ?_
                    obtain ⟨q20, hq20, h⟩ := bnd h
                    refine r_callVp_CI (Cn := RX10) (pc := 129) C [.int p0] (c_X10_counted E l k a F1 p0 hq20) [0, 1, 2, 3, 4, 5, 6, 7, 8, 9, 10, 11, 12] rfl (by decide) 0 rfl rfl rfl g_X10_202 hd_X10_counted ⟨Nat.le_of_ble_eq_true rfl, Nat.le_of_ble_eq_true rfl⟩ ⟨Nat.zero_le _, Nat.zero_le _⟩ (Nat.le_of_ble_eq_true rfl) rfl dX10_tenant_129 (fun r hr => ?_)
                    have hr := hr.symm
                    subst hr
                    cases h
                    exact r_ireti (pc := 132) C hq (Nat.zero_le _) (Nat.zero_le _) dX10_tenant_132
                  · rw [if_neg c19] at h
                    by_cases c21 : p1 = (8 : Int32)
                    · rw [if_pos c21] at h
                      refine r_tabIn (pc := 20) C 133 dX10_tenant_20 c21 (by decide) (by decide) rfl rfl ?_
                      refine r_aload_n (pc := 133) C (i := 0) dX10_tenant_133 rfl rfl ?_
                      refine r_iload_n (pc := 134) C (i := 1) dX10_tenant_134 rfl rfl ?_
                      obtain ⟨q22, hq22, h⟩ := bnd h
                      refine r_callVp_CI (Cn := RX10) (pc := 135) C [.int p0] (c_X10_isCutOff E l k a F1 p0 hq22) [0, 1, 2, 3, 4, 5, 6, 7, 8, 9, 10, 11, 12] rfl (by decide) 0 rfl rfl rfl g_X10_252 hd_X10_isCutOff ⟨Nat.le_of_ble_eq_true rfl, Nat.le_of_ble_eq_true rfl⟩ ⟨Nat.zero_le _, Nat.zero_le _⟩ (Nat.le_of_ble_eq_true rfl) rfl dX10_tenant_135 (fun r hr => ?_)
                      have hr := hr.symm
                      subst hr
                      refine r_if_eq (pc := 138) C (tgt := 145) dX10_tenant_138 rfl (fun c23 => ?_) (fun c23 => ?_)
                      · rw [if_pos c23] at h
                        refine r_iconst (pc := 145) C (v := 0) dX10_tenant_145 (by decide) ?_
                        cases h
                        exact r_ireti (pc := 146) C hq (Nat.zero_le _) (Nat.zero_le _) dX10_tenant_146
                      · rw [if_neg c23] at h
                        refine r_iconst (pc := 141) C (v := 1) dX10_tenant_141 (by decide) ?_
                        refine r_goto (pc := 142) C (tgt := 146) dX10_tenant_142 rfl ?_
                        cases h
                        exact r_ireti (pc := 146) C hq (Nat.zero_le _) (Nat.zero_le _) dX10_tenant_146
                    · rw [if_neg c21] at h
                      refine r_tabOut (pc := 20) C 147 dX10_tenant_20 (by have := lv_neT (a := 0) c4 (by decide); have := lv_neT (a := 1) c6 (by decide); have := lv_neT (a := 2) c9 (by decide); have := lv_neT (a := 3) c11 (by decide); have := lv_neT (a := 4) c13 (by decide); have := lv_neT (a := 5) c15 (by decide); have := lv_neT (a := 6) c17 (by decide); have := lv_neT (a := 7) c19 (by decide); have := lv_neT (a := 8) c21 (by decide); omega) rfl ?_
                      refine r_aload_n (pc := 147) C (i := 0) dX10_tenant_147 rfl rfl ?_
                      refine r_iconst (pc := 148) C (v := 1) dX10_tenant_148 (by decide) ?_
                      obtain ⟨q24, hq24, h⟩ := bnd h
                      refine r_callV_CI (Cn := RX10) (pc := 149) C [.int (1 : Int32)] (c_X10_raise E l k a F1 (1 : Int32) hq24) [0, 1, 2, 3, 4, 5, 6, 7, 8, 9, 10, 11, 12] rfl (by decide) 0 rfl rfl rfl g_X10_267 hd_X10_raise ⟨Nat.le_of_ble_eq_true rfl, Nat.le_of_ble_eq_true rfl⟩ ⟨Nat.zero_le _, Nat.zero_le _⟩ (Nat.le_of_ble_eq_true rfl) rfl dX10_tenant_149 (fun r w1 hw1 => ?_)
                      obtain ⟨hr1, hw1⟩ := hw1
                      subst hr1 hw1
                      refine ⟨(wMd E a q24.2), by rfl, ?_⟩
                      cases h
                      exact r_ireti (pc := 152) C hq (Nat.zero_le _) (Nat.zero_le _) dX10_tenant_152
  · rw [if_pos c3] at h
    refine r_aload_n (pc := 13) C (i := 0) dX10_tenant_13 rfl rfl ?_
    refine r_iconst (pc := 14) C (v := 1) dX10_tenant_14 (by decide) ?_
    obtain ⟨q25, hq25, h⟩ := bnd h
    refine r_callV_CI (Cn := RX10) (pc := 15) C [.int (1 : Int32)] (c_X10_raise E l k a F1 (1 : Int32) hq25) [0, 1, 2, 3, 4, 5, 6, 7, 8, 9, 10, 11, 12] rfl (by decide) 0 rfl rfl rfl g_X10_267 hd_X10_raise ⟨Nat.le_of_ble_eq_true rfl, Nat.le_of_ble_eq_true rfl⟩ ⟨Nat.zero_le _, Nat.zero_le _⟩ (Nat.le_of_ble_eq_true rfl) rfl dX10_tenant_15 (fun r w1 hw1 => ?_)
    obtain ⟨hr1, hw1⟩ := hw1
    subst hr1 hw1
    refine ⟨(wMd E a q25.2), by rfl, ?_⟩
    cases h
    exact r_ireti (pc := 18) C hq (Nat.zero_le _) (Nat.zero_le _) dX10_tenant_18
def M_X10_tenant (k : Nat) (S : Nat → Nat → Int32) (p0 : Int32) (p1 : Int32) : Option (Int32 × (Nat → Nat → Int32)) := M_X10_tenant_0 k p0 p1 S
set_option maxRecDepth 100000 in
set_option maxHeartbeats 4000000 in
theorem c_X10_tenant (E : ENV) (l : Launch) (k : Nat) (a : Nat → Nat) (S : Nat → Nat → Int32) (p0 : Int32) (p1 : Int32) {q : Int32 × (Nat → Nat → Int32)} (hm : M_X10_tenant k S p0 p1 = some q) : CI E l yX10_tenant cX10_tenant 3 (some .int) rm_X10_tenant [.ref (a 0), .int p0, .int p1] (wMd E a S) (fun r w' => r = q.1 ∧ w' = (wMd E a q.2)) :=
  CI.of 0 (by decide) (Nat.le_of_ble_eq_true rfl) (fun p e s m below meth c A C _ => r_weak (lSub_s (lSub_s (lSub_s lSub_e))) (N_X10_tenant_0 C a k p0 p1 S q  hm ⟨rfl, rfl⟩))
end WALKS
