section WALKS
variable {E : ENV} {p : Program} {l : Launch} {e : Env} {s : State} {m : MethodId} {args : Array Value} {below : List Frame} {meth : Method} {c : Code} {A : Nat → Prop}
-- ShardGuardModel.isUp(I)Z
theorem dX10_isUp_0 : decode cX10_isUp 0 = .ok (.aload_n 0, 1) := by decide +kernel
theorem dX10_isUp_1 : decode cX10_isUp 1 = .ok (.getfield 25, 3) := by decide +kernel
theorem dX10_isUp_4 : decode cX10_isUp 4 = .ok (.iload_n 1, 1) := by decide +kernel
theorem dX10_isUp_5 : decode cX10_isUp 5 = .ok (.iconst 0, 1) := by decide +kernel
theorem dX10_isUp_6 : decode cX10_isUp 6 = .ok (.invokestatic 96, 3) := by decide +kernel
theorem dX10_isUp_9 : decode cX10_isUp 9 = .ok (.iaload, 1) := by decide +kernel
theorem dX10_isUp_10 : decode cX10_isUp 10 = .ok (.iconst 1, 1) := by decide +kernel
theorem dX10_isUp_11 : decode cX10_isUp 11 = .ok (.if_icmp .ne 7, 3) := by decide +kernel
theorem dX10_isUp_14 : decode cX10_isUp 14 = .ok (.iconst 1, 1) := by decide +kernel
theorem dX10_isUp_15 : decode cX10_isUp 15 = .ok (.goto 4, 3) := by decide +kernel
theorem dX10_isUp_18 : decode cX10_isUp 18 = .ok (.iconst 0, 1) := by decide +kernel
theorem dX10_isUp_19 : decode cX10_isUp 19 = .ok (.ireturn, 1) := by decide +kernel
def rm_X10_isUp : Room := { frames := 1, cells := 0, slots := 0, locals := 21 }
def M_X10_isUp_0 (k : Nat) (S : Nat → Nat → Int32) (p0 : Int32) : Option (Int32) := lt (gsel S) fun g1 => (if gokN g1 = true then (M_X10_workerAt k p0 (0 : Int32)).bind fun q2 => (if inb q2 1692 = true then if (S g1 q2.toNatClampNeg) = (1 : Int32) then (some (1 : Int32)) else (some (0 : Int32)) else none) else none)
set_option maxRecDepth 100000 in
set_option maxHeartbeats 4000000 in
theorem N_X10_isUp_0 (C : CX E p l s m args meth c cX10_isUp 2 RX10 (some .boolean) A) (a : Nat → Nat) (k : Nat) (S : Nat → Nat → Int32) {post : Int32 → va_W → Prop} :
    ∀ (p0 : Int32) (q : Int32), M_X10_isUp_0 k S p0 = some q → post q (wMd E a S) →
      WW E p l e rm_X10_isUp s m args below meth c A 0 0 (QI E below post args s rm_X10_isUp A) (wMd E a S) 2 [some (.ref (a 0)), some (.int p0)] 0 [] := by
  intro p0 q  h hq
  unfold M_X10_isUp_0 at h
  refine r_aload_n (pc := 0) C (i := 0) dX10_isUp_0 rfl rfl ?_
  obtain ⟨g1, hg1, h⟩ := lt_e h
  obtain ⟨kg1, h⟩ := ifn h
  refine r_get (pc := 1) C gwX10 0 rfl rfl 8 (by decide) wm_5_211 rfl dX10_isUp_1 ?_
  refine r_topg (a := a) hg1 ?_
  refine r_iload_n (pc := 4) C (i := 1) dX10_isUp_4 rfl rfl ?_
  refine r_iconst (pc := 5) C (v := 0) dX10_isUp_5 (by decide) ?_
  obtain ⟨q2, hq2, h⟩ := bnd h
  refine r_callSp_CI (pc := 6) C [.int p0, .int (0 : Int32)] (c_X10_workerAt E l k p0 (0 : Int32) hq2) [] rfl (by decide) g_X10_96 hd_X10_workerAt.2 ⟨Nat.le_of_ble_eq_true rfl, Nat.le_of_ble_eq_true rfl⟩ ⟨Nat.zero_le _, Nat.zero_le _⟩ (Nat.le_of_ble_eq_true rfl) rfl dX10_isUp_6 (fun r hr => ?_)
  have hr := hr.symm
  subst hr
  obtain ⟨hi3, h⟩ := ifn h
  refine r_iald (pc := 9) C g1 (wMd_at kg1) hi3 dX10_isUp_9 ?_
  refine r_iconst (pc := 10) C (v := 1) dX10_isUp_10 (by decide) ?_
  refine r_icmp_ne (pc := 11) C (tgt := 18) dX10_isUp_11 rfl (fun c4 => ?_) (fun c4 => ?_)
  · rw [if_neg c4] at h
    refine r_iconst (pc := 18) C (v := 0) dX10_isUp_18 (by decide) ?_
    cases h
    exact r_iretz (pc := 19) C (Or.inl rfl) hq (Nat.zero_le _) (Nat.zero_le _) dX10_isUp_19
  · rw [if_pos c4] at h
    refine r_iconst (pc := 14) C (v := 1) dX10_isUp_14 (by decide) ?_
    refine r_goto (pc := 15) C (tgt := 19) dX10_isUp_15 rfl ?_
    cases h
    exact r_iretz (pc := 19) C (Or.inr rfl) hq (Nat.zero_le _) (Nat.zero_le _) dX10_isUp_19
def M_X10_isUp (k : Nat) (S : Nat → Nat → Int32) (p0 : Int32) : Option (Int32) := M_X10_isUp_0 k S p0
set_option maxRecDepth 100000 in
set_option maxHeartbeats 4000000 in
theorem c_X10_isUp (E : ENV) (l : Launch) (k : Nat) (a : Nat → Nat) (S : Nat → Nat → Int32) (p0 : Int32) {q : Int32} (hm : M_X10_isUp k S p0 = some q) : CI E l yX10_isUp cX10_isUp 2 (some .boolean) rm_X10_isUp [.ref (a 0), .int p0] (wMd E a S) (fun r w' => r = q ∧ w' = (wMd E a S)) :=
  CI.of 0 (by decide) (Nat.le_of_ble_eq_true rfl) (fun p e s m below meth c A C _ => r_weak (lSub_s (lSub_s lSub_e)) (N_X10_isUp_0 C a k S p0 q  hm ⟨rfl, rfl⟩))
theorem hd_X10_tenantAt : yX10_tenantAt.cls = RX10 ∧ yX10_tenantAt.cls ≠ "java/lang/invoke/MethodHandle" ∧ yX10_tenantAt.cls ≠ "java/lang/invoke/VarHandle" ∧ (parseMethodDescriptor yX10_tenantAt.desc).map (fun d => d.parameters.length) = some 2 := by decide +kernel
theorem g_X10_100 : GoodIn GW (va_wsS RX10 100 yX10_tenantAt (wsG yX10_tenantAt cX10_tenantAt 2 (some .int))) := gw_S wm_6_101 wm_6_102 wm_1_9 wm_6_103
-- ShardGuardModel.ofTenant(II)I
theorem dX10_ofTenant_0 : decode cX10_ofTenant 0 = .ok (.aload_n 0, 1) := by decide +kernel
theorem dX10_ofTenant_1 : decode cX10_ofTenant 1 = .ok (.getfield 25, 3) := by decide +kernel
theorem dX10_ofTenant_4 : decode cX10_ofTenant 4 = .ok (.iload_n 1, 1) := by decide +kernel
theorem dX10_ofTenant_5 : decode cX10_ofTenant 5 = .ok (.iload_n 2, 1) := by decide +kernel
theorem dX10_ofTenant_6 : decode cX10_ofTenant 6 = .ok (.invokestatic 100, 3) := by decide +kernel
theorem dX10_ofTenant_9 : decode cX10_ofTenant 9 = .ok (.iaload, 1) := by decide +kernel
theorem dX10_ofTenant_10 : decode cX10_ofTenant 10 = .ok (.ireturn, 1) := by decide +kernel
def rm_X10_ofTenant : Room := { frames := 1, cells := 0, slots := 0, locals := 21 }
def M_X10_ofTenant_0 (k : Nat) (S : Nat → Nat → Int32) (p0 : Int32) (p1 : Int32) : Option (Int32) := lt (gsel S) fun g1 => (if gokN g1 = true then (M_X10_tenantAt k p0 p1).bind fun q2 => (if inb q2 1692 = true then some (S g1 q2.toNatClampNeg) else none) else none)
set_option maxRecDepth 100000 in
set_option maxHeartbeats 4000000 in
theorem N_X10_ofTenant_0 (C : CX E p l s m args meth c cX10_ofTenant 3 RX10 (some .int) A) (a : Nat → Nat) (k : Nat) (S : Nat → Nat → Int32) {post : Int32 → va_W → Prop} :
    ∀ (p0 : Int32) (p1 : Int32) (q : Int32), M_X10_ofTenant_0 k S p0 p1 = some q → post q (wMd E a S) →
      WW E p l e rm_X10_ofTenant s m args below meth c A 0 0 (QI E below post args s rm_X10_ofTenant A) (wMd E a S) 3 [some (.ref (a 0)), some (.int p0), some (.int p1)] 0 [] := by
  intro p0 p1 q  h hq
  unfold M_X10_ofTenant_0 at h
  refine r_aload_n (pc := 0) C (i := 0) dX10_ofTenant_0 rfl rfl ?_
  obtain ⟨g1, hg1, h⟩ := lt_e h
  obtain ⟨kg1, h⟩ := ifn h
  refine r_get (pc := 1) C gwX10 0 rfl rfl 8 (by decide) wm_5_211 rfl dX10_ofTenant_1 ?_
  refine r_topg (a := a) hg1 ?_
  refine r_iload_n (pc := 4) C (i := 1) dX10_ofTenant_4 rfl rfl ?_
  refine r_iload_n (pc := 5) C (i := 2) dX10_ofTenant_5 rfl rfl ?_
  obtain ⟨q2, hq2, h⟩ := bnd h
  refine r_callSp_CI (pc := 6) C [.int p0, .int p1] (c_X10_tenantAt E l k p0 p1 hq2) [] rfl (by decide) g_X10_100 hd_X10_tenantAt.2 ⟨Nat.le_of_ble_eq_true rfl, Nat.le_of_ble_eq_true rfl⟩ ⟨Nat.zero_le _, Nat.zero_le _⟩ (Nat.le_of_ble_eq_true rfl) rfl dX10_ofTenant_6 (fun r hr => ?_)
  have hr := hr.symm
  subst hr
  obtain ⟨hi3, h⟩ := ifn h
  refine r_iald (pc := 9) C g1 (wMd_at kg1) hi3 dX10_ofTenant_9 ?_
  cases h
  exact r_ireti (pc := 10) C hq (Nat.zero_le _) (Nat.zero_le _) dX10_ofTenant_10
def M_X10_ofTenant (k : Nat) (S : Nat → Nat → Int32) (p0 : Int32) (p1 : Int32) : Option (Int32) := M_X10_ofTenant_0 k S p0 p1
set_option maxRecDepth 100000 in
set_option maxHeartbeats 4000000 in
theorem c_X10_ofTenant (E : ENV) (l : Launch) (k : Nat) (a : Nat → Nat) (S : Nat → Nat → Int32) (p0 : Int32) (p1 : Int32) {q : Int32} (hm : M_X10_ofTenant k S p0 p1 = some q) : CI E l yX10_ofTenant cX10_ofTenant 3 (some .int) rm_X10_ofTenant [.ref (a 0), .int p0, .int p1] (wMd E a S) (fun r w' => r = q ∧ w' = (wMd E a S)) :=
  CI.of 0 (by decide) (Nat.le_of_ble_eq_true rfl) (fun p e s m below meth c A C _ => r_weak (lSub_s (lSub_s (lSub_s lSub_e))) (N_X10_ofTenant_0 C a k S p0 p1 q  hm ⟨rfl, rfl⟩))
theorem hd_X10_requestAt : yX10_requestAt.cls = RX10 ∧ yX10_requestAt.cls ≠ "java/lang/invoke/MethodHandle" ∧ yX10_requestAt.cls ≠ "java/lang/invoke/VarHandle" ∧ (parseMethodDescriptor yX10_requestAt.desc).map (fun d => d.parameters.length) = some 2 := by decide +kernel
theorem g_X10_103 : GoodIn GW (va_wsS RX10 103 yX10_requestAt (wsG yX10_requestAt cX10_requestAt 2 (some .int))) := gw_S wm_6_82 wm_6_83 wm_1_9 wm_6_84
-- ShardGuardModel.of(II)I
theorem dX10_of_0 : decode cX10_of 0 = .ok (.aload_n 0, 1) := by decide +kernel
theorem dX10_of_1 : decode cX10_of 1 = .ok (.getfield 25, 3) := by decide +kernel
theorem dX10_of_4 : decode cX10_of 4 = .ok (.iload_n 1, 1) := by decide +kernel
theorem dX10_of_5 : decode cX10_of 5 = .ok (.iload_n 2, 1) := by decide +kernel
theorem dX10_of_6 : decode cX10_of 6 = .ok (.invokestatic 103, 3) := by decide +kernel
theorem dX10_of_9 : decode cX10_of 9 = .ok (.iaload, 1) := by decide +kernel
theorem dX10_of_10 : decode cX10_of 10 = .ok (.ireturn, 1) := by decide +kernel
def rm_X10_of : Room := { frames := 1, cells := 0, slots := 0, locals := 21 }
def M_X10_of_0 (k : Nat) (S : Nat → Nat → Int32) (p0 : Int32) (p1 : Int32) : Option (Int32) := lt (gsel S) fun g1 => (if gokN g1 = true then (M_X10_requestAt k p0 p1).bind fun q2 => (if inb q2 1692 = true then some (S g1 q2.toNatClampNeg) else none) else none)
set_option maxRecDepth 100000 in
set_option maxHeartbeats 4000000 in
theorem N_X10_of_0 (C : CX E p l s m args meth c cX10_of 3 RX10 (some .int) A) (a : Nat → Nat) (k : Nat) (S : Nat → Nat → Int32) {post : Int32 → va_W → Prop} :
    ∀ (p0 : Int32) (p1 : Int32) (q : Int32), M_X10_of_0 k S p0 p1 = some q → post q (wMd E a S) →
      WW E p l e rm_X10_of s m args below meth c A 0 0 (QI E below post args s rm_X10_of A) (wMd E a S) 3 [some (.ref (a 0)), some (.int p0), some (.int p1)] 0 [] := by
  intro p0 p1 q  h hq
  unfold M_X10_of_0 at h
  refine r_aload_n (pc := 0) C (i := 0) dX10_of_0 rfl rfl ?_
  obtain ⟨g1, hg1, h⟩ := lt_e h
  obtain ⟨kg1, h⟩ := ifn h
  refine r_get (pc := 1) C gwX10 0 rfl rfl 8 (by decide) wm_5_211 rfl dX10_of_1 ?_
  refine r_topg (a := a) hg1 ?_
  refine r_iload_n (pc := 4) C (i := 1) dX10_of_4 rfl rfl ?_
  refine r_iload_n (pc := 5) C (i := 2) dX10_of_5 rfl rfl ?_
  obtain ⟨q2, hq2, h⟩ := bnd h
  refine r_callSp_CI (pc := 6) C [.int p0, .int p1] (c_X10_requestAt E l k p0 p1 hq2) [] rfl (by decide) g_X10_103 hd_X10_requestAt.2 ⟨Nat.le_of_ble_eq_true rfl, Nat.le_of_ble_eq_true rfl⟩ ⟨Nat.zero_le _, Nat.zero_le _⟩ (Nat.le_of_ble_eq_true rfl) rfl dX10_of_6 (fun r hr => ?_)
  have hr := hr.symm
  subst hr
  obtain ⟨hi3, h⟩ := ifn h
  refine r_iald (pc := 9) C g1 (wMd_at kg1) hi3 dX10_of_9 ?_
  cases h
  exact r_ireti (pc := 10) C hq (Nat.zero_le _) (Nat.zero_le _) dX10_of_10
def M_X10_of (k : Nat) (S : Nat → Nat → Int32) (p0 : Int32) (p1 : Int32) : Option (Int32) := M_X10_of_0 k S p0 p1
set_option maxRecDepth 100000 in
set_option maxHeartbeats 4000000 in
theorem c_X10_of (E : ENV) (l : Launch) (k : Nat) (a : Nat → Nat) (S : Nat → Nat → Int32) (p0 : Int32) (p1 : Int32) {q : Int32} (hm : M_X10_of k S p0 p1 = some q) : CI E l yX10_of cX10_of 3 (some .int) rm_X10_of [.ref (a 0), .int p0, .int p1] (wMd E a S) (fun r w' => r = q ∧ w' = (wMd E a S)) :=
  CI.of 0 (by decide) (Nat.le_of_ble_eq_true rfl) (fun p e s m below meth c A C _ => r_weak (lSub_s (lSub_s (lSub_s lSub_e))) (N_X10_of_0 C a k S p0 p1 q  hm ⟨rfl, rfl⟩))
-- ShardGuardModel.put(III)V
theorem dX10_put_0 : decode cX10_put 0 = .ok (.aload_n 0, 1) := by decide +kernel
theorem dX10_put_1 : decode cX10_put 1 = .ok (.getfield 25, 3) := by decide +kernel
theorem dX10_put_4 : decode cX10_put 4 = .ok (.iload_n 1, 1) := by decide +kernel
theorem dX10_put_5 : decode cX10_put 5 = .ok (.iload_n 2, 1) := by decide +kernel
theorem dX10_put_6 : decode cX10_put 6 = .ok (.invokestatic 103, 3) := by decide +kernel
theorem dX10_put_9 : decode cX10_put 9 = .ok (.iload_n 3, 1) := by decide +kernel
theorem dX10_put_10 : decode cX10_put 10 = .ok (.iastore, 1) := by decide +kernel
theorem dX10_put_11 : decode cX10_put 11 = .ok (.return_, 1) := by decide +kernel
def rm_X10_put : Room := { frames := 1, cells := 0, slots := 0, locals := 21 }
def M_X10_put_0 (k : Nat) (p0 : Int32) (p1 : Int32) (p2 : Int32) (S : Nat → Nat → Int32) : Option ((Nat → Nat → Int32)) := lt (gsel S) fun g1 => (if gokN g1 = true then (M_X10_requestAt k p0 p1).bind fun q2 => (if inb q2 1692 = true then lt (va_up S g1 (upd (S g1) q2.toNatClampNeg p2)) fun F4 => some F4 else none) else none)
set_option maxRecDepth 100000 in
set_option maxHeartbeats 4000000 in
theorem N_X10_put_0 (C : CX E p l s m args meth c cX10_put 4 RX10 none A) (a : Nat → Nat) (k : Nat) {post : va_W → Prop} :
    ∀ (p0 : Int32) (p1 : Int32) (p2 : Int32) (S : Nat → Nat → Int32) (q : (Nat → Nat → Int32)), M_X10_put_0 k p0 p1 p2 S = some q → post (wMd E a q) →
      WW E p l e rm_X10_put s m args below meth c A 0 0 (QV E below post args s rm_X10_put A) (wMd E a S) 4 [some (.ref (a 0)), some (.int p0), some (.int p1), some (.int p2)] 0 [] := by
  intro p0 p1 p2 S q  h hq
  unfold M_X10_put_0 at h
  refine r_aload_n (pc := 0) C (i := 0) dX10_put_0 rfl rfl ?_
  obtain ⟨g1, hg1, h⟩ := lt_e h
  obtain ⟨kg1, h⟩ := ifn h
  refine r_get (pc := 1) C gwX10 0 rfl rfl 8 (by decide) wm_5_211 rfl dX10_put_1 ?_
  refine r_topg (a := a) hg1 ?_
  refine r_iload_n (pc := 4) C (i := 1) dX10_put_4 rfl rfl ?_
  refine r_iload_n (pc := 5) C (i := 2) dX10_put_5 rfl rfl ?_
  obtain ⟨q2, hq2, h⟩ := bnd h
  refine r_callSp_CI (pc := 6) C [.int p0, .int p1] (c_X10_requestAt E l k p0 p1 hq2) [] rfl (by decide) g_X10_103 hd_X10_requestAt.2 ⟨Nat.le_of_ble_eq_true rfl, Nat.le_of_ble_eq_true rfl⟩ ⟨Nat.zero_le _, Nat.zero_le _⟩ (Nat.le_of_ble_eq_true rfl) rfl dX10_put_6 (fun r hr => ?_)
  have hr := hr.symm
  subst hr
  refine r_iload_n (pc := 9) C (i := 3) dX10_put_9 rfl rfl ?_
  obtain ⟨hi3, h⟩ := ifn h
  obtain ⟨F4, hF4, h⟩ := lt_e h
  refine r_iast (pc := 10) C g1 (wMd_at kg1) hi3 (w' := (wMd E a F4)) (by rw [hF4]; exact wMd_set kg1) dX10_put_10 ?_
  cases h
  exact r_vret (pc := 11) C hq (Nat.zero_le _) (Nat.zero_le _) dX10_put_11
def M_X10_put (k : Nat) (S : Nat → Nat → Int32) (p0 : Int32) (p1 : Int32) (p2 : Int32) : Option ((Nat → Nat → Int32)) := M_X10_put_0 k p0 p1 p2 S
set_option maxRecDepth 100000 in
set_option maxHeartbeats 4000000 in
theorem c_X10_put (E : ENV) (l : Launch) (k : Nat) (a : Nat → Nat) (S : Nat → Nat → Int32) (p0 : Int32) (p1 : Int32) (p2 : Int32) {q : (Nat → Nat → Int32)} (hm : M_X10_put k S p0 p1 p2 = some q) : CV E l yX10_put cX10_put 4 none rm_X10_put [.ref (a 0), .int p0, .int p1, .int p2] (wMd E a S) (fun w' => w' = (wMd E a q)) :=
  CV.of 0 (by decide) (Nat.le_of_ble_eq_true rfl) (fun p e s m below meth c A C _ => r_weak (lSub_s (lSub_s (lSub_s (lSub_s lSub_e)))) (N_X10_put_0 C a k p0 p1 p2 S q  hm rfl))
-- ShardGuardModel.ofKill(II)I
theorem dX10_ofKill_0 : decode cX10_ofKill 0 = .ok (.aload_n 0, 1) := by decide +kernel
theorem dX10_ofKill_1 : decode cX10_ofKill 1 = .ok (.getfield 25, 3) := by decide +kernel
theorem dX10_ofKill_4 : decode cX10_ofKill 4 = .ok (.sipush 612, 3) := by decide +kernel
theorem dX10_ofKill_7 : decode cX10_ofKill 7 = .ok (.iconst 3, 1) := by decide +kernel
theorem dX10_ofKill_8 : decode cX10_ofKill 8 = .ok (.iload_n 1, 1) := by decide +kernel
theorem dX10_ofKill_9 : decode cX10_ofKill 9 = .ok (.imul, 1) := by decide +kernel
theorem dX10_ofKill_10 : decode cX10_ofKill 10 = .ok (.iadd, 1) := by decide +kernel
theorem dX10_ofKill_11 : decode cX10_ofKill 11 = .ok (.iload_n 2, 1) := by decide +kernel
theorem dX10_ofKill_12 : decode cX10_ofKill 12 = .ok (.iadd, 1) := by decide +kernel
theorem dX10_ofKill_13 : decode cX10_ofKill 13 = .ok (.iaload, 1) := by decide +kernel
theorem dX10_ofKill_14 : decode cX10_ofKill 14 = .ok (.ireturn, 1) := by decide +kernel
def rm_X10_ofKill : Room := { frames := 0, cells := 0, slots := 0, locals := 0 }
def M_X10_ofKill_0 (k : Nat) (S : Nat → Nat → Int32) (p0 : Int32) (p1 : Int32) : Option (Int32) := lt (gsel S) fun g1 => (if gokN g1 = true then (if inb (((612 : Int32) + ((3 : Int32) * p0)) + p1) 1692 = true then some (S g1 (((612 : Int32) + ((3 : Int32) * p0)) + p1).toNatClampNeg) else none) else none)
set_option maxRecDepth 100000 in
set_option maxHeartbeats 4000000 in
theorem N_X10_ofKill_0 (C : CX E p l s m args meth c cX10_ofKill 3 RX10 (some .int) A) (a : Nat → Nat) (k : Nat) (S : Nat → Nat → Int32) {post : Int32 → va_W → Prop} :
    ∀ (p0 : Int32) (p1 : Int32) (q : Int32), M_X10_ofKill_0 k S p0 p1 = some q → post q (wMd E a S) →
      WW E p l e rm_X10_ofKill s m args below meth c A 0 0 (QI E below post args s rm_X10_ofKill A) (wMd E a S) 3 [some (.ref (a 0)), some (.int p0), some (.int p1)] 0 [] := by
  intro p0 p1 q  h hq
  unfold M_X10_ofKill_0 at h
  refine r_aload_n (pc := 0) C (i := 0) dX10_ofKill_0 rfl rfl ?_
  obtain ⟨g1, hg1, h⟩ := lt_e h
  obtain ⟨kg1, h⟩ := ifn h
  refine r_get (pc := 1) C gwX10 0 rfl rfl 8 (by decide) wm_5_211 rfl dX10_ofKill_1 ?_
  refine r_topg (a := a) hg1 ?_
  refine r_sipush (pc := 4) C (v := 612) dX10_ofKill_4 (by decide) ?_
  refine r_iconst (pc := 7) C (v := 3) dX10_ofKill_7 (by decide) ?_
  refine r_iload_n (pc := 8) C (i := 1) dX10_ofKill_8 rfl rfl ?_
  refine r_imul (pc := 9) C dX10_ofKill_9 ?_
  refine r_iadd (pc := 10) C dX10_ofKill_10 ?_
  refine r_iload_n (pc := 11) C (i := 2) dX10_ofKill_11 rfl rfl ?_
  refine r_iadd (pc := 12) C dX10_ofKill_12 ?_
  obtain ⟨hi2, h⟩ := ifn h
  refine r_iald (pc := 13) C g1 (wMd_at kg1) hi2 dX10_ofKill_13 ?_
  cases h
  exact r_ireti (pc := 14) C hq (Nat.zero_le _) (Nat.zero_le _) dX10_ofKill_14
def M_X10_ofKill (k : Nat) (S : Nat → Nat → Int32) (p0 : Int32) (p1 : Int32) : Option (Int32) := M_X10_ofKill_0 k S p0 p1
set_option maxRecDepth 100000 in
set_option maxHeartbeats 4000000 in
theorem c_X10_ofKill (E : ENV) (l : Launch) (k : Nat) (a : Nat → Nat) (S : Nat → Nat → Int32) (p0 : Int32) (p1 : Int32) {q : Int32} (hm : M_X10_ofKill k S p0 p1 = some q) : CI E l yX10_ofKill cX10_ofKill 3 (some .int) rm_X10_ofKill [.ref (a 0), .int p0, .int p1] (wMd E a S) (fun r w' => r = q ∧ w' = (wMd E a S)) :=
  CI.of 0 (by decide) (Nat.le_of_ble_eq_true rfl) (fun p e s m below meth c A C _ => r_weak (lSub_s (lSub_s (lSub_s lSub_e))) (N_X10_ofKill_0 C a k S p0 p1 q  hm ⟨rfl, rfl⟩))
theorem hd_X10_workers : yX10_workers.cls = RX10 ∧ yX10_workers.cls ≠ "java/lang/invoke/MethodHandle" ∧ yX10_workers.cls ≠ "java/lang/invoke/VarHandle" ∧ (parseMethodDescriptor yX10_workers.desc).map (fun d => d.parameters.length) = some 0 := by decide +kernel
theorem g_X10_106 : GoodIn GW (wsV RX10 106 RX10 yX10_workers (wsG yX10_workers cX10_workers 1 (some .int))) := gw_V wm_6_61 wm_6_63 wm_0_22 wm_1_9 wm_6_64
theorem hd_X10_inRange : yX10_inRange.cls = RX10 ∧ yX10_inRange.cls ≠ "java/lang/invoke/MethodHandle" ∧ yX10_inRange.cls ≠ "java/lang/invoke/VarHandle" ∧ (parseMethodDescriptor yX10_inRange.desc).map (fun d => d.parameters.length) = some 3 := by decide +kernel
theorem g_X10_110 : GoodIn GW (va_wsS RX10 110 yX10_inRange (wsG yX10_inRange cX10_inRange 3 (some .boolean))) := gw_S wm_6_120 wm_6_121 wm_1_9 wm_6_122
-- ShardGuardModel.isWorker(I)Z
theorem dX10_isWorker_0 : decode cX10_isWorker 0 = .ok (.iload_n 1, 1) := by decide +kernel
theorem dX10_isWorker_1 : decode cX10_isWorker 1 = .ok (.iconst 0, 1) := by decide +kernel
theorem dX10_isWorker_2 : decode cX10_isWorker 2 = .ok (.aload_n 0, 1) := by decide +kernel
theorem dX10_isWorker_3 : decode cX10_isWorker 3 = .ok (.invokevirtual 106, 3) := by decide +kernel
theorem dX10_isWorker_6 : decode cX10_isWorker 6 = .ok (.iconst 1, 1) := by decide +kernel
theorem dX10_isWorker_7 : decode cX10_isWorker 7 = .ok (.isub, 1) := by decide +kernel
theorem dX10_isWorker_8 : decode cX10_isWorker 8 = .ok (.invokestatic 110, 3) := by decide +kernel
theorem dX10_isWorker_11 : decode cX10_isWorker 11 = .ok (.ireturn, 1) := by decide +kernel
def rm_X10_isWorker : Room := { frames := 1, cells := 0, slots := 0, locals := 22 }
def M_X10_isWorker_0 (k : Nat) (S : Nat → Nat → Int32) (p0 : Int32) : Option (Int32) := (M_X10_workers k S).bind fun q1 => (M_X10_inRange k p0 (0 : Int32) (q1 - (1 : Int32))).bind fun q2 => if q2 = 0 ∨ q2 = 1 then some q2 else none
set_option maxRecDepth 100000 in
set_option maxHeartbeats 4000000 in
theorem N_X10_isWorker_0 (C : CX E p l s m args meth c cX10_isWorker 2 RX10 (some .boolean) A) (a : Nat → Nat) (k : Nat) (S : Nat → Nat → Int32) {post : Int32 → va_W → Prop} :
    ∀ (p0 : Int32) (q : Int32), M_X10_isWorker_0 k S p0 = some q → post q (wMd E a S) →
      WW E p l e rm_X10_isWorker s m args below meth c A 0 0 (QI E below post args s rm_X10_isWorker A) (wMd E a S) 2 [some (.ref (a 0)), some (.int p0)] 0 [] := by
  intro p0 q  h hq
  unfold M_X10_isWorker_0 at h
  refine r_iload_n (pc := 0) C (i := 1) dX10_isWorker_0 rfl rfl ?_
  refine r_iconst (pc := 1) C (v := 0) dX10_isWorker_1 (by decide) ?_
  refine r_aload_n (pc := 2) C (i := 0) dX10_isWorker_2 rfl rfl ?_
  obtain ⟨q1, hq1, h⟩ := bnd h
  refine r_callVp_CI (Cn := RX10) (pc := 3) C [] (c_X10_workers E l k a S hq1) [0, 1, 2, 3, 4, 5, 6, 7, 8, 9, 10, 11, 12] rfl (by decide) 0 rfl rfl rfl g_X10_106 hd_X10_workers ⟨Nat.le_of_ble_eq_true rfl, Nat.le_of_ble_eq_true rfl⟩ ⟨Nat.zero_le _, Nat.zero_le _⟩ (Nat.le_of_ble_eq_true rfl) rfl dX10_isWorker_3 (fun r hr => ?_)
  have hr := hr.symm
  subst hr
  refine r_iconst (pc := 6) C (v := 1) dX10_isWorker_6 (by decide) ?_
  refine r_isub (pc := 7) C dX10_isWorker_7 ?_
  obtain ⟨q2, hq2, h⟩ := bnd h
  refine r_callSp_CI (pc := 8) C [.int p0, .int (0 : Int32), .int (q1 - (1 : Int32))] (c_X10_inRange E l k p0 (0 : Int32) (q1 - (1 : Int32)) hq2) [] rfl (by decide) g_X10_110 hd_X10_inRange.2 ⟨Nat.le_of_ble_eq_true rfl, Nat.le_of_ble_eq_true rfl⟩ ⟨Nat.zero_le _, Nat.zero_le _⟩ (Nat.le_of_ble_eq_true rfl) rfl dX10_isWorker_8 (fun r hr => ?_)
  have hr := hr.symm
  subst hr
  obtain ⟨hz3, h⟩ := ifn h
  cases h
  exact r_iretz (pc := 11) C hz3 hq (Nat.zero_le _) (Nat.zero_le _) dX10_isWorker_11
def M_X10_isWorker (k : Nat) (S : Nat → Nat → Int32) (p0 : Int32) : Option (Int32) := M_X10_isWorker_0 k S p0
set_option maxRecDepth 100000 in
set_option maxHeartbeats 4000000 in
theorem c_X10_isWorker (E : ENV) (l : Launch) (k : Nat) (a : Nat → Nat) (S : Nat → Nat → Int32) (p0 : Int32) {q : Int32} (hm : M_X10_isWorker k S p0 = some q) : CI E l yX10_isWorker cX10_isWorker 2 (some .boolean) rm_X10_isWorker [.ref (a 0), .int p0] (wMd E a S) (fun r w' => r = q ∧ w' = (wMd E a S)) :=
  CI.of 0 (by decide) (Nat.le_of_ble_eq_true rfl) (fun p e s m below meth c A C _ => r_weak (lSub_s (lSub_s lSub_e)) (N_X10_isWorker_0 C a k S p0 q  hm ⟨rfl, rfl⟩))
theorem hd_X10_tenants : yX10_tenants.cls = RX10 ∧ yX10_tenants.cls ≠ "java/lang/invoke/MethodHandle" ∧ yX10_tenants.cls ≠ "java/lang/invoke/VarHandle" ∧ (parseMethodDescriptor yX10_tenants.desc).map (fun d => d.parameters.length) = some 0 := by decide +kernel
theorem g_X10_114 : GoodIn GW (wsV RX10 114 RX10 yX10_tenants (wsG yX10_tenants cX10_tenants 1 (some .int))) := gw_V wm_6_89 wm_6_91 wm_0_28 wm_1_9 wm_6_92
-- ShardGuardModel.isTenant(I)Z
theorem dX10_isTenant_0 : decode cX10_isTenant 0 = .ok (.iload_n 1, 1) := by decide +kernel
theorem dX10_isTenant_1 : decode cX10_isTenant 1 = .ok (.iconst 0, 1) := by decide +kernel
theorem dX10_isTenant_2 : decode cX10_isTenant 2 = .ok (.aload_n 0, 1) := by decide +kernel
theorem dX10_isTenant_3 : decode cX10_isTenant 3 = .ok (.invokevirtual 114, 3) := by decide +kernel
theorem dX10_isTenant_6 : decode cX10_isTenant 6 = .ok (.iconst 1, 1) := by decide +kernel
theorem dX10_isTenant_7 : decode cX10_isTenant 7 = .ok (.isub, 1) := by decide +kernel
theorem dX10_isTenant_8 : decode cX10_isTenant 8 = .ok (.invokestatic 110, 3) := by decide +kernel
theorem dX10_isTenant_11 : decode cX10_isTenant 11 = .ok (.ireturn, 1) := by decide +kernel
def rm_X10_isTenant : Room := { frames := 1, cells := 0, slots := 0, locals := 22 }
def M_X10_isTenant_0 (k : Nat) (S : Nat → Nat → Int32) (p0 : Int32) : Option (Int32) := (M_X10_tenants k S).bind fun q1 => (M_X10_inRange k p0 (0 : Int32) (q1 - (1 : Int32))).bind fun q2 => if q2 = 0 ∨ q2 = 1 then some q2 else none
set_option maxRecDepth 100000 in
set_option maxHeartbeats 4000000 in
theorem N_X10_isTenant_0 (C : CX E p l s m args meth c cX10_isTenant 2 RX10 (some .boolean) A) (a : Nat → Nat) (k : Nat) (S : Nat → Nat → Int32) {post : Int32 → va_W → Prop} :
    ∀ (p0 : Int32) (q : Int32), M_X10_isTenant_0 k S p0 = some q → post q (wMd E a S) →
      WW E p l e rm_X10_isTenant s m args below meth c A 0 0 (QI E below post args s rm_X10_isTenant A) (wMd E a S) 2 [some (.ref (a 0)), some (.int p0)] 0 [] := by
  intro p0 q  h hq
  unfold M_X10_isTenant_0 at h
  refine r_iload_n (pc := 0) C (i := 1) dX10_isTenant_0 rfl rfl ?_
  refine r_iconst (pc := 1) C (v := 0) dX10_isTenant_1 (by decide) ?_
  refine r_aload_n (pc := 2) C (i := 0) dX10_isTenant_2 rfl rfl ?_
  obtain ⟨q1, hq1, h⟩ := bnd h
  refine r_callVp_CI (Cn := RX10) (pc := 3) C [] (c_X10_tenants E l k a S hq1) [0, 1, 2, 3, 4, 5, 6, 7, 8, 9, 10, 11, 12] rfl (by decide) 0 rfl rfl rfl g_X10_114 hd_X10_tenants ⟨Nat.le_of_ble_eq_true rfl, Nat.le_of_ble_eq_true rfl⟩ ⟨Nat.zero_le _, Nat.zero_le _⟩ (Nat.le_of_ble_eq_true rfl) rfl dX10_isTenant_3 (fun r hr => ?_)
  have hr := hr.symm
  subst hr
  refine r_iconst (pc := 6) C (v := 1) dX10_isTenant_6 (by decide) ?_
  refine r_isub (pc := 7) C dX10_isTenant_7 ?_
  obtain ⟨q2, hq2, h⟩ := bnd h
  refine r_callSp_CI (pc := 8) C [.int p0, .int (0 : Int32), .int (q1 - (1 : Int32))] (c_X10_inRange E l k p0 (0 : Int32) (q1 - (1 : Int32)) hq2) [] rfl (by decide) g_X10_110 hd_X10_inRange.2 ⟨Nat.le_of_ble_eq_true rfl, Nat.le_of_ble_eq_true rfl⟩ ⟨Nat.zero_le _, Nat.zero_le _⟩ (Nat.le_of_ble_eq_true rfl) rfl dX10_isTenant_8 (fun r hr => ?_)
  have hr := hr.symm
  subst hr
  obtain ⟨hz3, h⟩ := ifn h
  cases h
  exact r_iretz (pc := 11) C hz3 hq (Nat.zero_le _) (Nat.zero_le _) dX10_isTenant_11
def M_X10_isTenant (k : Nat) (S : Nat → Nat → Int32) (p0 : Int32) : Option (Int32) := M_X10_isTenant_0 k S p0
set_option maxRecDepth 100000 in
set_option maxHeartbeats 4000000 in
theorem c_X10_isTenant (E : ENV) (l : Launch) (k : Nat) (a : Nat → Nat) (S : Nat → Nat → Int32) (p0 : Int32) {q : Int32} (hm : M_X10_isTenant k S p0 = some q) : CI E l yX10_isTenant cX10_isTenant 2 (some .boolean) rm_X10_isTenant [.ref (a 0), .int p0] (wMd E a S) (fun r w' => r = q ∧ w' = (wMd E a S)) :=
  CI.of 0 (by decide) (Nat.le_of_ble_eq_true rfl) (fun p e s m below meth c A C _ => r_weak (lSub_s (lSub_s lSub_e)) (N_X10_isTenant_0 C a k S p0 q  hm ⟨rfl, rfl⟩))
theorem hd_X10_requests : yX10_requests.cls = RX10 ∧ yX10_requests.cls ≠ "java/lang/invoke/MethodHandle" ∧ yX10_requests.cls ≠ "java/lang/invoke/VarHandle" ∧ (parseMethodDescriptor yX10_requests.desc).map (fun d => d.parameters.length) = some 0 := by decide +kernel
theorem g_X10_117 : GoodIn GW (wsV RX10 117 RX10 yX10_requests (wsG yX10_requests cX10_requests 1 (some .int))) := gw_V wm_6_74 wm_6_76 wm_0_25 wm_1_9 wm_6_77
-- ShardGuardModel.isRequest(I)Z
theorem dX10_isRequest_0 : decode cX10_isRequest 0 = .ok (.iload_n 1, 1) := by decide +kernel
theorem dX10_isRequest_1 : decode cX10_isRequest 1 = .ok (.iconst 0, 1) := by decide +kernel
theorem dX10_isRequest_2 : decode cX10_isRequest 2 = .ok (.aload_n 0, 1) := by decide +kernel
theorem dX10_isRequest_3 : decode cX10_isRequest 3 = .ok (.invokevirtual 117, 3) := by decide +kernel
theorem dX10_isRequest_6 : decode cX10_isRequest 6 = .ok (.iconst 1, 1) := by decide +kernel
theorem dX10_isRequest_7 : decode cX10_isRequest 7 = .ok (.isub, 1) := by decide +kernel
theorem dX10_isRequest_8 : decode cX10_isRequest 8 = .ok (.invokestatic 110, 3) := by decide +kernel
theorem dX10_isRequest_11 : decode cX10_isRequest 11 = .ok (.ireturn, 1) := by decide +kernel
def rm_X10_isRequest : Room := { frames := 1, cells := 0, slots := 0, locals := 22 }
def M_X10_isRequest_0 (k : Nat) (S : Nat → Nat → Int32) (p0 : Int32) : Option (Int32) := (M_X10_requests k S).bind fun q1 => (M_X10_inRange k p0 (0 : Int32) (q1 - (1 : Int32))).bind fun q2 => if q2 = 0 ∨ q2 = 1 then some q2 else none
set_option maxRecDepth 100000 in
set_option maxHeartbeats 4000000 in
theorem N_X10_isRequest_0 (C : CX E p l s m args meth c cX10_isRequest 2 RX10 (some .boolean) A) (a : Nat → Nat) (k : Nat) (S : Nat → Nat → Int32) {post : Int32 → va_W → Prop} :
    ∀ (p0 : Int32) (q : Int32), M_X10_isRequest_0 k S p0 = some q → post q (wMd E a S) →
      WW E p l e rm_X10_isRequest s m args below meth c A 0 0 (QI E below post args s rm_X10_isRequest A) (wMd E a S) 2 [some (.ref (a 0)), some (.int p0)] 0 [] := by
  intro p0 q  h hq
  unfold M_X10_isRequest_0 at h
  refine r_iload_n (pc := 0) C (i := 1) dX10_isRequest_0 rfl rfl ?_
  refine r_iconst (pc := 1) C (v := 0) dX10_isRequest_1 (by decide) ?_
  refine r_aload_n (pc := 2) C (i := 0) dX10_isRequest_2 rfl rfl ?_
  obtain ⟨q1, hq1, h⟩ := bnd h
  refine r_callVp_CI (Cn := RX10) (pc := 3) C [] (c_X10_requests E l k a S hq1) [0, 1, 2, 3, 4, 5, 6, 7, 8, 9, 10, 11, 12] rfl (by decide) 0 rfl rfl rfl g_X10_117 hd_X10_requests ⟨Nat.le_of_ble_eq_true rfl, Nat.le_of_ble_eq_true rfl⟩ ⟨Nat.zero_le _, Nat.zero_le _⟩ (Nat.le_of_ble_eq_true rfl) rfl dX10_isRequest_3 (fun r hr => ?_)
  have hr := hr.symm
  subst hr
  refine r_iconst (pc := 6) C (v := 1) dX10_isRequest_6 (by decide) ?_
  refine r_isub (pc := 7) C dX10_isRequest_7 ?_
  obtain ⟨q2, hq2, h⟩ := bnd h
  refine r_callSp_CI (pc := 8) C [.int p0, .int (0 : Int32), .int (q1 - (1 : Int32))] (c_X10_inRange E l k p0 (0 : Int32) (q1 - (1 : Int32)) hq2) [] rfl (by decide) g_X10_110 hd_X10_inRange.2 ⟨Nat.le_of_ble_eq_true rfl, Nat.le_of_ble_eq_true rfl⟩ ⟨Nat.zero_le _, Nat.zero_le _⟩ (Nat.le_of_ble_eq_true rfl) rfl dX10_isRequest_8 (fun r hr => ?_)
  have hr := hr.symm
  subst hr
  obtain ⟨hz3, h⟩ := ifn h
  cases h
  exact r_iretz (pc := 11) C hz3 hq (Nat.zero_le _) (Nat.zero_le _) dX10_isRequest_11
def M_X10_isRequest (k : Nat) (S : Nat → Nat → Int32) (p0 : Int32) : Option (Int32) := M_X10_isRequest_0 k S p0
set_option maxRecDepth 100000 in
set_option maxHeartbeats 4000000 in
theorem c_X10_isRequest (E : ENV) (l : Launch) (k : Nat) (a : Nat → Nat) (S : Nat → Nat → Int32) (p0 : Int32) {q : Int32} (hm : M_X10_isRequest k S p0 = some q) : CI E l yX10_isRequest cX10_isRequest 2 (some .boolean) rm_X10_isRequest [.ref (a 0), .int p0] (wMd E a S) (fun r w' => r = q ∧ w' = (wMd E a S)) :=
  CI.of 0 (by decide) (Nat.le_of_ble_eq_true rfl) (fun p e s m below meth c A C _ => r_weak (lSub_s (lSub_s lSub_e)) (N_X10_isRequest_0 C a k S p0 q  hm ⟨rfl, rfl⟩))
-- ShardGuardModel.has(II)Z
theorem dX10_has_0 : decode cX10_has 0 = .ok (.iload_n 0, 1) := by decide +kernel
theorem dX10_has_1 : decode cX10_has 1 = .ok (.iload_n 1, 1) := by decide +kernel
theorem dX10_has_2 : decode cX10_has 2 = .ok (.ishr, 1) := by decide +kernel
theorem dX10_has_3 : decode cX10_has 3 = .ok (.iconst 1, 1) := by decide +kernel
theorem dX10_has_4 : decode cX10_has 4 = .ok (.iand, 1) := by decide +kernel
theorem dX10_has_5 : decode cX10_has 5 = .ok (.iconst 1, 1) := by decide +kernel
theorem dX10_has_6 : decode cX10_has 6 = .ok (.if_icmp .ne 7, 3) := by decide +kernel
theorem dX10_has_9 : decode cX10_has 9 = .ok (.iconst 1, 1) := by decide +kernel
theorem dX10_has_10 : decode cX10_has 10 = .ok (.goto 4, 3) := by decide +kernel
theorem dX10_has_13 : decode cX10_has 13 = .ok (.iconst 0, 1) := by decide +kernel
theorem dX10_has_14 : decode cX10_has 14 = .ok (.ireturn, 1) := by decide +kernel
def rm_X10_has : Room := { frames := 0, cells := 0, slots := 0, locals := 0 }
def M_X10_has_0 (k : Nat) (p0 : Int32) (p1 : Int32) : Option (Int32) := if ((p0 >>> (p1 &&& 31)) &&& (1 : Int32)) = (1 : Int32) then (some (1 : Int32)) else (some (0 : Int32))
set_option maxRecDepth 100000 in
set_option maxHeartbeats 4000000 in
theorem N_X10_has_0 (C : CX E p l s m args meth c cX10_has 2 RX10 (some .boolean) A) (k : Nat) {post : Int32 → va_W → Prop} :
    ∀ (p0 : Int32) (p1 : Int32) (q : Int32), M_X10_has_0 k p0 p1 = some q → post q ([] : va_W) →
      WW E p l e rm_X10_has s m args below meth c A 0 0 (QI E below post args s rm_X10_has A) ([] : va_W) 2 [some (.int p0), some (.int p1)] 0 [] := by
  intro p0 p1 q  h hq
  unfold M_X10_has_0 at h
  refine r_iload_n (pc := 0) C (i := 0) dX10_has_0 rfl rfl ?_
  refine r_iload_n (pc := 1) C (i := 1) dX10_has_1 rfl rfl ?_
  refine r_ishr (pc := 2) C dX10_has_2 ?_
  refine r_iconst (pc := 3) C (v := 1) dX10_has_3 (by decide) ?_
  refine r_iand (pc := 4) C dX10_has_4 ?_
  refine r_iconst (pc := 5) C (v := 1) dX10_has_5 (by decide) ?_
  refine r_icmp_ne (pc := 6) C (tgt := 13) dX10_has_6 rfl (fun c1 => ?_) (fun c1 => ?_)
  · rw [if_neg c1] at h
    refine r_iconst (pc := 13) C (v := 0) dX10_has_13 (by decide) ?_
    cases h
    exact r_iretz (pc := 14) C (Or.inl rfl) hq (Nat.zero_le _) (Nat.zero_le _) dX10_has_14
  · rw [if_pos c1] at h
    refine r_iconst (pc := 9) C (v := 1) dX10_has_9 (by decide) ?_
    refine r_goto (pc := 10) C (tgt := 14) dX10_has_10 rfl ?_
    cases h
    exact r_iretz (pc := 14) C (Or.inr rfl) hq (Nat.zero_le _) (Nat.zero_le _) dX10_has_14
def M_X10_has (k : Nat) (p0 : Int32) (p1 : Int32) : Option (Int32) := M_X10_has_0 k p0 p1
set_option maxRecDepth 100000 in
set_option maxHeartbeats 4000000 in
theorem c_X10_has (E : ENV) (l : Launch) (k : Nat) (p0 : Int32) (p1 : Int32) {q : Int32} (hm : M_X10_has k p0 p1 = some q) : CI E l yX10_has cX10_has 2 (some .boolean) rm_X10_has [.int p0, .int p1] ([] : va_W) (fun r w' => r = q ∧ w' = ([] : va_W)) :=
  CI.of 0 (by decide) (Nat.le_of_ble_eq_true rfl) (fun p e s m below meth c A C _ => r_weak (lSub_s (lSub_s lSub_e)) (N_X10_has_0 C k p0 p1 q  hm ⟨rfl, rfl⟩))
theorem hd_X10_ofTenant : yX10_ofTenant.cls = RX10 ∧ yX10_ofTenant.cls ≠ "java/lang/invoke/MethodHandle" ∧ yX10_ofTenant.cls ≠ "java/lang/invoke/VarHandle" ∧ (parseMethodDescriptor yX10_ofTenant.desc).map (fun d => d.parameters.length) = some 2 := by decide +kernel
theorem g_X10_120 : GoodIn GW (wsV RX10 120 RX10 yX10_ofTenant (wsG yX10_ofTenant cX10_ofTenant 3 (some .int))) := gw_V wm_6_97 wm_6_99 wm_0_30 wm_1_9 wm_6_100
-- ShardGuardModel.isOpen(I)Z
theorem dX10_isOpen_0 : decode cX10_isOpen 0 = .ok (.aload_n 0, 1) := by decide +kernel
theorem dX10_isOpen_1 : decode cX10_isOpen 1 = .ok (.iload_n 1, 1) := by decide +kernel
theorem dX10_isOpen_2 : decode cX10_isOpen 2 = .ok (.iconst 1, 1) := by decide +kernel
theorem dX10_isOpen_3 : decode cX10_isOpen 3 = .ok (.invokevirtual 120, 3) := by decide +kernel
theorem dX10_isOpen_6 : decode cX10_isOpen 6 = .ok (.iconst (-1), 1) := by decide +kernel
theorem dX10_isOpen_7 : decode cX10_isOpen 7 = .ok (.if_icmp .ne 7, 3) := by decide +kernel
theorem dX10_isOpen_10 : decode cX10_isOpen 10 = .ok (.iconst 1, 1) := by decide +kernel
theorem dX10_isOpen_11 : decode cX10_isOpen 11 = .ok (.goto 4, 3) := by decide +kernel
theorem dX10_isOpen_14 : decode cX10_isOpen 14 = .ok (.iconst 0, 1) := by decide +kernel
theorem dX10_isOpen_15 : decode cX10_isOpen 15 = .ok (.ireturn, 1) := by decide +kernel
def rm_X10_isOpen : Room := { frames := 2, cells := 0, slots := 0, locals := 43 }
def M_X10_isOpen_0 (k : Nat) (S : Nat → Nat → Int32) (p0 : Int32) : Option (Int32) := (M_X10_ofTenant k S p0 (1 : Int32)).bind fun q1 => if q1 = (-1 : Int32) then (some (1 : Int32)) else (some (0 : Int32))
set_option maxRecDepth 100000 in
set_option maxHeartbeats 4000000 in
theorem N_X10_isOpen_0 (C : CX E p l s m args meth c cX10_isOpen 2 RX10 (some .boolean) A) (a : Nat → Nat) (k : Nat) (S : Nat → Nat → Int32) {post : Int32 → va_W → Prop} :
    ∀ (p0 : Int32) (q : Int32), M_X10_isOpen_0 k S p0 = some q → post q (wMd E a S) →
      WW E p l e rm_X10_isOpen s m args below meth c A 0 0 (QI E below post args s rm_X10_isOpen A) (wMd E a S) 2 [some (.ref (a 0)), some (.int p0)] 0 [] := by
  intro p0 q  h hq
  unfold M_X10_isOpen_0 at h
  refine r_aload_n (pc := 0) C (i := 0) dX10_isOpen_0 rfl rfl ?_
  refine r_iload_n (pc := 1) C (i := 1) dX10_isOpen_1 rfl rfl ?_
  refine r_iconst (pc := 2) C (v := 1) dX10_isOpen_2 (by decide) ?_
  obtain ⟨q1, hq1, h⟩ := bnd h
  refine r_callVp_CI (Cn := RX10) (pc := 3) C [.int p0, .int (1 : Int32)] (c_X10_ofTenant E l k a S p0 (1 : Int32) hq1) [0, 1, 2, 3, 4, 5, 6, 7, 8, 9, 10, 11, 12] rfl (by decide) 0 rfl rfl rfl g_X10_120 hd_X10_ofTenant ⟨Nat.le_of_ble_eq_true rfl, Nat.le_of_ble_eq_true rfl⟩ ⟨Nat.zero_le _, Nat.zero_le _⟩ (Nat.le_of_ble_eq_true rfl) rfl dX10_isOpen_3 (fun r hr => ?_)
  have hr := hr.symm
  subst hr
  refine r_iconst (pc := 6) C (v := (-1)) dX10_isOpen_6 (by decide) ?_
  refine r_icmp_ne (pc := 7) C (tgt := 14) dX10_isOpen_7 rfl (fun c2 => ?_) (fun c2 => ?_)
  · rw [if_neg c2] at h
    refine r_iconst (pc := 14) C (v := 0) dX10_isOpen_14 (by decide) ?_
    cases h
    exact r_iretz (pc := 15) C (Or.inl rfl) hq (Nat.zero_le _) (Nat.zero_le _) dX10_isOpen_15
  · rw [if_pos c2] at h
    refine r_iconst (pc := 10) C (v := 1) dX10_isOpen_10 (by decide) ?_
    refine r_goto (pc := 11) C (tgt := 15) dX10_isOpen_11 rfl ?_
    cases h
    exact r_iretz (pc := 15) C (Or.inr rfl) hq (Nat.zero_le _) (Nat.zero_le _) dX10_isOpen_15
def M_X10_isOpen (k : Nat) (S : Nat → Nat → Int32) (p0 : Int32) : Option (Int32) := M_X10_isOpen_0 k S p0
set_option maxRecDepth 100000 in
set_option maxHeartbeats 4000000 in
theorem c_X10_isOpen (E : ENV) (l : Launch) (k : Nat) (a : Nat → Nat) (S : Nat → Nat → Int32) (p0 : Int32) {q : Int32} (hm : M_X10_isOpen k S p0 = some q) : CI E l yX10_isOpen cX10_isOpen 2 (some .boolean) rm_X10_isOpen [.ref (a 0), .int p0] (wMd E a S) (fun r w' => r = q ∧ w' = (wMd E a S)) :=
  CI.of 0 (by decide) (Nat.le_of_ble_eq_true rfl) (fun p e s m below meth c A C _ => r_weak (lSub_s (lSub_s lSub_e)) (N_X10_isOpen_0 C a k S p0 q  hm ⟨rfl, rfl⟩))
theorem hd_X10_of : yX10_of.cls = RX10 ∧ yX10_of.cls ≠ "java/lang/invoke/MethodHandle" ∧ yX10_of.cls ≠ "java/lang/invoke/VarHandle" ∧ (parseMethodDescriptor yX10_of.desc).map (fun d => d.parameters.length) = some 2 := by decide +kernel
theorem g_X10_123 : GoodIn GW (wsV RX10 123 RX10 yX10_of (wsG yX10_of cX10_of 3 (some .int))) := gw_V wm_6_78 wm_6_80 wm_0_26 wm_1_9 wm_6_81
-- ShardGuardModel.isIn(III)Z
theorem dX10_isIn_0 : decode cX10_isIn 0 = .ok (.aload_n 0, 1) := by decide +kernel
theorem dX10_isIn_1 : decode cX10_isIn 1 = .ok (.iload_n 1, 1) := by decide +kernel
theorem dX10_isIn_2 : decode cX10_isIn 2 = .ok (.iconst 4, 1) := by decide +kernel
theorem dX10_isIn_3 : decode cX10_isIn 3 = .ok (.invokevirtual 123, 3) := by decide +kernel
theorem dX10_isIn_6 : decode cX10_isIn 6 = .ok (.iload_n 2, 1) := by decide +kernel
theorem dX10_isIn_7 : decode cX10_isIn 7 = .ok (.if_icmp .ne 18, 3) := by decide +kernel
theorem dX10_isIn_10 : decode cX10_isIn 10 = .ok (.aload_n 0, 1) := by decide +kernel
theorem dX10_isIn_11 : decode cX10_isIn 11 = .ok (.iload_n 1, 1) := by decide +kernel
theorem dX10_isIn_12 : decode cX10_isIn 12 = .ok (.bipush 6, 2) := by decide +kernel
theorem dX10_isIn_14 : decode cX10_isIn 14 = .ok (.invokevirtual 123, 3) := by decide +kernel
theorem dX10_isIn_17 : decode cX10_isIn 17 = .ok (.iload_n 3, 1) := by decide +kernel
theorem dX10_isIn_18 : decode cX10_isIn 18 = .ok (.if_icmp .ne 7, 3) := by decide +kernel
theorem dX10_isIn_21 : decode cX10_isIn 21 = .ok (.iconst 1, 1) := by decide +kernel
theorem dX10_isIn_22 : decode cX10_isIn 22 = .ok (.goto 4, 3) := by decide +kernel
theorem dX10_isIn_25 : decode cX10_isIn 25 = .ok (.iconst 0, 1) := by decide +kernel
theorem dX10_isIn_26 : decode cX10_isIn 26 = .ok (.ireturn, 1) := by decide +kernel
def rm_X10_isIn : Room := { frames := 2, cells := 0, slots := 0, locals := 43 }
def M_X10_isIn_0 (k : Nat) (S : Nat → Nat → Int32) (p0 : Int32) (p1 : Int32) (p2 : Int32) : Option (Int32) := (M_X10_of k S p0 (4 : Int32)).bind fun q1 => if q1 = p1 then ((M_X10_of k S p0 (6 : Int32)).bind fun q3 => if q3 = p2 then (some (1 : Int32)) else (some (0 : Int32))) else (some (0 : Int32))
set_option maxRecDepth 100000 in
set_option maxHeartbeats 4000000 in
theorem N_X10_isIn_0 (C : CX E p l s m args meth c cX10_isIn 4 RX10 (some .boolean) A) (a : Nat → Nat) (k : Nat) (S : Nat → Nat → Int32) {post : Int32 → va_W → Prop} :
    ∀ (p0 : Int32) (p1 : Int32) (p2 : Int32) (q : Int32), M_X10_isIn_0 k S p0 p1 p2 = some q → post q (wMd E a S) →
      WW E p l e rm_X10_isIn s m args below meth c A 0 0 (QI E below post args s rm_X10_isIn A) (wMd E a S) 4 [some (.ref (a 0)), some (.int p0), some (.int p1), some (.int p2)] 0 [] := by
  intro p0 p1 p2 q  h hq
  unfold M_X10_isIn_0 at h
  refine r_aload_n (pc := 0) C (i := 0) dX10_isIn_0 rfl rfl ?_
  refine r_iload_n (pc := 1) C (i := 1) dX10_isIn_1 rfl rfl ?_
  refine r_iconst (pc := 2) C (v := 4) dX10_isIn_2 (by decide) ?_
  obtain ⟨q1, hq1, h⟩ := bnd h
  refine r_callVp_CI (Cn := RX10) (pc := 3) C [.int p0, .int (4 : Int32)] (c_X10_of E l k a S p0 (4 : Int32) hq1) [0, 1, 2, 3, 4, 5, 6, 7, 8, 9, 10, 11, 12] rfl (by decide) 0 rfl rfl rfl g_X10_123 hd_X10_of ⟨Nat.le_of_ble_eq_true rfl, Nat.le_of_ble_eq_true rfl⟩ ⟨Nat.zero_le _, Nat.zero_le _⟩ (Nat.le_of_ble_eq_true rfl) rfl dX10_isIn_3 (fun r hr => ?_)
  have hr := hr.symm
  subst hr
  refine r_iload_n (pc := 6) C (i := 2) dX10_isIn_6 rfl rfl ?_
  refine r_icmp_ne (pc := 7) C (tgt := 25) dX10_isIn_7 rfl (fun c2 => ?_) (fun c2 => ?_)
  · rw [if_neg c2] at h
    refine r_iconst (pc := 25) C (v := 0) dX10_isIn_25 (by decide) ?_
    cases h
    exact r_iretz (pc := 26) C (Or.inl rfl) hq (Nat.zero_le _) (Nat.zero_le _) dX10_isIn_26
  · rw [if_pos c2] at h
    refine r_aload_n (pc := 10) C (i := 0) dX10_isIn_10 rfl rfl ?_
    refine r_iload_n (pc := 11) C (i := 1) dX10_isIn_11 rfl rfl ?_
    refine r_bipush (pc := 12) C (v := 6) dX10_isIn_12 (by decide) ?_
    obtain ⟨q3, hq3, h⟩ := bnd h
    refine r_callVp_CI (Cn := RX10) (pc := 14) C [.int p0, .int (6 : Int32)] (c_X10_of E l k a S p0 (6 : Int32) hq3) [0, 1, 2, 3, 4, 5, 6, 7, 8, 9, 10, 11, 12] rfl (by decide) 0 rfl rfl rfl g_X10_123 hd_X10_of ⟨Nat.le_of_ble_eq_true rfl, Nat.le_of_ble_eq_true rfl⟩ ⟨Nat.zero_le _, Nat.zero_le _⟩ (Nat.le_of_ble_eq_true rfl) rfl dX10_isIn_14 (fun r hr => ?_)
    have hr := hr.symm
    subst hr
    refine r_iload_n (pc := 17) C (i := 3) dX10_isIn_17 rfl rfl ?_
    refine r_icmp_ne (pc := 18) C (tgt := 25) dX10_isIn_18 rfl (fun c4 => ?_) (fun c4 => ?_)
    · rw [if_neg c4] at h
      refine r_iconst (pc := 25) C (v := 0) dX10_isIn_25 (by decide) ?_
      cases h
      exact r_iretz (pc := 26) C (Or.inl rfl) hq (Nat.zero_le _) (Nat.zero_le _) dX10_isIn_26
    · rw [if_pos c4] at h
      refine r_iconst (pc := 21) C (v := 1) dX10_isIn_21 (by decide) ?_
      refine r_goto (pc := 22) C (tgt := 26) dX10_isIn_22 rfl ?_
      cases h
      exact r_iretz (pc := 26) C (Or.inr rfl) hq (Nat.zero_le _) (Nat.zero_le _) dX10_isIn_26
def M_X10_isIn (k : Nat) (S : Nat → Nat → Int32) (p0 : Int32) (p1 : Int32) (p2 : Int32) : Option (Int32) := M_X10_isIn_0 k S p0 p1 p2
set_option maxRecDepth 100000 in
set_option maxHeartbeats 4000000 in
theorem c_X10_isIn (E : ENV) (l : Launch) (k : Nat) (a : Nat → Nat) (S : Nat → Nat → Int32) (p0 : Int32) (p1 : Int32) (p2 : Int32) {q : Int32} (hm : M_X10_isIn k S p0 p1 p2 = some q) : CI E l yX10_isIn cX10_isIn 4 (some .boolean) rm_X10_isIn [.ref (a 0), .int p0, .int p1, .int p2] (wMd E a S) (fun r w' => r = q ∧ w' = (wMd E a S)) :=
  CI.of 0 (by decide) (Nat.le_of_ble_eq_true rfl) (fun p e s m below meth c A C _ => r_weak (lSub_s (lSub_s (lSub_s (lSub_s lSub_e)))) (N_X10_isIn_0 C a k S p0 p1 p2 q  hm ⟨rfl, rfl⟩))
theorem hd_X10_isIn : yX10_isIn.cls = RX10 ∧ yX10_isIn.cls ≠ "java/lang/invoke/MethodHandle" ∧ yX10_isIn.cls ≠ "java/lang/invoke/VarHandle" ∧ (parseMethodDescriptor yX10_isIn.desc).map (fun d => d.parameters.length) = some 3 := by decide +kernel
theorem g_X10_126 : GoodIn GW (wsV RX10 126 RX10 yX10_isIn (wsG yX10_isIn cX10_isIn 4 (some .boolean))) := gw_V wm_6_139 wm_6_141 wm_0_37 wm_1_9 wm_6_142
-- ShardGuardModel.placeOf(I)I
theorem dX10_placeOf_0 : decode cX10_placeOf 0 = .ok (.iconst 0, 1) := by decide +kernel
theorem dX10_placeOf_1 : decode cX10_placeOf 1 = .ok (.istore_n 2, 1) := by decide +kernel
theorem dX10_placeOf_2 : decode cX10_placeOf 2 = .ok (.iconst 0, 1) := by decide +kernel
theorem dX10_placeOf_3 : decode cX10_placeOf 3 = .ok (.istore_n 3, 1) := by decide +kernel
theorem dX10_placeOf_4 : decode cX10_placeOf 4 = .ok (.iload_n 3, 1) := by decide +kernel
theorem dX10_placeOf_5 : decode cX10_placeOf 5 = .ok (.aload_n 0, 1) := by decide +kernel
theorem dX10_placeOf_6 : decode cX10_placeOf 6 = .ok (.invokevirtual 117, 3) := by decide +kernel
theorem dX10_placeOf_9 : decode cX10_placeOf 9 = .ok (.if_icmp .ge 59, 3) := by decide +kernel
theorem dX10_placeOf_12 : decode cX10_placeOf 12 = .ok (.aload_n 0, 1) := by decide +kernel
theorem dX10_placeOf_13 : decode cX10_placeOf 13 = .ok (.iload_n 3, 1) := by decide +kernel
theorem dX10_placeOf_14 : decode cX10_placeOf 14 = .ok (.aload_n 0, 1) := by decide +kernel
theorem dX10_placeOf_15 : decode cX10_placeOf 15 = .ok (.iload_n 1, 1) := by decide +kernel
theorem dX10_placeOf_16 : decode cX10_placeOf 16 = .ok (.iconst 4, 1) := by decide +kernel
theorem dX10_placeOf_17 : decode cX10_placeOf 17 = .ok (.invokevirtual 123, 3) := by decide +kernel
theorem dX10_placeOf_20 : decode cX10_placeOf 20 = .ok (.aload_n 0, 1) := by decide +kernel
theorem dX10_placeOf_21 : decode cX10_placeOf 21 = .ok (.iload_n 1, 1) := by decide +kernel
theorem dX10_placeOf_22 : decode cX10_placeOf 22 = .ok (.bipush 6, 2) := by decide +kernel
theorem dX10_placeOf_24 : decode cX10_placeOf 24 = .ok (.invokevirtual 123, 3) := by decide +kernel
theorem dX10_placeOf_27 : decode cX10_placeOf 27 = .ok (.invokevirtual 126, 3) := by decide +kernel
theorem dX10_placeOf_30 : decode cX10_placeOf 30 = .ok (.istore 4, 2) := by decide +kernel
theorem dX10_placeOf_32 : decode cX10_placeOf 32 = .ok (.iload_n 2, 1) := by decide +kernel
theorem dX10_placeOf_33 : decode cX10_placeOf 33 = .ok (.iload 4, 2) := by decide +kernel
theorem dX10_placeOf_35 : decode cX10_placeOf 35 = .ok (.ifCond .eq 24, 3) := by decide +kernel
theorem dX10_placeOf_38 : decode cX10_placeOf 38 = .ok (.aload_n 0, 1) := by decide +kernel
theorem dX10_placeOf_39 : decode cX10_placeOf 39 = .ok (.iload_n 3, 1) := by decide +kernel
theorem dX10_placeOf_40 : decode cX10_placeOf 40 = .ok (.bipush 8, 2) := by decide +kernel
theorem dX10_placeOf_42 : decode cX10_placeOf 42 = .ok (.invokevirtual 123, 3) := by decide +kernel
theorem dX10_placeOf_45 : decode cX10_placeOf 45 = .ok (.aload_n 0, 1) := by decide +kernel
theorem dX10_placeOf_46 : decode cX10_placeOf 46 = .ok (.iload_n 1, 1) := by decide +kernel
theorem dX10_placeOf_47 : decode cX10_placeOf 47 = .ok (.bipush 8, 2) := by decide +kernel
theorem dX10_placeOf_49 : decode cX10_placeOf 49 = .ok (.invokevirtual 123, 3) := by decide +kernel
theorem dX10_placeOf_52 : decode cX10_placeOf 52 = .ok (.if_icmp .ge 7, 3) := by decide +kernel
theorem dX10_placeOf_55 : decode cX10_placeOf 55 = .ok (.iconst 1, 1) := by decide +kernel
theorem dX10_placeOf_56 : decode cX10_placeOf 56 = .ok (.goto 4, 3) := by decide +kernel
theorem dX10_placeOf_59 : decode cX10_placeOf 59 = .ok (.iconst 0, 1) := by decide +kernel
theorem dX10_placeOf_60 : decode cX10_placeOf 60 = .ok (.iadd, 1) := by decide +kernel
theorem dX10_placeOf_61 : decode cX10_placeOf 61 = .ok (.istore_n 2, 1) := by decide +kernel
theorem dX10_placeOf_62 : decode cX10_placeOf 62 = .ok (.iinc 3 1, 3) := by decide +kernel
theorem dX10_placeOf_65 : decode cX10_placeOf 65 = .ok (.goto (-61), 3) := by decide +kernel
theorem dX10_placeOf_68 : decode cX10_placeOf 68 = .ok (.iload_n 2, 1) := by decide +kernel
theorem dX10_placeOf_69 : decode cX10_placeOf 69 = .ok (.ireturn, 1) := by decide +kernel
def rm_X10_placeOf : Room := { frames := 3, cells := 0, slots := 0, locals := 66 }
def M_X10_placeOf_4 (k : Nat) (S : Nat → Nat → Int32) : Nat → (Int32) → (Int32) → (Int32) → Option (Int32)
  | 0, _, _, _ => none
  | n + 1, x1, x2, x3 => (M_X10_requests k S).bind fun q1 => if q1 ≤ x3 then (some x2) else ((M_X10_of k S x1 (4 : Int32)).bind fun q3 => (M_X10_of k S x1 (6 : Int32)).bind fun q4 => (M_X10_isIn k S x3 q3 q4).bind fun q5 => if q5 = 0 then (lt (x2 + (0 : Int32)) fun v7 => M_X10_placeOf_4 k S n x1 v7 (x3 + 1)) else ((M_X10_of k S x3 (8 : Int32)).bind fun q8 => (M_X10_of k S x1 (8 : Int32)).bind fun q9 => if q9 ≤ q8 then (lt (x2 + (0 : Int32)) fun v11 => M_X10_placeOf_4 k S n x1 v11 (x3 + 1)) else (lt (x2 + (1 : Int32)) fun v12 => M_X10_placeOf_4 k S n x1 v12 (x3 + 1))))
theorem M_X10_placeOf_4_s (k : Nat) (S : Nat → Nat → Int32) (n : Nat) (x1 : Int32) (x2 : Int32) (x3 : Int32) : M_X10_placeOf_4 k S (n + 1) x1 x2 x3 = ((M_X10_requests k S).bind fun q1 => if q1 ≤ x3 then (some x2) else ((M_X10_of k S x1 (4 : Int32)).bind fun q3 => (M_X10_of k S x1 (6 : Int32)).bind fun q4 => (M_X10_isIn k S x3 q3 q4).bind fun q5 => if q5 = 0 then (lt (x2 + (0 : Int32)) fun v7 => M_X10_placeOf_4 k S n x1 v7 (x3 + 1)) else ((M_X10_of k S x3 (8 : Int32)).bind fun q8 => (M_X10_of k S x1 (8 : Int32)).bind fun q9 => if q9 ≤ q8 then (lt (x2 + (0 : Int32)) fun v11 => M_X10_placeOf_4 k S n x1 v11 (x3 + 1)) else (lt (x2 + (1 : Int32)) fun v12 => M_X10_placeOf_4 k S n x1 v12 (x3 + 1))))) := rfl
set_option maxRecDepth 100000 in
set_option maxHeartbeats 4000000 in
theorem N_X10_placeOf_4 (C : CX E p l s m args meth c cX10_placeOf 5 RX10 (some .int) A) (a : Nat → Nat) (k : Nat) (S : Nat → Nat → Int32) {post : Int32 → va_W → Prop} :
    ∀ (n : Nat) (x1 : Int32) (x2 : Int32) (x3 : Int32) (q : Int32), M_X10_placeOf_4 k S n x1 x2 x3 = some q → post q (wMd E a S) →
      WW E p l e rm_X10_placeOf s m args below meth c A 0 0 (QI E below post args s rm_X10_placeOf A) (wMd E a S) 5 [some (.ref (a 0)), some (.int x1), some (.int x2), some (.int x3), none] 4 [] := by
  intro n
  induction n with
  | zero => intro x1 x2 x3 q  h _; cases h
  | succ n ih =>
    intro x1 x2 x3 q  h hq
    rw [M_X10_placeOf_4_s] at h
    refine r_iload_n (pc := 4) C (i := 3) dX10_placeOf_4 rfl rfl ?_
    refine r_aload_n (pc := 5) C (i := 0) dX10_placeOf_5 rfl rfl ?_
    obtain ⟨q1, hq1, h⟩ := bnd h
    refine r_callVp_CI (Cn := RX10) (pc := 6) C [] (c_X10_requests E l k a S hq1) [0, 1, 2, 3, 4, 5, 6, 7, 8, 9, 10, 11, 12] rfl (by decide) 0 rfl rfl rfl g_X10_117 hd_X10_requests ⟨Nat.le_of_ble_eq_true rfl, Nat.le_of_ble_eq_true rfl⟩ ⟨Nat.zero_le _, Nat.zero_le _⟩ (Nat.le_of_ble_eq_true rfl) rfl dX10_placeOf_6 (fun r hr => ?_)
    have hr := hr.symm
    subst hr
    refine r_icmp_ge (pc := 9) C (tgt := 68) dX10_placeOf_9 rfl (fun c2 => ?_) (fun c2 => ?_)
    · rw [if_pos c2] at h
      refine r_iload_n (pc := 68) C (i := 2) dX10_placeOf_68 rfl rfl ?_
      cases h
      exact r_ireti (pc := 69) C hq (Nat.zero_le _) (Nat.zero_le _) dX10_placeOf_69
    · rw [if_neg c2] at h
      refine r_aload_n (pc := 12) C (i := 0) dX10_placeOf_12 rfl rfl ?_
      refine r_iload_n (pc := 13) C (i := 3) dX10_placeOf_13 rfl rfl ?_
      refine r_aload_n (pc := 14) C (i := 0) dX10_placeOf_14 rfl rfl ?_
      refine r_iload_n (pc := 15) C (i := 1) dX10_placeOf_15 rfl rfl ?_
      refine r_iconst (pc := 16) C (v := 4) dX10_placeOf_16 (by decide) ?_
      obtain ⟨q3, hq3, h⟩ := bnd h
      refine r_callVp_CI (Cn := RX10) (pc := 17) C [.int x1, .int (4 : Int32)] (c_X10_of E l k a S x1 (4 : Int32) hq3) [0, 1, 2, 3, 4, 5, 6, 7, 8, 9, 10, 11, 12] rfl (by decide) 0 rfl rfl rfl g_X10_123 hd_X10_of ⟨Nat.le_of_ble_eq_true rfl, Nat.le_of_ble_eq_true rfl⟩ ⟨Nat.zero_le _, Nat.zero_le _⟩ (Nat.le_of_ble_eq_true rfl) rfl dX10_placeOf_17 (fun r hr => ?_)
      have hr := hr.symm
      subst hr
      refine r_aload_n (pc := 20) C (i := 0) dX10_placeOf_20 rfl rfl ?_
      refine r_iload_n (pc := 21) C (i := 1) dX10_placeOf_21 rfl rfl ?_
      refine r_bipush (pc := 22) C (v := 6) dX10_placeOf_22 (by decide) ?_
      obtain ⟨q4, hq4, h⟩ := bnd h
      refine r_callVp_CI (Cn := RX10) (pc := 24) C [.int x1, .int (6 : Int32)] (c_X10_of E l k a S x1 (6 : Int32) hq4) [0, 1, 2, 3, 4, 5, 6, 7, 8, 9, 10, 11, 12] rfl (by decide) 0 rfl rfl rfl g_X10_123 hd_X10_of ⟨Nat.le_of_ble_eq_true rfl, Nat.le_of_ble_eq_true rfl⟩ ⟨Nat.zero_le _, Nat.zero_le _⟩ (Nat.le_of_ble_eq_true rfl) rfl dX10_placeOf_24 (fun r hr => ?_)
      have hr := hr.symm
      subst hr
      obtain ⟨q5, hq5, h⟩ := bnd h
      refine r_callVp_CI (Cn := RX10) (pc := 27) C [.int x3, .int q3, .int q4] (c_X10_isIn E l k a S x3 q3 q4 hq5) [0, 1, 2, 3, 4, 5, 6, 7, 8, 9, 10, 11, 12] rfl (by decide) 0 rfl rfl rfl g_X10_126 hd_X10_isIn ⟨Nat.le_of_ble_eq_true rfl, Nat.le_of_ble_eq_true rfl⟩ ⟨Nat.zero_le _, Nat.zero_le _⟩ (Nat.le_of_ble_eq_true rfl) rfl dX10_placeOf_27 (fun r hr => ?_)
      have hr := hr.symm
      subst hr
      refine r_istore (pc := 30) C (i := 4) dX10_placeOf_30 (by decide) rfl ?_
      refine r_iload_n (pc := 32) C (i := 2) dX10_placeOf_32 rfl rfl ?_
      refine r_iload (pc := 33) C (i := 4) dX10_placeOf_33 rfl ?_
      refine r_if_eq (pc := 35) C (tgt := 59) dX10_placeOf_35 rfl (fun c6 => ?_) (fun c6 => ?_)
      · rw [if_pos c6] at h
        refine r_iconst (pc := 59) C (v := 0) dX10_placeOf_59 (by decide) ?_
        refine r_iadd (pc := 60) C dX10_placeOf_60 ?_
        obtain ⟨v7, hv7, h⟩ := lt_e h
        refine r_topi hv7 ?_
        refine r_istore_n (pc := 61) C (i := 2) dX10_placeOf_61 rfl (by decide) rfl ?_
        refine r_iinc (pc := 62) C (v := (x3 + 1)) dX10_placeOf_62 rfl rfl (by decide) rfl ?_
        refine r_goto (pc := 65) C (tgt := 4) dX10_placeOf_65 rfl ?_
        refine r_weak (lSub_s (lSub_s (lSub_s (lSub_s (lSub_n lSub_e))))) ?_
        exact ih x1 v7 (x3 + 1) q  h hq
      · rw [if_neg c6] at h
        refine r_aload_n (pc := 38) C (i := 0) dX10_placeOf_38 rfl rfl ?_
        refine r_iload_n (pc := 39) C (i := 3) dX10_placeOf_39 rfl rfl ?_
        refine r_bipush (pc := 40) C (v := 8) dX10_placeOf_40 (by decide) ?_
        obtain ⟨q8, hq8, h⟩ := bnd h
        refine r_callVp_CI (Cn := RX10) (pc := 42) C [.int x3, .int (8 : Int32)] (c_X10_of E l k a S x3 (8 : Int32) hq8) [0, 1, 2, 3, 4, 5, 6, 7, 8, 9, 10, 11, 12] rfl (by decide) 0 rfl rfl rfl g_X10_123 hd_X10_of ⟨Nat.le_of_ble_eq_true rfl, Nat.le_of_ble_eq_true rfl⟩ ⟨Nat.zero_le _, Nat.zero_le _⟩ (Nat.le_of_ble_eq_true rfl) rfl dX10_placeOf_42 (fun r hr => ?_)
        have hr := hr.symm
        subst hr
        refine r_aload_n (pc := 45) C (i := 0) dX10_placeOf_45 rfl rfl ?_
        refine r_iload_n (pc := 46) C (i := 1) dX10_placeOf_46 rfl rfl ?_
        refine r_bipush (pc := 47) C (v := 8) dX10_placeOf_47 (by decide) ?_
        obtain ⟨q9, hq9, h⟩ := bnd h
        refine r_callVp_CI (Cn := RX10) (pc := 49) C [.int x1, .int (8 : Int32)] (c_X10_of E l k a S x1 (8 : Int32) hq9) [0, 1, 2, 3, 4, 5, 6, 7, 8, 9, 10, 11, 12] rfl (by decide) 0 rfl rfl rfl g_X10_123 hd_X10_of ⟨Nat.le_of_ble_eq_true rfl, Nat.le_of_ble_eq_true rfl⟩ ⟨Nat.zero_le _, Nat.zero_le _⟩ (Nat.le_of_ble_eq_true rfl) rfl dX10_placeOf_49 (fun r hr => ?_)
        have hr := hr.symm
        subst hr
        refine r_icmp_ge (pc := 52) C (tgt := 59) dX10_placeOf_52 rfl (fun c10 => ?_) (fun c10 => ?_)
        · rw [if_pos c10] at h
          refine r_iconst (pc := 59) C (v := 0) dX10_placeOf_59 (by decide) ?_
          refine r_iadd (pc := 60) C dX10_placeOf_60 ?_
          obtain ⟨v11, hv11, h⟩ := lt_e h
          refine r_topi hv11 ?_
          refine r_istore_n (pc := 61) C (i := 2) dX10_placeOf_61 rfl (by decide) rfl ?_
          refine r_iinc (pc := 62) C (v := (x3 + 1)) dX10_placeOf_62 rfl rfl (by decide) rfl ?_
          refine r_goto (pc := 65) C (tgt := 4) dX10_placeOf_65 rfl ?_
          refine r_weak (lSub_s (lSub_s (lSub_s (lSub_s (lSub_n lSub_e))))) ?_
          exact ih x1 v11 (x3 + 1) q  h hq
        · rw [if_neg c10] at h
          refine r_iconst (pc := 55) C (v := 1) dX10_placeOf_55 (by decide) ?_
          refine r_goto (pc := 56) C (tgt := 60) dX10_placeOf_56 rfl ?_
          refine r_iadd (pc := 60) C dX10_placeOf_60 ?_
          obtain ⟨v12, hv12, h⟩ := lt_e h
          refine r_topi hv12 ?_
          refine r_istore_n (pc := 61) C (i := 2) dX10_placeOf_61 rfl (by decide) rfl ?_
          refine r_iinc (pc := 62) C (v := (x3 + 1)) dX10_placeOf_62 rfl rfl (by decide) rfl ?_
          refine r_goto (pc := 65) C (tgt := 4) dX10_placeOf_65 rfl ?_
          refine r_weak (lSub_s (lSub_s (lSub_s (lSub_s (lSub_n lSub_e))))) ?_
          exact ih x1 v12 (x3 + 1) q  h hq
def M_X10_placeOf_0 (k : Nat) (S : Nat → Nat → Int32) (p0 : Int32) : Option (Int32) := M_X10_placeOf_4 k S k p0 (0 : Int32) (0 : Int32)
set_option maxRecDepth 100000 in
set_option maxHeartbeats 4000000 in
theorem N_X10_placeOf_0 (C : CX E p l s m args meth c cX10_placeOf 5 RX10 (some .int) A) (a : Nat → Nat) (k : Nat) (S : Nat → Nat → Int32) {post : Int32 → va_W → Prop} :
    ∀ (p0 : Int32) (q : Int32), M_X10_placeOf_0 k S p0 = some q → post q (wMd E a S) →
      WW E p l e rm_X10_placeOf s m args below meth c A 0 0 (QI E below post args s rm_X10_placeOf A) (wMd E a S) 5 [some (.ref (a 0)), some (.int p0), none, none, none] 0 [] := by
  intro p0 q  h hq
  unfold M_X10_placeOf_0 at h
  refine r_iconst (pc := 0) C (v := 0) dX10_placeOf_0 (by decide) ?_
  refine r_istore_n (pc := 1) C (i := 2) dX10_placeOf_1 rfl (by decide) rfl ?_
  refine r_iconst (pc := 2) C (v := 0) dX10_placeOf_2 (by decide) ?_
  refine r_istore_n (pc := 3) C (i := 3) dX10_placeOf_3 rfl (by decide) rfl ?_
  refine r_weak (lSub_s (lSub_s (lSub_s (lSub_s (lSub_n lSub_e))))) ?_
  exact N_X10_placeOf_4 C a k S k p0 (0 : Int32) (0 : Int32) q  h hq
def M_X10_placeOf (k : Nat) (S : Nat → Nat → Int32) (p0 : Int32) : Option (Int32) := M_X10_placeOf_0 k S p0
set_option maxRecDepth 100000 in
set_option maxHeartbeats 4000000 in
theorem c_X10_placeOf (E : ENV) (l : Launch) (k : Nat) (a : Nat → Nat) (S : Nat → Nat → Int32) (p0 : Int32) {q : Int32} (hm : M_X10_placeOf k S p0 = some q) : CI E l yX10_placeOf cX10_placeOf 5 (some .int) rm_X10_placeOf [.ref (a 0), .int p0] (wMd E a S) (fun r w' => r = q ∧ w' = (wMd E a S)) :=
  CI.of 3 (by decide) (Nat.le_of_ble_eq_true rfl) (fun p e s m below meth c A C _ => r_weak (lSub_s (lSub_s (lSub_n (lSub_n (lSub_n lSub_e))))) (N_X10_placeOf_0 C a k S p0 q  hm ⟨rfl, rfl⟩))
end WALKS
